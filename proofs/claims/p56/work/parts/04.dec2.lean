-- printed rows: each instruction of each method
theorem dX6_copyFrom_1 : decode cX6_copyFrom 1 = .ok (.aload_n 1, 1) := by decide +kernel
theorem dX6_copyFrom_2 : decode cX6_copyFrom 2 = .ok (.getfield 13, 3) := by decide +kernel
theorem dX6_copyFrom_5 : decode cX6_copyFrom 5 = .ok (.putfield 13, 3) := by decide +kernel
theorem dX6_copyFrom_8 : decode cX6_copyFrom 8 = .ok (.aload_n 0, 1) := by decide +kernel
theorem dX6_copyFrom_9 : decode cX6_copyFrom 9 = .ok (.aload_n 1, 1) := by decide +kernel
theorem dX6_copyFrom_10 : decode cX6_copyFrom 10 = .ok (.getfield 16, 3) := by decide +kernel
theorem dX6_copyFrom_13 : decode cX6_copyFrom 13 = .ok (.putfield 16, 3) := by decide +kernel
theorem dX6_copyFrom_16 : decode cX6_copyFrom 16 = .ok (.aload_n 0, 1) := by decide +kernel
theorem dX6_copyFrom_17 : decode cX6_copyFrom 17 = .ok (.aload_n 1, 1) := by decide +kernel
theorem dX6_copyFrom_18 : decode cX6_copyFrom 18 = .ok (.getfield 19, 3) := by decide +kernel
theorem dX6_copyFrom_21 : decode cX6_copyFrom 21 = .ok (.putfield 19, 3) := by decide +kernel
theorem dX6_copyFrom_24 : decode cX6_copyFrom 24 = .ok (.aload_n 0, 1) := by decide +kernel
theorem dX6_copyFrom_25 : decode cX6_copyFrom 25 = .ok (.aload_n 1, 1) := by decide +kernel
theorem dX6_copyFrom_26 : decode cX6_copyFrom 26 = .ok (.getfield 22, 3) := by decide +kernel
theorem dX6_copyFrom_29 : decode cX6_copyFrom 29 = .ok (.putfield 22, 3) := by decide +kernel
theorem dX6_copyFrom_32 : decode cX6_copyFrom 32 = .ok (.aload_n 0, 1) := by decide +kernel
theorem dX6_copyFrom_33 : decode cX6_copyFrom 33 = .ok (.aload_n 1, 1) := by decide +kernel
theorem dX6_copyFrom_34 : decode cX6_copyFrom 34 = .ok (.getfield 25, 3) := by decide +kernel
theorem dX6_copyFrom_37 : decode cX6_copyFrom 37 = .ok (.putfield 25, 3) := by decide +kernel
theorem dX6_copyFrom_40 : decode cX6_copyFrom 40 = .ok (.aload_n 0, 1) := by decide +kernel
theorem dX6_copyFrom_41 : decode cX6_copyFrom 41 = .ok (.aload_n 1, 1) := by decide +kernel
theorem dX6_copyFrom_42 : decode cX6_copyFrom 42 = .ok (.getfield 28, 3) := by decide +kernel
theorem dX6_copyFrom_45 : decode cX6_copyFrom 45 = .ok (.putfield 28, 3) := by decide +kernel
theorem dX6_copyFrom_48 : decode cX6_copyFrom 48 = .ok (.aload_n 0, 1) := by decide +kernel
theorem dX6_copyFrom_49 : decode cX6_copyFrom 49 = .ok (.aload_n 1, 1) := by decide +kernel
theorem dX6_copyFrom_50 : decode cX6_copyFrom 50 = .ok (.getfield 31, 3) := by decide +kernel
theorem dX6_copyFrom_53 : decode cX6_copyFrom 53 = .ok (.putfield 31, 3) := by decide +kernel
theorem dX6_copyFrom_56 : decode cX6_copyFrom 56 = .ok (.aload_n 0, 1) := by decide +kernel
theorem dX6_copyFrom_57 : decode cX6_copyFrom 57 = .ok (.aload_n 1, 1) := by decide +kernel
theorem dX6_copyFrom_58 : decode cX6_copyFrom 58 = .ok (.getfield 34, 3) := by decide +kernel
theorem dX6_copyFrom_61 : decode cX6_copyFrom 61 = .ok (.putfield 34, 3) := by decide +kernel
theorem dX6_copyFrom_64 : decode cX6_copyFrom 64 = .ok (.return_, 1) := by decide +kernel
theorem dX6_isAfloat_0 : decode cX6_isAfloat 0 = .ok (.aload_n 0, 1) := by decide +kernel
theorem dX6_isAfloat_1 : decode cX6_isAfloat 1 = .ok (.getfield 25, 3) := by decide +kernel
theorem dX6_isAfloat_4 : decode cX6_isAfloat 4 = .ok (.ifCond .le 7, 3) := by decide +kernel
theorem dX6_isAfloat_7 : decode cX6_isAfloat 7 = .ok (.iconst 1, 1) := by decide +kernel
theorem dX6_isAfloat_8 : decode cX6_isAfloat 8 = .ok (.goto 4, 3) := by decide +kernel
theorem dX6_isAfloat_11 : decode cX6_isAfloat 11 = .ok (.iconst 0, 1) := by decide +kernel
theorem dX6_isAfloat_12 : decode cX6_isAfloat 12 = .ok (.ireturn, 1) := by decide +kernel
theorem dX6_isAfloatOf_0 : decode cX6_isAfloatOf 0 = .ok (.aload_n 0, 1) := by decide +kernel
theorem dX6_isAfloatOf_1 : decode cX6_isAfloatOf 1 = .ok (.invokevirtual 37, 3) := by decide +kernel
theorem dX6_isAfloatOf_4 : decode cX6_isAfloatOf 4 = .ok (.ifCond .eq 15, 3) := by decide +kernel
theorem dX6_isAfloatOf_7 : decode cX6_isAfloatOf 7 = .ok (.aload_n 0, 1) := by decide +kernel
theorem dX6_isAfloatOf_8 : decode cX6_isAfloatOf 8 = .ok (.getfield 13, 3) := by decide +kernel
theorem dX6_isAfloatOf_11 : decode cX6_isAfloatOf 11 = .ok (.iload_n 1, 1) := by decide +kernel
theorem dX6_isAfloatOf_12 : decode cX6_isAfloatOf 12 = .ok (.if_icmp .ne 7, 3) := by decide +kernel
theorem dX6_isAfloatOf_15 : decode cX6_isAfloatOf 15 = .ok (.iconst 1, 1) := by decide +kernel
theorem dX6_isAfloatOf_16 : decode cX6_isAfloatOf 16 = .ok (.goto 4, 3) := by decide +kernel
theorem dX6_isAfloatOf_19 : decode cX6_isAfloatOf 19 = .ok (.iconst 0, 1) := by decide +kernel
theorem dX6_isAfloatOf_20 : decode cX6_isAfloatOf 20 = .ok (.ireturn, 1) := by decide +kernel
theorem dX6_isIn_0 : decode cX6_isIn 0 = .ok (.aload_n 0, 1) := by decide +kernel
theorem dX6_isIn_1 : decode cX6_isIn 1 = .ok (.getfield 16, 3) := by decide +kernel
theorem dX6_isIn_4 : decode cX6_isIn 4 = .ok (.iload_n 1, 1) := by decide +kernel
theorem dX6_isIn_5 : decode cX6_isIn 5 = .ok (.if_icmp .ne 15, 3) := by decide +kernel
theorem dX6_isIn_8 : decode cX6_isIn 8 = .ok (.aload_n 0, 1) := by decide +kernel
theorem dX6_isIn_9 : decode cX6_isIn 9 = .ok (.getfield 19, 3) := by decide +kernel
theorem dX6_isIn_12 : decode cX6_isIn 12 = .ok (.iload_n 2, 1) := by decide +kernel
theorem dX6_isIn_13 : decode cX6_isIn 13 = .ok (.if_icmp .ne 7, 3) := by decide +kernel
theorem dX6_isIn_16 : decode cX6_isIn 16 = .ok (.iconst 1, 1) := by decide +kernel
theorem dX6_isIn_17 : decode cX6_isIn 17 = .ok (.goto 4, 3) := by decide +kernel
theorem dX6_isIn_20 : decode cX6_isIn 20 = .ok (.iconst 0, 1) := by decide +kernel
theorem dX6_isIn_21 : decode cX6_isIn 21 = .ok (.ireturn, 1) := by decide +kernel
theorem dX6_distanceTo_0 : decode cX6_distanceTo 0 = .ok (.iload_n 1, 1) := by decide +kernel
theorem dX6_distanceTo_1 : decode cX6_distanceTo 1 = .ok (.aload_n 0, 1) := by decide +kernel
theorem dX6_distanceTo_2 : decode cX6_distanceTo 2 = .ok (.getfield 16, 3) := by decide +kernel
theorem dX6_distanceTo_5 : decode cX6_distanceTo 5 = .ok (.isub, 1) := by decide +kernel
theorem dX6_distanceTo_6 : decode cX6_distanceTo 6 = .ok (.invokestatic 41, 3) := by decide +kernel
theorem dX6_distanceTo_9 : decode cX6_distanceTo 9 = .ok (.iload_n 2, 1) := by decide +kernel
theorem dX6_distanceTo_10 : decode cX6_distanceTo 10 = .ok (.aload_n 0, 1) := by decide +kernel
theorem dX6_distanceTo_11 : decode cX6_distanceTo 11 = .ok (.getfield 19, 3) := by decide +kernel
theorem dX6_distanceTo_14 : decode cX6_distanceTo 14 = .ok (.isub, 1) := by decide +kernel
theorem dX6_distanceTo_15 : decode cX6_distanceTo 15 = .ok (.invokestatic 41, 3) := by decide +kernel
theorem dX6_distanceTo_18 : decode cX6_distanceTo 18 = .ok (.invokestatic 47, 3) := by decide +kernel
theorem dX6_distanceTo_21 : decode cX6_distanceTo 21 = .ok (.ireturn, 1) := by decide +kernel
theorem dX6_isInRange_0 : decode cX6_isInRange 0 = .ok (.aload_n 0, 1) := by decide +kernel
theorem dX6_isInRange_1 : decode cX6_isInRange 1 = .ok (.iload_n 1, 1) := by decide +kernel
theorem dX6_isInRange_2 : decode cX6_isInRange 2 = .ok (.iload_n 2, 1) := by decide +kernel
theorem dX6_isInRange_3 : decode cX6_isInRange 3 = .ok (.invokevirtual 51, 3) := by decide +kernel
theorem dX6_isInRange_6 : decode cX6_isInRange 6 = .ok (.istore_n 3, 1) := by decide +kernel
theorem dX6_isInRange_7 : decode cX6_isInRange 7 = .ok (.iload_n 3, 1) := by decide +kernel
theorem dX6_isInRange_8 : decode cX6_isInRange 8 = .ok (.iconst 1, 1) := by decide +kernel
theorem dX6_isInRange_9 : decode cX6_isInRange 9 = .ok (.if_icmp .lt 15, 3) := by decide +kernel
theorem dX6_isInRange_12 : decode cX6_isInRange 12 = .ok (.iload_n 3, 1) := by decide +kernel
theorem dX6_isInRange_13 : decode cX6_isInRange 13 = .ok (.aload_n 0, 1) := by decide +kernel
theorem dX6_isInRange_14 : decode cX6_isInRange 14 = .ok (.getfield 28, 3) := by decide +kernel
theorem dX6_isInRange_17 : decode cX6_isInRange 17 = .ok (.if_icmp .gt 7, 3) := by decide +kernel
theorem dX6_isInRange_20 : decode cX6_isInRange 20 = .ok (.iconst 1, 1) := by decide +kernel
theorem dX6_isInRange_21 : decode cX6_isInRange 21 = .ok (.goto 4, 3) := by decide +kernel
theorem dX6_isInRange_24 : decode cX6_isInRange 24 = .ok (.iconst 0, 1) := by decide +kernel
theorem dX6_isInRange_25 : decode cX6_isInRange 25 = .ok (.ireturn, 1) := by decide +kernel
theorem dX6_reaches_0 : decode cX6_reaches 0 = .ok (.aload_n 0, 1) := by decide +kernel
theorem dX6_reaches_1 : decode cX6_reaches 1 = .ok (.invokevirtual 37, 3) := by decide +kernel
theorem dX6_reaches_4 : decode cX6_reaches 4 = .ok (.ifCond .eq 42, 3) := by decide +kernel
theorem dX6_reaches_7 : decode cX6_reaches 7 = .ok (.aload_n 0, 1) := by decide +kernel
theorem dX6_reaches_8 : decode cX6_reaches 8 = .ok (.iload_n 1, 1) := by decide +kernel
theorem dX6_reaches_9 : decode cX6_reaches 9 = .ok (.iload_n 2, 1) := by decide +kernel
theorem dX6_reaches_10 : decode cX6_reaches 10 = .ok (.invokevirtual 54, 3) := by decide +kernel
theorem dX6_reaches_13 : decode cX6_reaches 13 = .ok (.ifCond .eq 33, 3) := by decide +kernel
theorem dX6_reaches_16 : decode cX6_reaches 16 = .ok (.aload_n 0, 1) := by decide +kernel
theorem dX6_reaches_17 : decode cX6_reaches 17 = .ok (.getfield 22, 3) := by decide +kernel
theorem dX6_reaches_20 : decode cX6_reaches 20 = .ok (.iload_n 1, 1) := by decide +kernel
theorem dX6_reaches_21 : decode cX6_reaches 21 = .ok (.aload_n 0, 1) := by decide +kernel
theorem dX6_reaches_22 : decode cX6_reaches 22 = .ok (.getfield 16, 3) := by decide +kernel
theorem dX6_reaches_25 : decode cX6_reaches 25 = .ok (.isub, 1) := by decide +kernel
theorem dX6_reaches_26 : decode cX6_reaches 26 = .ok (.iload_n 2, 1) := by decide +kernel
theorem dX6_reaches_27 : decode cX6_reaches 27 = .ok (.aload_n 0, 1) := by decide +kernel
theorem dX6_reaches_28 : decode cX6_reaches 28 = .ok (.getfield 19, 3) := by decide +kernel
theorem dX6_reaches_31 : decode cX6_reaches 31 = .ok (.isub, 1) := by decide +kernel
theorem dX6_reaches_32 : decode cX6_reaches 32 = .ok (.invokestatic 58, 3) := by decide +kernel
theorem dX6_reaches_35 : decode cX6_reaches 35 = .ok (.invokestatic 63, 3) := by decide +kernel
theorem dX6_reaches_38 : decode cX6_reaches 38 = .ok (.iconst 1, 1) := by decide +kernel
theorem dX6_reaches_39 : decode cX6_reaches 39 = .ok (.if_icmp .gt 7, 3) := by decide +kernel
theorem dX6_reaches_42 : decode cX6_reaches 42 = .ok (.iconst 1, 1) := by decide +kernel
theorem dX6_reaches_43 : decode cX6_reaches 43 = .ok (.goto 4, 3) := by decide +kernel
theorem dX6_reaches_46 : decode cX6_reaches 46 = .ok (.iconst 0, 1) := by decide +kernel
theorem dX6_reaches_47 : decode cX6_reaches 47 = .ok (.ireturn, 1) := by decide +kernel
theorem dX6_becomeKnown_0 : decode cX6_becomeKnown 0 = .ok (.aload_n 0, 1) := by decide +kernel
theorem dX6_becomeKnown_1 : decode cX6_becomeKnown 1 = .ok (.aload_n 0, 1) := by decide +kernel
theorem dX6_becomeKnown_2 : decode cX6_becomeKnown 2 = .ok (.getfield 16, 3) := by decide +kernel
theorem dX6_becomeKnown_5 : decode cX6_becomeKnown 5 = .ok (.putfield 31, 3) := by decide +kernel
theorem dX6_becomeKnown_8 : decode cX6_becomeKnown 8 = .ok (.aload_n 0, 1) := by decide +kernel
theorem dX6_becomeKnown_9 : decode cX6_becomeKnown 9 = .ok (.aload_n 0, 1) := by decide +kernel
theorem dX6_becomeKnown_10 : decode cX6_becomeKnown 10 = .ok (.getfield 19, 3) := by decide +kernel
theorem dX6_becomeKnown_13 : decode cX6_becomeKnown 13 = .ok (.putfield 34, 3) := by decide +kernel
theorem dX6_becomeKnown_16 : decode cX6_becomeKnown 16 = .ok (.return_, 1) := by decide +kernel
theorem dX6_ranksBefore_0 : decode cX6_ranksBefore 0 = .ok (.aload_n 0, 1) := by decide +kernel
theorem dX6_ranksBefore_1 : decode cX6_ranksBefore 1 = .ok (.getfield 28, 3) := by decide +kernel
theorem dX6_ranksBefore_4 : decode cX6_ranksBefore 4 = .ok (.aload_n 1, 1) := by decide +kernel
theorem dX6_ranksBefore_5 : decode cX6_ranksBefore 5 = .ok (.getfield 28, 3) := by decide +kernel
theorem dX6_ranksBefore_8 : decode cX6_ranksBefore 8 = .ok (.if_icmp .eq 20, 3) := by decide +kernel
theorem dX6_ranksBefore_11 : decode cX6_ranksBefore 11 = .ok (.aload_n 0, 1) := by decide +kernel
theorem dX6_ranksBefore_12 : decode cX6_ranksBefore 12 = .ok (.getfield 28, 3) := by decide +kernel
theorem dX6_ranksBefore_15 : decode cX6_ranksBefore 15 = .ok (.aload_n 1, 1) := by decide +kernel
theorem dX6_ranksBefore_16 : decode cX6_ranksBefore 16 = .ok (.getfield 28, 3) := by decide +kernel
theorem dX6_ranksBefore_19 : decode cX6_ranksBefore 19 = .ok (.if_icmp .le 7, 3) := by decide +kernel
theorem dX6_ranksBefore_22 : decode cX6_ranksBefore 22 = .ok (.iconst 1, 1) := by decide +kernel
theorem dX6_ranksBefore_23 : decode cX6_ranksBefore 23 = .ok (.goto 4, 3) := by decide +kernel
theorem dX6_ranksBefore_26 : decode cX6_ranksBefore 26 = .ok (.iconst 0, 1) := by decide +kernel
theorem dX6_ranksBefore_27 : decode cX6_ranksBefore 27 = .ok (.ireturn, 1) := by decide +kernel
theorem dX6_ranksBefore_28 : decode cX6_ranksBefore 28 = .ok (.aload_n 0, 1) := by decide +kernel
theorem dX6_ranksBefore_29 : decode cX6_ranksBefore 29 = .ok (.getfield 25, 3) := by decide +kernel
theorem dX6_ranksBefore_32 : decode cX6_ranksBefore 32 = .ok (.aload_n 1, 1) := by decide +kernel
theorem dX6_ranksBefore_33 : decode cX6_ranksBefore 33 = .ok (.getfield 25, 3) := by decide +kernel
theorem dX6_ranksBefore_36 : decode cX6_ranksBefore 36 = .ok (.if_icmp .eq 20, 3) := by decide +kernel
theorem dX6_ranksBefore_39 : decode cX6_ranksBefore 39 = .ok (.aload_n 0, 1) := by decide +kernel
theorem dX6_ranksBefore_40 : decode cX6_ranksBefore 40 = .ok (.getfield 25, 3) := by decide +kernel
theorem dX6_ranksBefore_43 : decode cX6_ranksBefore 43 = .ok (.aload_n 1, 1) := by decide +kernel
theorem dX6_ranksBefore_44 : decode cX6_ranksBefore 44 = .ok (.getfield 25, 3) := by decide +kernel
theorem dX6_ranksBefore_47 : decode cX6_ranksBefore 47 = .ok (.if_icmp .le 7, 3) := by decide +kernel
theorem dX6_ranksBefore_50 : decode cX6_ranksBefore 50 = .ok (.iconst 1, 1) := by decide +kernel
theorem dX6_ranksBefore_51 : decode cX6_ranksBefore 51 = .ok (.goto 4, 3) := by decide +kernel
theorem dX6_ranksBefore_54 : decode cX6_ranksBefore 54 = .ok (.iconst 0, 1) := by decide +kernel
theorem dX6_ranksBefore_55 : decode cX6_ranksBefore 55 = .ok (.ireturn, 1) := by decide +kernel
theorem dX6_ranksBefore_56 : decode cX6_ranksBefore 56 = .ok (.aload_n 0, 1) := by decide +kernel
theorem dX6_ranksBefore_57 : decode cX6_ranksBefore 57 = .ok (.getfield 7, 3) := by decide +kernel
theorem dX6_ranksBefore_60 : decode cX6_ranksBefore 60 = .ok (.aload_n 1, 1) := by decide +kernel
theorem dX6_ranksBefore_61 : decode cX6_ranksBefore 61 = .ok (.getfield 7, 3) := by decide +kernel
theorem dX6_ranksBefore_64 : decode cX6_ranksBefore 64 = .ok (.if_icmp .ge 7, 3) := by decide +kernel
theorem dX6_ranksBefore_67 : decode cX6_ranksBefore 67 = .ok (.iconst 1, 1) := by decide +kernel
theorem dX6_ranksBefore_68 : decode cX6_ranksBefore 68 = .ok (.goto 4, 3) := by decide +kernel
theorem dX6_ranksBefore_71 : decode cX6_ranksBefore 71 = .ok (.iconst 0, 1) := by decide +kernel
theorem dX6_ranksBefore_72 : decode cX6_ranksBefore 72 = .ok (.ireturn, 1) := by decide +kernel
theorem dX6_letter_0 : decode cX6_letter 0 = .ok (.aload_n 0, 1) := by decide +kernel
theorem dX6_letter_1 : decode cX6_letter 1 = .ok (.getfield 13, 3) := by decide +kernel
theorem dX6_letter_4 : decode cX6_letter 4 = .ok (.ifCond .ne 8, 3) := by decide +kernel
theorem dX6_letter_7 : decode cX6_letter 7 = .ok (.bipush 97, 2) := by decide +kernel
theorem dX6_letter_9 : decode cX6_letter 9 = .ok (.goto 5, 3) := by decide +kernel
theorem dX6_letter_12 : decode cX6_letter 12 = .ok (.bipush 65, 2) := by decide +kernel
theorem dX6_letter_14 : decode cX6_letter 14 = .ok (.aload_n 0, 1) := by decide +kernel
theorem dX6_letter_15 : decode cX6_letter 15 = .ok (.getfield 7, 3) := by decide +kernel
theorem dX6_letter_18 : decode cX6_letter 18 = .ok (.iadd, 1) := by decide +kernel
theorem dX6_letter_19 : decode cX6_letter 19 = .ok (.i2c, 1) := by decide +kernel
theorem dX6_letter_20 : decode cX6_letter 20 = .ok (.ireturn, 1) := by decide +kernel
theorem dX7_init_0 : decode cX7_init 0 = .ok (.aload_n 0, 1) := by decide +kernel
theorem dX7_init_1 : decode cX7_init 1 = .ok (.invokespecial 1, 3) := by decide +kernel
theorem dX7_init_4 : decode cX7_init 4 = .ok (.aload_n 0, 1) := by decide +kernel
theorem dX7_init_5 : decode cX7_init 5 = .ok (.new 7, 3) := by decide +kernel
theorem dX7_init_8 : decode cX7_init 8 = .ok (.dup, 1) := by decide +kernel
theorem dX7_init_9 : decode cX7_init 9 = .ok (.invokespecial 9, 3) := by decide +kernel
theorem dX7_init_12 : decode cX7_init 12 = .ok (.putfield 10, 3) := by decide +kernel
theorem dX7_init_15 : decode cX7_init 15 = .ok (.aload_n 0, 1) := by decide +kernel
theorem dX7_init_16 : decode cX7_init 16 = .ok (.new 7, 3) := by decide +kernel
theorem dX7_init_19 : decode cX7_init 19 = .ok (.dup, 1) := by decide +kernel
theorem dX7_init_20 : decode cX7_init 20 = .ok (.invokespecial 9, 3) := by decide +kernel
theorem dX7_init_23 : decode cX7_init 23 = .ok (.putfield 16, 3) := by decide +kernel
theorem dX7_init_26 : decode cX7_init 26 = .ok (.aload_n 0, 1) := by decide +kernel
theorem dX7_init_27 : decode cX7_init 27 = .ok (.new 7, 3) := by decide +kernel
theorem dX7_init_30 : decode cX7_init 30 = .ok (.dup, 1) := by decide +kernel
theorem dX7_init_31 : decode cX7_init 31 = .ok (.invokespecial 9, 3) := by decide +kernel
theorem dX7_init_34 : decode cX7_init 34 = .ok (.putfield 19, 3) := by decide +kernel
theorem dX7_init_37 : decode cX7_init 37 = .ok (.aload_n 0, 1) := by decide +kernel
theorem dX7_init_38 : decode cX7_init 38 = .ok (.new 22, 3) := by decide +kernel
theorem dX7_init_41 : decode cX7_init 41 = .ok (.dup, 1) := by decide +kernel
theorem dX7_init_42 : decode cX7_init 42 = .ok (.invokespecial 24, 3) := by decide +kernel
theorem dX7_init_45 : decode cX7_init 45 = .ok (.putfield 25, 3) := by decide +kernel
theorem dX7_init_48 : decode cX7_init 48 = .ok (.aload_n 0, 1) := by decide +kernel
theorem dX7_init_49 : decode cX7_init 49 = .ok (.new 29, 3) := by decide +kernel
theorem dX7_init_52 : decode cX7_init 52 = .ok (.dup, 1) := by decide +kernel
theorem dX7_init_53 : decode cX7_init 53 = .ok (.invokespecial 31, 3) := by decide +kernel
theorem dX7_init_56 : decode cX7_init 56 = .ok (.putfield 32, 3) := by decide +kernel
theorem dX7_init_59 : decode cX7_init 59 = .ok (.aload_n 0, 1) := by decide +kernel
theorem dX7_init_60 : decode cX7_init 60 = .ok (.bipush 10, 2) := by decide +kernel
theorem dX7_init_62 : decode cX7_init 62 = .ok (.newarray .char, 2) := by decide +kernel
theorem dX7_init_64 : decode cX7_init 64 = .ok (.putfield 36, 3) := by decide +kernel
theorem dX7_init_67 : decode cX7_init 67 = .ok (.aload_n 0, 1) := by decide +kernel
theorem dX7_init_68 : decode cX7_init 68 = .ok (.iconst 0, 1) := by decide +kernel
theorem dX7_init_69 : decode cX7_init 69 = .ok (.putfield 40, 3) := by decide +kernel
theorem dX7_init_72 : decode cX7_init 72 = .ok (.aload_n 0, 1) := by decide +kernel
theorem dX7_init_73 : decode cX7_init 73 = .ok (.iconst 0, 1) := by decide +kernel
theorem dX7_init_74 : decode cX7_init 74 = .ok (.putfield 44, 3) := by decide +kernel
theorem dX7_init_77 : decode cX7_init 77 = .ok (.aload_n 0, 1) := by decide +kernel
theorem dX7_init_78 : decode cX7_init 78 = .ok (.iconst 0, 1) := by decide +kernel
theorem dX7_init_79 : decode cX7_init 79 = .ok (.putfield 48, 3) := by decide +kernel
theorem dX7_init_82 : decode cX7_init 82 = .ok (.aload_n 0, 1) := by decide +kernel
theorem dX7_init_83 : decode cX7_init 83 = .ok (.iconst (-1), 1) := by decide +kernel
theorem dX7_init_84 : decode cX7_init 84 = .ok (.putfield 51, 3) := by decide +kernel
theorem dX7_init_87 : decode cX7_init 87 = .ok (.aload_n 0, 1) := by decide +kernel
theorem dX7_init_88 : decode cX7_init 88 = .ok (.iconst (-1), 1) := by decide +kernel
theorem dX7_init_89 : decode cX7_init 89 = .ok (.putfield 54, 3) := by decide +kernel
theorem dX7_init_92 : decode cX7_init 92 = .ok (.return_, 1) := by decide +kernel
theorem dX7_addSpoon_0 : decode cX7_addSpoon 0 = .ok (.aload_n 0, 1) := by decide +kernel
theorem dX7_addSpoon_1 : decode cX7_addSpoon 1 = .ok (.getfield 16, 3) := by decide +kernel
theorem dX7_addSpoon_4 : decode cX7_addSpoon 4 = .ok (.aload_n 0, 1) := by decide +kernel
theorem dX7_addSpoon_5 : decode cX7_addSpoon 5 = .ok (.getfield 10, 3) := by decide +kernel
theorem dX7_addSpoon_8 : decode cX7_addSpoon 8 = .ok (.invokevirtual 57, 3) := by decide +kernel
theorem dX7_addSpoon_11 : decode cX7_addSpoon 11 = .ok (.aload_n 0, 1) := by decide +kernel
theorem dX7_addSpoon_12 : decode cX7_addSpoon 12 = .ok (.aload_n 0, 1) := by decide +kernel
theorem dX7_addSpoon_13 : decode cX7_addSpoon 13 = .ok (.getfield 10, 3) := by decide +kernel
theorem dX7_addSpoon_16 : decode cX7_addSpoon 16 = .ok (.iload_n 1, 1) := by decide +kernel
theorem dX7_addSpoon_17 : decode cX7_addSpoon 17 = .ok (.iload_n 2, 1) := by decide +kernel
theorem dX7_addSpoon_18 : decode cX7_addSpoon 18 = .ok (.iload_n 3, 1) := by decide +kernel
theorem dX7_addSpoon_19 : decode cX7_addSpoon 19 = .ok (.iload 4, 2) := by decide +kernel
theorem dX7_addSpoon_21 : decode cX7_addSpoon 21 = .ok (.iload 5, 2) := by decide +kernel
theorem dX7_addSpoon_23 : decode cX7_addSpoon 23 = .ok (.invokevirtual 61, 3) := by decide +kernel
theorem dX7_addSpoon_26 : decode cX7_addSpoon 26 = .ok (.invokevirtual 65, 3) := by decide +kernel
theorem dX7_addSpoon_29 : decode cX7_addSpoon 29 = .ok (.ireturn, 1) := by decide +kernel
theorem dX7_start_0 : decode cX7_start 0 = .ok (.aload_n 0, 1) := by decide +kernel
theorem dX7_start_1 : decode cX7_start 1 = .ok (.getfield 16, 3) := by decide +kernel
theorem dX7_start_4 : decode cX7_start 4 = .ok (.aload_n 0, 1) := by decide +kernel
theorem dX7_start_5 : decode cX7_start 5 = .ok (.getfield 10, 3) := by decide +kernel
theorem dX7_start_8 : decode cX7_start 8 = .ok (.invokevirtual 57, 3) := by decide +kernel
theorem dX7_start_11 : decode cX7_start 11 = .ok (.aload_n 0, 1) := by decide +kernel
theorem dX7_start_12 : decode cX7_start 12 = .ok (.aload_n 0, 1) := by decide +kernel
theorem dX7_start_13 : decode cX7_start 13 = .ok (.getfield 10, 3) := by decide +kernel
theorem dX7_start_16 : decode cX7_start 16 = .ok (.invokevirtual 69, 3) := by decide +kernel
theorem dX7_start_19 : decode cX7_start 19 = .ok (.invokevirtual 65, 3) := by decide +kernel
theorem dX7_start_22 : decode cX7_start 22 = .ok (.ireturn, 1) := by decide +kernel
theorem dX7_endTurn_0 : decode cX7_endTurn 0 = .ok (.aload_n 0, 1) := by decide +kernel
theorem dX7_endTurn_1 : decode cX7_endTurn 1 = .ok (.getfield 16, 3) := by decide +kernel
theorem dX7_endTurn_4 : decode cX7_endTurn 4 = .ok (.aload_n 0, 1) := by decide +kernel
theorem dX7_endTurn_5 : decode cX7_endTurn 5 = .ok (.getfield 10, 3) := by decide +kernel
theorem dX7_endTurn_8 : decode cX7_endTurn 8 = .ok (.invokevirtual 57, 3) := by decide +kernel
theorem dX7_endTurn_11 : decode cX7_endTurn 11 = .ok (.aload_n 0, 1) := by decide +kernel
theorem dX7_endTurn_12 : decode cX7_endTurn 12 = .ok (.aload_n 0, 1) := by decide +kernel
theorem dX7_endTurn_13 : decode cX7_endTurn 13 = .ok (.getfield 10, 3) := by decide +kernel
theorem dX7_endTurn_16 : decode cX7_endTurn 16 = .ok (.invokevirtual 73, 3) := by decide +kernel
theorem dX7_endTurn_19 : decode cX7_endTurn 19 = .ok (.invokevirtual 65, 3) := by decide +kernel
theorem dX7_endTurn_22 : decode cX7_endTurn 22 = .ok (.ireturn, 1) := by decide +kernel
theorem dX7_isStarted_0 : decode cX7_isStarted 0 = .ok (.aload_n 0, 1) := by decide +kernel
theorem dX7_isStarted_1 : decode cX7_isStarted 1 = .ok (.getfield 10, 3) := by decide +kernel
theorem dX7_isStarted_4 : decode cX7_isStarted 4 = .ok (.getfield 76, 3) := by decide +kernel
theorem dX7_isStarted_7 : decode cX7_isStarted 7 = .ok (.ireturn, 1) := by decide +kernel
theorem dX7_isFinished_0 : decode cX7_isFinished 0 = .ok (.aload_n 0, 1) := by decide +kernel
theorem dX7_isFinished_1 : decode cX7_isFinished 1 = .ok (.getfield 10, 3) := by decide +kernel
theorem dX7_isFinished_4 : decode cX7_isFinished 4 = .ok (.invokevirtual 79, 3) := by decide +kernel
theorem dX7_isFinished_7 : decode cX7_isFinished 7 = .ok (.ireturn, 1) := by decide +kernel
theorem dX7_winner_0 : decode cX7_winner 0 = .ok (.aload_n 0, 1) := by decide +kernel
theorem dX7_winner_1 : decode cX7_winner 1 = .ok (.getfield 10, 3) := by decide +kernel
theorem dX7_winner_4 : decode cX7_winner 4 = .ok (.invokevirtual 79, 3) := by decide +kernel
theorem dX7_winner_7 : decode cX7_winner 7 = .ok (.ifCond .ne 13, 3) := by decide +kernel
theorem dX7_winner_10 : decode cX7_winner 10 = .ok (.new 83, 3) := by decide +kernel
theorem dX7_winner_13 : decode cX7_winner 13 = .ok (.dup, 1) := by decide +kernel
theorem dX7_winner_14 : decode cX7_winner 14 = .ok (.ldc 85, 2) := by decide +kernel
theorem dX7_winner_16 : decode cX7_winner 16 = .ok (.invokespecial 87, 3) := by decide +kernel
theorem dX7_winner_19 : decode cX7_winner 19 = .ok (.athrow, 1) := by decide +kernel
theorem dX7_winner_20 : decode cX7_winner 20 = .ok (.aload_n 0, 1) := by decide +kernel
theorem dX7_winner_21 : decode cX7_winner 21 = .ok (.getfield 10, 3) := by decide +kernel
theorem dX7_winner_24 : decode cX7_winner 24 = .ok (.iconst 0, 1) := by decide +kernel
theorem dX7_winner_25 : decode cX7_winner 25 = .ok (.invokevirtual 90, 3) := by decide +kernel
theorem dX7_winner_28 : decode cX7_winner 28 = .ok (.getfield 94, 3) := by decide +kernel
theorem dX7_winner_31 : decode cX7_winner 31 = .ok (.ifCond .le 7, 3) := by decide +kernel
theorem dX7_winner_34 : decode cX7_winner 34 = .ok (.iconst 0, 1) := by decide +kernel
theorem dX7_winner_35 : decode cX7_winner 35 = .ok (.goto 4, 3) := by decide +kernel
theorem dX7_winner_38 : decode cX7_winner 38 = .ok (.iconst 1, 1) := by decide +kernel
theorem dX7_winner_39 : decode cX7_winner 39 = .ok (.ireturn, 1) := by decide +kernel
theorem dX7_activeFleet_0 : decode cX7_activeFleet 0 = .ok (.aload_n 0, 1) := by decide +kernel
theorem dX7_activeFleet_1 : decode cX7_activeFleet 1 = .ok (.invokevirtual 99, 3) := by decide +kernel
theorem dX7_activeFleet_4 : decode cX7_activeFleet 4 = .ok (.aload_n 0, 1) := by decide +kernel
theorem dX7_activeFleet_5 : decode cX7_activeFleet 5 = .ok (.getfield 10, 3) := by decide +kernel
theorem dX7_activeFleet_8 : decode cX7_activeFleet 8 = .ok (.getfield 102, 3) := by decide +kernel
theorem dX7_activeFleet_11 : decode cX7_activeFleet 11 = .ok (.ireturn, 1) := by decide +kernel
theorem dX7_actionsLeft_0 : decode cX7_actionsLeft 0 = .ok (.aload_n 0, 1) := by decide +kernel
theorem dX7_actionsLeft_1 : decode cX7_actionsLeft 1 = .ok (.invokevirtual 99, 3) := by decide +kernel
theorem dX7_actionsLeft_4 : decode cX7_actionsLeft 4 = .ok (.aload_n 0, 1) := by decide +kernel
theorem dX7_actionsLeft_5 : decode cX7_actionsLeft 5 = .ok (.getfield 10, 3) := by decide +kernel
theorem dX7_actionsLeft_8 : decode cX7_actionsLeft 8 = .ok (.getfield 105, 3) := by decide +kernel
theorem dX7_actionsLeft_11 : decode cX7_actionsLeft 11 = .ok (.ireturn, 1) := by decide +kernel
theorem dX7_turnCount_0 : decode cX7_turnCount 0 = .ok (.aload_n 0, 1) := by decide +kernel
theorem dX7_turnCount_1 : decode cX7_turnCount 1 = .ok (.getfield 10, 3) := by decide +kernel
theorem dX7_turnCount_4 : decode cX7_turnCount 4 = .ok (.getfield 108, 3) := by decide +kernel
theorem dX7_turnCount_7 : decode cX7_turnCount 7 = .ok (.ireturn, 1) := by decide +kernel
theorem dX7_turnTo_0 : decode cX7_turnTo 0 = .ok (.aload_n 0, 1) := by decide +kernel
theorem dX7_turnTo_1 : decode cX7_turnTo 1 = .ok (.getfield 16, 3) := by decide +kernel
theorem dX7_turnTo_4 : decode cX7_turnTo 4 = .ok (.aload_n 0, 1) := by decide +kernel
theorem dX7_turnTo_5 : decode cX7_turnTo 5 = .ok (.getfield 10, 3) := by decide +kernel
theorem dX7_turnTo_8 : decode cX7_turnTo 8 = .ok (.invokevirtual 57, 3) := by decide +kernel
theorem dX7_turnTo_11 : decode cX7_turnTo 11 = .ok (.aload_n 0, 1) := by decide +kernel
theorem dX7_turnTo_12 : decode cX7_turnTo 12 = .ok (.aload_n 0, 1) := by decide +kernel
theorem dX7_turnTo_13 : decode cX7_turnTo 13 = .ok (.getfield 10, 3) := by decide +kernel
theorem dX7_turnTo_16 : decode cX7_turnTo 16 = .ok (.iload_n 1, 1) := by decide +kernel
theorem dX7_turnTo_17 : decode cX7_turnTo 17 = .ok (.iload_n 2, 1) := by decide +kernel
theorem dX7_turnTo_18 : decode cX7_turnTo 18 = .ok (.invokevirtual 111, 3) := by decide +kernel
theorem dX7_turnTo_21 : decode cX7_turnTo 21 = .ok (.invokevirtual 65, 3) := by decide +kernel
theorem dX7_turnTo_24 : decode cX7_turnTo 24 = .ok (.ireturn, 1) := by decide +kernel
theorem dX7_sail_0 : decode cX7_sail 0 = .ok (.aload_n 0, 1) := by decide +kernel
theorem dX7_sail_1 : decode cX7_sail 1 = .ok (.getfield 16, 3) := by decide +kernel
theorem dX7_sail_4 : decode cX7_sail 4 = .ok (.aload_n 0, 1) := by decide +kernel
theorem dX7_sail_5 : decode cX7_sail 5 = .ok (.getfield 10, 3) := by decide +kernel
theorem dX7_sail_8 : decode cX7_sail 8 = .ok (.invokevirtual 57, 3) := by decide +kernel
theorem dX7_sail_11 : decode cX7_sail 11 = .ok (.aload_n 0, 1) := by decide +kernel
theorem dX7_sail_12 : decode cX7_sail 12 = .ok (.aload_n 0, 1) := by decide +kernel
theorem dX7_sail_13 : decode cX7_sail 13 = .ok (.getfield 10, 3) := by decide +kernel
theorem dX7_sail_16 : decode cX7_sail 16 = .ok (.iload_n 1, 1) := by decide +kernel
theorem dX7_sail_17 : decode cX7_sail 17 = .ok (.iload_n 2, 1) := by decide +kernel
theorem dX7_sail_18 : decode cX7_sail 18 = .ok (.iload_n 3, 1) := by decide +kernel
theorem dX7_sail_19 : decode cX7_sail 19 = .ok (.invokevirtual 115, 3) := by decide +kernel
theorem dX7_sail_22 : decode cX7_sail 22 = .ok (.invokevirtual 65, 3) := by decide +kernel
theorem dX7_sail_25 : decode cX7_sail 25 = .ok (.ireturn, 1) := by decide +kernel
theorem dX7_fire_0 : decode cX7_fire 0 = .ok (.aload_n 0, 1) := by decide +kernel
theorem dX7_fire_1 : decode cX7_fire 1 = .ok (.getfield 16, 3) := by decide +kernel
theorem dX7_fire_4 : decode cX7_fire 4 = .ok (.aload_n 0, 1) := by decide +kernel
theorem dX7_fire_5 : decode cX7_fire 5 = .ok (.getfield 10, 3) := by decide +kernel
theorem dX7_fire_8 : decode cX7_fire 8 = .ok (.invokevirtual 57, 3) := by decide +kernel
theorem dX7_fire_11 : decode cX7_fire 11 = .ok (.aload_n 0, 1) := by decide +kernel
theorem dX7_fire_12 : decode cX7_fire 12 = .ok (.aload_n 0, 1) := by decide +kernel
theorem dX7_fire_13 : decode cX7_fire 13 = .ok (.getfield 10, 3) := by decide +kernel
theorem dX7_fire_16 : decode cX7_fire 16 = .ok (.iload_n 1, 1) := by decide +kernel
theorem dX7_fire_17 : decode cX7_fire 17 = .ok (.iload_n 2, 1) := by decide +kernel
theorem dX7_fire_18 : decode cX7_fire 18 = .ok (.iload_n 3, 1) := by decide +kernel
theorem dX7_fire_19 : decode cX7_fire 19 = .ok (.invokevirtual 119, 3) := by decide +kernel
theorem dX7_fire_22 : decode cX7_fire 22 = .ok (.invokevirtual 65, 3) := by decide +kernel
theorem dX7_fire_25 : decode cX7_fire 25 = .ok (.ireturn, 1) := by decide +kernel
theorem dX7_load_0 : decode cX7_load 0 = .ok (.aload_n 0, 1) := by decide +kernel
theorem dX7_load_1 : decode cX7_load 1 = .ok (.getfield 16, 3) := by decide +kernel
theorem dX7_load_4 : decode cX7_load 4 = .ok (.aload_n 0, 1) := by decide +kernel
theorem dX7_load_5 : decode cX7_load 5 = .ok (.getfield 10, 3) := by decide +kernel
theorem dX7_load_8 : decode cX7_load 8 = .ok (.invokevirtual 57, 3) := by decide +kernel
theorem dX7_load_11 : decode cX7_load 11 = .ok (.aload_n 0, 1) := by decide +kernel
theorem dX7_load_12 : decode cX7_load 12 = .ok (.aload_n 0, 1) := by decide +kernel
theorem dX7_load_13 : decode cX7_load 13 = .ok (.getfield 10, 3) := by decide +kernel
theorem dX7_load_16 : decode cX7_load 16 = .ok (.iload_n 1, 1) := by decide +kernel
theorem dX7_load_17 : decode cX7_load 17 = .ok (.iload_n 2, 1) := by decide +kernel
theorem dX7_load_18 : decode cX7_load 18 = .ok (.invokevirtual 123, 3) := by decide +kernel
theorem dX7_load_21 : decode cX7_load 21 = .ok (.invokevirtual 65, 3) := by decide +kernel
theorem dX7_load_24 : decode cX7_load 24 = .ok (.ireturn, 1) := by decide +kernel
theorem dX7_spoonCount_0 : decode cX7_spoonCount 0 = .ok (.aload_n 0, 1) := by decide +kernel
theorem dX7_spoonCount_1 : decode cX7_spoonCount 1 = .ok (.getfield 10, 3) := by decide +kernel
theorem dX7_spoonCount_4 : decode cX7_spoonCount 4 = .ok (.getfield 131, 3) := by decide +kernel
theorem dX7_spoonCount_7 : decode cX7_spoonCount 7 = .ok (.ireturn, 1) := by decide +kernel
theorem dX7_fleetOf_0 : decode cX7_fleetOf 0 = .ok (.aload_n 0, 1) := by decide +kernel
theorem dX7_fleetOf_1 : decode cX7_fleetOf 1 = .ok (.iload_n 1, 1) := by decide +kernel
theorem dX7_fleetOf_2 : decode cX7_fleetOf 2 = .ok (.invokevirtual 134, 3) := by decide +kernel
theorem dX7_fleetOf_5 : decode cX7_fleetOf 5 = .ok (.getfield 138, 3) := by decide +kernel
theorem dX7_fleetOf_8 : decode cX7_fleetOf 8 = .ok (.ireturn, 1) := by decide +kernel
theorem dX7_xOf_0 : decode cX7_xOf 0 = .ok (.aload_n 0, 1) := by decide +kernel
theorem dX7_xOf_1 : decode cX7_xOf 1 = .ok (.iload_n 1, 1) := by decide +kernel
theorem dX7_xOf_2 : decode cX7_xOf 2 = .ok (.invokevirtual 143, 3) := by decide +kernel
theorem dX7_xOf_5 : decode cX7_xOf 5 = .ok (.getfield 146, 3) := by decide +kernel
theorem dX7_xOf_8 : decode cX7_xOf 8 = .ok (.ireturn, 1) := by decide +kernel
theorem dX7_yOf_0 : decode cX7_yOf 0 = .ok (.aload_n 0, 1) := by decide +kernel
theorem dX7_yOf_1 : decode cX7_yOf 1 = .ok (.iload_n 1, 1) := by decide +kernel
theorem dX7_yOf_2 : decode cX7_yOf 2 = .ok (.invokevirtual 143, 3) := by decide +kernel
theorem dX7_yOf_5 : decode cX7_yOf 5 = .ok (.getfield 149, 3) := by decide +kernel
theorem dX7_yOf_8 : decode cX7_yOf 8 = .ok (.ireturn, 1) := by decide +kernel
theorem dX7_bearingOf_0 : decode cX7_bearingOf 0 = .ok (.aload_n 0, 1) := by decide +kernel
theorem dX7_bearingOf_1 : decode cX7_bearingOf 1 = .ok (.iload_n 1, 1) := by decide +kernel
theorem dX7_bearingOf_2 : decode cX7_bearingOf 2 = .ok (.invokevirtual 134, 3) := by decide +kernel
theorem dX7_bearingOf_5 : decode cX7_bearingOf 5 = .ok (.getfield 152, 3) := by decide +kernel
theorem dX7_bearingOf_8 : decode cX7_bearingOf 8 = .ok (.ireturn, 1) := by decide +kernel
theorem dX7_cubesOf_0 : decode cX7_cubesOf 0 = .ok (.aload_n 0, 1) := by decide +kernel
theorem dX7_cubesOf_1 : decode cX7_cubesOf 1 = .ok (.iload_n 1, 1) := by decide +kernel
theorem dX7_cubesOf_2 : decode cX7_cubesOf 2 = .ok (.invokevirtual 134, 3) := by decide +kernel
theorem dX7_cubesOf_5 : decode cX7_cubesOf 5 = .ok (.getfield 155, 3) := by decide +kernel
theorem dX7_cubesOf_8 : decode cX7_cubesOf 8 = .ok (.ireturn, 1) := by decide +kernel
theorem dX7_hullOf_0 : decode cX7_hullOf 0 = .ok (.aload_n 0, 1) := by decide +kernel
theorem dX7_hullOf_1 : decode cX7_hullOf 1 = .ok (.iload_n 1, 1) := by decide +kernel
theorem dX7_hullOf_2 : decode cX7_hullOf 2 = .ok (.invokevirtual 134, 3) := by decide +kernel
theorem dX7_hullOf_5 : decode cX7_hullOf 5 = .ok (.getfield 158, 3) := by decide +kernel
theorem dX7_hullOf_8 : decode cX7_hullOf 8 = .ok (.ireturn, 1) := by decide +kernel
theorem dX7_isSunk_0 : decode cX7_isSunk 0 = .ok (.aload_n 0, 1) := by decide +kernel
theorem dX7_isSunk_1 : decode cX7_isSunk 1 = .ok (.iload_n 1, 1) := by decide +kernel
theorem dX7_isSunk_2 : decode cX7_isSunk 2 = .ok (.invokevirtual 134, 3) := by decide +kernel
theorem dX7_isSunk_5 : decode cX7_isSunk 5 = .ok (.invokevirtual 161, 3) := by decide +kernel
theorem dX7_isSunk_8 : decode cX7_isSunk 8 = .ok (.ifCond .ne 7, 3) := by decide +kernel
theorem dX7_isSunk_11 : decode cX7_isSunk 11 = .ok (.iconst 1, 1) := by decide +kernel
theorem dX7_isSunk_12 : decode cX7_isSunk 12 = .ok (.goto 4, 3) := by decide +kernel
theorem dX7_isSunk_15 : decode cX7_isSunk 15 = .ok (.iconst 0, 1) := by decide +kernel
theorem dX7_isSunk_16 : decode cX7_isSunk 16 = .ok (.ireturn, 1) := by decide +kernel
theorem dX7_spoonAt_0 : decode cX7_spoonAt 0 = .ok (.iload_n 1, 1) := by decide +kernel
theorem dX7_spoonAt_1 : decode cX7_spoonAt 1 = .ok (.iload_n 2, 1) := by decide +kernel
theorem dX7_spoonAt_2 : decode cX7_spoonAt 2 = .ok (.invokestatic 164, 3) := by decide +kernel
theorem dX7_spoonAt_5 : decode cX7_spoonAt 5 = .ok (.aload_n 0, 1) := by decide +kernel
theorem dX7_spoonAt_6 : decode cX7_spoonAt 6 = .ok (.getfield 10, 3) := by decide +kernel
theorem dX7_spoonAt_9 : decode cX7_spoonAt 9 = .ok (.iload_n 1, 1) := by decide +kernel
theorem dX7_spoonAt_10 : decode cX7_spoonAt 10 = .ok (.iload_n 2, 1) := by decide +kernel
theorem dX7_spoonAt_11 : decode cX7_spoonAt 11 = .ok (.invokevirtual 168, 3) := by decide +kernel
theorem dX7_spoonAt_14 : decode cX7_spoonAt 14 = .ok (.astore_n 3, 1) := by decide +kernel
theorem dX7_spoonAt_15 : decode cX7_spoonAt 15 = .ok (.aload_n 3, 1) := by decide +kernel
theorem dX7_spoonAt_16 : decode cX7_spoonAt 16 = .ok (.ifnonnull 13, 3) := by decide +kernel
theorem dX7_spoonAt_19 : decode cX7_spoonAt 19 = .ok (.new 126, 3) := by decide +kernel
theorem dX7_spoonAt_22 : decode cX7_spoonAt 22 = .ok (.dup, 1) := by decide +kernel
theorem dX7_spoonAt_23 : decode cX7_spoonAt 23 = .ok (.ldc 172, 2) := by decide +kernel
theorem dX7_spoonAt_25 : decode cX7_spoonAt 25 = .ok (.invokespecial 130, 3) := by decide +kernel
theorem dX7_spoonAt_28 : decode cX7_spoonAt 28 = .ok (.athrow, 1) := by decide +kernel
theorem dX7_spoonAt_29 : decode cX7_spoonAt 29 = .ok (.aload_n 3, 1) := by decide +kernel
theorem dX7_spoonAt_30 : decode cX7_spoonAt 30 = .ok (.getfield 174, 3) := by decide +kernel
theorem dX7_spoonAt_33 : decode cX7_spoonAt 33 = .ok (.ireturn, 1) := by decide +kernel
theorem dX7_knownX_0 : decode cX7_knownX 0 = .ok (.aload_n 0, 1) := by decide +kernel
theorem dX7_knownX_1 : decode cX7_knownX 1 = .ok (.iload_n 1, 1) := by decide +kernel
theorem dX7_knownX_2 : decode cX7_knownX 2 = .ok (.invokevirtual 143, 3) := by decide +kernel
theorem dX7_knownX_5 : decode cX7_knownX 5 = .ok (.getfield 177, 3) := by decide +kernel
theorem dX7_knownX_8 : decode cX7_knownX 8 = .ok (.ireturn, 1) := by decide +kernel
theorem dX7_knownY_0 : decode cX7_knownY 0 = .ok (.aload_n 0, 1) := by decide +kernel
theorem dX7_knownY_1 : decode cX7_knownY 1 = .ok (.iload_n 1, 1) := by decide +kernel
theorem dX7_knownY_2 : decode cX7_knownY 2 = .ok (.invokevirtual 143, 3) := by decide +kernel
theorem dX7_knownY_5 : decode cX7_knownY 5 = .ok (.getfield 180, 3) := by decide +kernel
theorem dX7_knownY_8 : decode cX7_knownY 8 = .ok (.ireturn, 1) := by decide +kernel
theorem dX7_isHidden_0 : decode cX7_isHidden 0 = .ok (.aload_n 0, 1) := by decide +kernel
theorem dX7_isHidden_1 : decode cX7_isHidden 1 = .ok (.iload_n 1, 1) := by decide +kernel
theorem dX7_isHidden_2 : decode cX7_isHidden 2 = .ok (.invokevirtual 134, 3) := by decide +kernel
theorem dX7_isHidden_5 : decode cX7_isHidden 5 = .ok (.astore_n 2, 1) := by decide +kernel
theorem dX7_isHidden_6 : decode cX7_isHidden 6 = .ok (.aload_n 2, 1) := by decide +kernel
theorem dX7_isHidden_7 : decode cX7_isHidden 7 = .ok (.invokevirtual 161, 3) := by decide +kernel
theorem dX7_isHidden_10 : decode cX7_isHidden 10 = .ok (.ifCond .eq 29, 3) := by decide +kernel
theorem dX7_isHidden_13 : decode cX7_isHidden 13 = .ok (.aload_n 2, 1) := by decide +kernel
theorem dX7_isHidden_14 : decode cX7_isHidden 14 = .ok (.getfield 177, 3) := by decide +kernel
theorem dX7_isHidden_17 : decode cX7_isHidden 17 = .ok (.aload_n 2, 1) := by decide +kernel
theorem dX7_isHidden_18 : decode cX7_isHidden 18 = .ok (.getfield 146, 3) := by decide +kernel
theorem dX7_isHidden_21 : decode cX7_isHidden 21 = .ok (.if_icmp .ne 14, 3) := by decide +kernel
theorem dX7_isHidden_24 : decode cX7_isHidden 24 = .ok (.aload_n 2, 1) := by decide +kernel
theorem dX7_isHidden_25 : decode cX7_isHidden 25 = .ok (.getfield 180, 3) := by decide +kernel
theorem dX7_isHidden_28 : decode cX7_isHidden 28 = .ok (.aload_n 2, 1) := by decide +kernel
theorem dX7_isHidden_29 : decode cX7_isHidden 29 = .ok (.getfield 149, 3) := by decide +kernel
theorem dX7_isHidden_32 : decode cX7_isHidden 32 = .ok (.if_icmp .eq 7, 3) := by decide +kernel
theorem dX7_isHidden_35 : decode cX7_isHidden 35 = .ok (.iconst 1, 1) := by decide +kernel
theorem dX7_isHidden_36 : decode cX7_isHidden 36 = .ok (.goto 4, 3) := by decide +kernel
theorem dX7_isHidden_39 : decode cX7_isHidden 39 = .ok (.iconst 0, 1) := by decide +kernel
theorem dX7_isHidden_40 : decode cX7_isHidden 40 = .ok (.ireturn, 1) := by decide +kernel
theorem dX7_floating_0 : decode cX7_floating 0 = .ok (.iload_n 1, 1) := by decide +kernel
theorem dX7_floating_1 : decode cX7_floating 1 = .ok (.invokestatic 183, 3) := by decide +kernel
theorem dX7_floating_4 : decode cX7_floating 4 = .ok (.aload_n 0, 1) := by decide +kernel
theorem dX7_floating_5 : decode cX7_floating 5 = .ok (.getfield 10, 3) := by decide +kernel
theorem dX7_floating_8 : decode cX7_floating 8 = .ok (.iload_n 1, 1) := by decide +kernel
theorem dX7_floating_9 : decode cX7_floating 9 = .ok (.invokevirtual 90, 3) := by decide +kernel
theorem dX7_floating_12 : decode cX7_floating 12 = .ok (.getfield 94, 3) := by decide +kernel
theorem dX7_floating_15 : decode cX7_floating 15 = .ok (.ireturn, 1) := by decide +kernel
theorem dX7_spoonAtRank_0 : decode cX7_spoonAtRank 0 = .ok (.aload_n 0, 1) := by decide +kernel
theorem dX7_spoonAtRank_1 : decode cX7_spoonAtRank 1 = .ok (.getfield 10, 3) := by decide +kernel
theorem dX7_spoonAtRank_4 : decode cX7_spoonAtRank 4 = .ok (.iload_n 1, 1) := by decide +kernel
theorem dX7_spoonAtRank_5 : decode cX7_spoonAtRank 5 = .ok (.invokevirtual 187, 3) := by decide +kernel
theorem dX7_spoonAtRank_8 : decode cX7_spoonAtRank 8 = .ok (.astore_n 2, 1) := by decide +kernel
theorem dX7_spoonAtRank_9 : decode cX7_spoonAtRank 9 = .ok (.aload_n 2, 1) := by decide +kernel
theorem dX7_spoonAtRank_10 : decode cX7_spoonAtRank 10 = .ok (.ifnonnull 13, 3) := by decide +kernel
theorem dX7_spoonAtRank_13 : decode cX7_spoonAtRank 13 = .ok (.new 126, 3) := by decide +kernel
theorem dX7_spoonAtRank_16 : decode cX7_spoonAtRank 16 = .ok (.dup, 1) := by decide +kernel
theorem dX7_spoonAtRank_17 : decode cX7_spoonAtRank 17 = .ok (.ldc 190, 2) := by decide +kernel
theorem dX7_spoonAtRank_19 : decode cX7_spoonAtRank 19 = .ok (.invokespecial 130, 3) := by decide +kernel
theorem dX7_spoonAtRank_22 : decode cX7_spoonAtRank 22 = .ok (.athrow, 1) := by decide +kernel
theorem dX7_spoonAtRank_23 : decode cX7_spoonAtRank 23 = .ok (.aload_n 2, 1) := by decide +kernel
theorem dX7_spoonAtRank_24 : decode cX7_spoonAtRank 24 = .ok (.getfield 174, 3) := by decide +kernel
theorem dX7_spoonAtRank_27 : decode cX7_spoonAtRank 27 = .ok (.ireturn, 1) := by decide +kernel
theorem dX7_distance_0 : decode cX7_distance 0 = .ok (.aload_n 0, 1) := by decide +kernel
theorem dX7_distance_1 : decode cX7_distance 1 = .ok (.iload_n 1, 1) := by decide +kernel
theorem dX7_distance_2 : decode cX7_distance 2 = .ok (.invokevirtual 134, 3) := by decide +kernel
theorem dX7_distance_5 : decode cX7_distance 5 = .ok (.astore_n 3, 1) := by decide +kernel
theorem dX7_distance_6 : decode cX7_distance 6 = .ok (.aload_n 0, 1) := by decide +kernel
theorem dX7_distance_7 : decode cX7_distance 7 = .ok (.iload_n 2, 1) := by decide +kernel
theorem dX7_distance_8 : decode cX7_distance 8 = .ok (.invokevirtual 134, 3) := by decide +kernel
theorem dX7_distance_11 : decode cX7_distance 11 = .ok (.astore 4, 2) := by decide +kernel
theorem dX7_distance_13 : decode cX7_distance 13 = .ok (.aload_n 3, 1) := by decide +kernel
theorem dX7_distance_14 : decode cX7_distance 14 = .ok (.invokevirtual 161, 3) := by decide +kernel
theorem dX7_distance_17 : decode cX7_distance 17 = .ok (.ifCond .eq 11, 3) := by decide +kernel
theorem dX7_distance_20 : decode cX7_distance 20 = .ok (.aload 4, 2) := by decide +kernel
theorem dX7_distance_22 : decode cX7_distance 22 = .ok (.invokevirtual 161, 3) := by decide +kernel
theorem dX7_distance_25 : decode cX7_distance 25 = .ok (.ifCond .ne 13, 3) := by decide +kernel
theorem dX7_distance_28 : decode cX7_distance 28 = .ok (.new 126, 3) := by decide +kernel
theorem dX7_distance_31 : decode cX7_distance 31 = .ok (.dup, 1) := by decide +kernel
theorem dX7_distance_32 : decode cX7_distance 32 = .ok (.ldc 192, 2) := by decide +kernel
theorem dX7_distance_34 : decode cX7_distance 34 = .ok (.invokespecial 130, 3) := by decide +kernel
theorem dX7_distance_37 : decode cX7_distance 37 = .ok (.athrow, 1) := by decide +kernel
theorem dX7_distance_38 : decode cX7_distance 38 = .ok (.aload_n 3, 1) := by decide +kernel
theorem dX7_distance_39 : decode cX7_distance 39 = .ok (.aload 4, 2) := by decide +kernel
theorem dX7_distance_41 : decode cX7_distance 41 = .ok (.getfield 146, 3) := by decide +kernel
theorem dX7_distance_44 : decode cX7_distance 44 = .ok (.aload 4, 2) := by decide +kernel
theorem dX7_distance_46 : decode cX7_distance 46 = .ok (.getfield 149, 3) := by decide +kernel
theorem dX7_distance_49 : decode cX7_distance 49 = .ok (.invokevirtual 194, 3) := by decide +kernel
theorem dX7_distance_52 : decode cX7_distance 52 = .ok (.ireturn, 1) := by decide +kernel
theorem dX7_directionTo_0 : decode cX7_directionTo 0 = .ok (.aload_n 0, 1) := by decide +kernel
theorem dX7_directionTo_1 : decode cX7_directionTo 1 = .ok (.iload_n 1, 1) := by decide +kernel
theorem dX7_directionTo_2 : decode cX7_directionTo 2 = .ok (.invokevirtual 134, 3) := by decide +kernel
theorem dX7_directionTo_5 : decode cX7_directionTo 5 = .ok (.astore 4, 2) := by decide +kernel
theorem dX7_directionTo_7 : decode cX7_directionTo 7 = .ok (.iload_n 2, 1) := by decide +kernel
theorem dX7_directionTo_8 : decode cX7_directionTo 8 = .ok (.iload_n 3, 1) := by decide +kernel
theorem dX7_directionTo_9 : decode cX7_directionTo 9 = .ok (.invokestatic 164, 3) := by decide +kernel
theorem dX7_directionTo_12 : decode cX7_directionTo 12 = .ok (.aload 4, 2) := by decide +kernel
theorem dX7_directionTo_14 : decode cX7_directionTo 14 = .ok (.invokevirtual 161, 3) := by decide +kernel
theorem dX7_directionTo_17 : decode cX7_directionTo 17 = .ok (.ifCond .eq 13, 3) := by decide +kernel
theorem dX7_directionTo_20 : decode cX7_directionTo 20 = .ok (.aload 4, 2) := by decide +kernel
theorem dX7_directionTo_22 : decode cX7_directionTo 22 = .ok (.iload_n 2, 1) := by decide +kernel
theorem dX7_directionTo_23 : decode cX7_directionTo 23 = .ok (.iload_n 3, 1) := by decide +kernel
theorem dX7_directionTo_24 : decode cX7_directionTo 24 = .ok (.invokevirtual 197, 3) := by decide +kernel
theorem dX7_directionTo_27 : decode cX7_directionTo 27 = .ok (.ifCond .eq 13, 3) := by decide +kernel
theorem dX7_directionTo_30 : decode cX7_directionTo 30 = .ok (.new 126, 3) := by decide +kernel
theorem dX7_directionTo_33 : decode cX7_directionTo 33 = .ok (.dup, 1) := by decide +kernel
theorem dX7_directionTo_34 : decode cX7_directionTo 34 = .ok (.ldc 201, 2) := by decide +kernel
theorem dX7_directionTo_36 : decode cX7_directionTo 36 = .ok (.invokespecial 130, 3) := by decide +kernel
theorem dX7_directionTo_39 : decode cX7_directionTo 39 = .ok (.athrow, 1) := by decide +kernel
theorem dX7_directionTo_40 : decode cX7_directionTo 40 = .ok (.iload_n 2, 1) := by decide +kernel
theorem dX7_directionTo_41 : decode cX7_directionTo 41 = .ok (.aload 4, 2) := by decide +kernel
theorem dX7_directionTo_43 : decode cX7_directionTo 43 = .ok (.getfield 146, 3) := by decide +kernel
theorem dX7_directionTo_46 : decode cX7_directionTo 46 = .ok (.isub, 1) := by decide +kernel
theorem dX7_directionTo_47 : decode cX7_directionTo 47 = .ok (.iload_n 3, 1) := by decide +kernel
theorem dX7_directionTo_48 : decode cX7_directionTo 48 = .ok (.aload 4, 2) := by decide +kernel
theorem dX7_directionTo_50 : decode cX7_directionTo 50 = .ok (.getfield 149, 3) := by decide +kernel
theorem dX7_directionTo_53 : decode cX7_directionTo 53 = .ok (.isub, 1) := by decide +kernel
theorem dX7_directionTo_54 : decode cX7_directionTo 54 = .ok (.invokestatic 203, 3) := by decide +kernel
theorem dX7_directionTo_57 : decode cX7_directionTo 57 = .ok (.ireturn, 1) := by decide +kernel
theorem dX7_isInReach_0 : decode cX7_isInReach 0 = .ok (.aload_n 0, 1) := by decide +kernel
theorem dX7_isInReach_1 : decode cX7_isInReach 1 = .ok (.iload_n 1, 1) := by decide +kernel
theorem dX7_isInReach_2 : decode cX7_isInReach 2 = .ok (.invokevirtual 134, 3) := by decide +kernel
theorem dX7_isInReach_5 : decode cX7_isInReach 5 = .ok (.astore 4, 2) := by decide +kernel
theorem dX7_isInReach_7 : decode cX7_isInReach 7 = .ok (.iload_n 2, 1) := by decide +kernel
theorem dX7_isInReach_8 : decode cX7_isInReach 8 = .ok (.iload_n 3, 1) := by decide +kernel
theorem dX7_isInReach_9 : decode cX7_isInReach 9 = .ok (.invokestatic 164, 3) := by decide +kernel
theorem dX7_isInReach_12 : decode cX7_isInReach 12 = .ok (.aload 4, 2) := by decide +kernel
theorem dX7_isInReach_14 : decode cX7_isInReach 14 = .ok (.iload_n 2, 1) := by decide +kernel
theorem dX7_isInReach_15 : decode cX7_isInReach 15 = .ok (.iload_n 3, 1) := by decide +kernel
theorem dX7_isInReach_16 : decode cX7_isInReach 16 = .ok (.invokevirtual 206, 3) := by decide +kernel
theorem dX7_isInReach_19 : decode cX7_isInReach 19 = .ok (.ireturn, 1) := by decide +kernel
theorem dX7_targetCount_0 : decode cX7_targetCount 0 = .ok (.aload_n 0, 1) := by decide +kernel
theorem dX7_targetCount_1 : decode cX7_targetCount 1 = .ok (.getfield 10, 3) := by decide +kernel
theorem dX7_targetCount_4 : decode cX7_targetCount 4 = .ok (.aload_n 0, 1) := by decide +kernel
theorem dX7_targetCount_5 : decode cX7_targetCount 5 = .ok (.iload_n 1, 1) := by decide +kernel
theorem dX7_targetCount_6 : decode cX7_targetCount 6 = .ok (.invokevirtual 134, 3) := by decide +kernel
theorem dX7_targetCount_9 : decode cX7_targetCount 9 = .ok (.invokevirtual 209, 3) := by decide +kernel
theorem dX7_targetCount_12 : decode cX7_targetCount 12 = .ok (.ireturn, 1) := by decide +kernel
theorem dX7_targetCountByCells_0 : decode cX7_targetCountByCells 0 = .ok (.aload_n 0, 1) := by decide +kernel
theorem dX7_targetCountByCells_1 : decode cX7_targetCountByCells 1 = .ok (.getfield 10, 3) := by decide +kernel
theorem dX7_targetCountByCells_4 : decode cX7_targetCountByCells 4 = .ok (.aload_n 0, 1) := by decide +kernel
theorem dX7_targetCountByCells_5 : decode cX7_targetCountByCells 5 = .ok (.iload_n 1, 1) := by decide +kernel
theorem dX7_targetCountByCells_6 : decode cX7_targetCountByCells 6 = .ok (.invokevirtual 134, 3) := by decide +kernel
theorem dX7_targetCountByCells_9 : decode cX7_targetCountByCells 9 = .ok (.invokevirtual 213, 3) := by decide +kernel
theorem dX7_targetCountByCells_12 : decode cX7_targetCountByCells 12 = .ok (.ireturn, 1) := by decide +kernel
theorem dX7_cellsAhead_0 : decode cX7_cellsAhead 0 = .ok (.aload_n 0, 1) := by decide +kernel
theorem dX7_cellsAhead_1 : decode cX7_cellsAhead 1 = .ok (.getfield 10, 3) := by decide +kernel
theorem dX7_cellsAhead_4 : decode cX7_cellsAhead 4 = .ok (.aload_n 0, 1) := by decide +kernel
theorem dX7_cellsAhead_5 : decode cX7_cellsAhead 5 = .ok (.iload_n 1, 1) := by decide +kernel
theorem dX7_cellsAhead_6 : decode cX7_cellsAhead 6 = .ok (.invokevirtual 143, 3) := by decide +kernel
theorem dX7_cellsAhead_9 : decode cX7_cellsAhead 9 = .ok (.invokevirtual 216, 3) := by decide +kernel
theorem dX7_cellsAhead_12 : decode cX7_cellsAhead 12 = .ok (.ireturn, 1) := by decide +kernel
theorem dX7_potOf_0 : decode cX7_potOf 0 = .ok (.iload_n 1, 1) := by decide +kernel
theorem dX7_potOf_1 : decode cX7_potOf 1 = .ok (.invokestatic 183, 3) := by decide +kernel
theorem dX7_potOf_4 : decode cX7_potOf 4 = .ok (.aload_n 0, 1) := by decide +kernel
theorem dX7_potOf_5 : decode cX7_potOf 5 = .ok (.getfield 10, 3) := by decide +kernel
theorem dX7_potOf_8 : decode cX7_potOf 8 = .ok (.iload_n 1, 1) := by decide +kernel
theorem dX7_potOf_9 : decode cX7_potOf 9 = .ok (.invokevirtual 90, 3) := by decide +kernel
theorem dX7_potOf_12 : decode cX7_potOf 12 = .ok (.getfield 219, 3) := by decide +kernel
theorem dX7_potOf_15 : decode cX7_potOf 15 = .ok (.ireturn, 1) := by decide +kernel
theorem dX7_fleetCubes_0 : decode cX7_fleetCubes 0 = .ok (.iload_n 1, 1) := by decide +kernel
theorem dX7_fleetCubes_1 : decode cX7_fleetCubes 1 = .ok (.invokestatic 183, 3) := by decide +kernel
theorem dX7_fleetCubes_4 : decode cX7_fleetCubes 4 = .ok (.aload_n 0, 1) := by decide +kernel
theorem dX7_fleetCubes_5 : decode cX7_fleetCubes 5 = .ok (.getfield 10, 3) := by decide +kernel
theorem dX7_fleetCubes_8 : decode cX7_fleetCubes 8 = .ok (.iload_n 1, 1) := by decide +kernel
theorem dX7_fleetCubes_9 : decode cX7_fleetCubes 9 = .ok (.invokevirtual 222, 3) := by decide +kernel
theorem dX7_fleetCubes_12 : decode cX7_fleetCubes 12 = .ok (.ireturn, 1) := by decide +kernel
theorem dX7_fleetCubesByAccount_0 : decode cX7_fleetCubesByAccount 0 = .ok (.iload_n 1, 1) := by decide +kernel
theorem dX7_fleetCubesByAccount_1 : decode cX7_fleetCubesByAccount 1 = .ok (.invokestatic 183, 3) := by decide +kernel
theorem dX7_fleetCubesByAccount_4 : decode cX7_fleetCubesByAccount 4 = .ok (.aload_n 0, 1) := by decide +kernel
theorem dX7_fleetCubesByAccount_5 : decode cX7_fleetCubesByAccount 5 = .ok (.getfield 10, 3) := by decide +kernel
theorem dX7_fleetCubesByAccount_8 : decode cX7_fleetCubesByAccount 8 = .ok (.iload_n 1, 1) := by decide +kernel
theorem dX7_fleetCubesByAccount_9 : decode cX7_fleetCubesByAccount 9 = .ok (.invokevirtual 90, 3) := by decide +kernel
theorem dX7_fleetCubesByAccount_12 : decode cX7_fleetCubesByAccount 12 = .ok (.invokevirtual 225, 3) := by decide +kernel
theorem dX7_fleetCubesByAccount_15 : decode cX7_fleetCubesByAccount 15 = .ok (.ireturn, 1) := by decide +kernel
theorem dX7_shotCount_0 : decode cX7_shotCount 0 = .ok (.aload_n 0, 1) := by decide +kernel
theorem dX7_shotCount_1 : decode cX7_shotCount 1 = .ok (.getfield 10, 3) := by decide +kernel
theorem dX7_shotCount_4 : decode cX7_shotCount 4 = .ok (.getfield 228, 3) := by decide +kernel
theorem dX7_shotCount_7 : decode cX7_shotCount 7 = .ok (.ireturn, 1) := by decide +kernel
theorem dX7_hitCount_0 : decode cX7_hitCount 0 = .ok (.aload_n 0, 1) := by decide +kernel
theorem dX7_hitCount_1 : decode cX7_hitCount 1 = .ok (.getfield 10, 3) := by decide +kernel
theorem dX7_hitCount_4 : decode cX7_hitCount 4 = .ok (.getfield 231, 3) := by decide +kernel
theorem dX7_hitCount_7 : decode cX7_hitCount 7 = .ok (.ireturn, 1) := by decide +kernel
theorem dX7_cellsSailed_0 : decode cX7_cellsSailed 0 = .ok (.aload_n 0, 1) := by decide +kernel
theorem dX7_cellsSailed_1 : decode cX7_cellsSailed 1 = .ok (.getfield 10, 3) := by decide +kernel
theorem dX7_cellsSailed_4 : decode cX7_cellsSailed 4 = .ok (.getfield 234, 3) := by decide +kernel
theorem dX7_cellsSailed_7 : decode cX7_cellsSailed 7 = .ok (.lreturn, 1) := by decide +kernel
theorem dX7_secretCount_0 : decode cX7_secretCount 0 = .ok (.aload_n 0, 1) := by decide +kernel
theorem dX7_secretCount_1 : decode cX7_secretCount 1 = .ok (.getfield 10, 3) := by decide +kernel
theorem dX7_secretCount_4 : decode cX7_secretCount 4 = .ok (.getfield 238, 3) := by decide +kernel
theorem dX7_secretCount_7 : decode cX7_secretCount 7 = .ok (.ireturn, 1) := by decide +kernel
theorem dX7_append_0 : decode cX7_append 0 = .ok (.iload_n 1, 1) := by decide +kernel
theorem dX7_append_1 : decode cX7_append 1 = .ok (.bipush 32, 2) := by decide +kernel
theorem dX7_append_3 : decode cX7_append 3 = .ok (.if_icmp .lt 9, 3) := by decide +kernel
theorem dX7_append_6 : decode cX7_append 6 = .ok (.iload_n 1, 1) := by decide +kernel
theorem dX7_append_7 : decode cX7_append 7 = .ok (.bipush 126, 2) := by decide +kernel
theorem dX7_append_9 : decode cX7_append 9 = .ok (.if_icmp .le 13, 3) := by decide +kernel
theorem dX7_append_12 : decode cX7_append 12 = .ok (.new 241, 3) := by decide +kernel
theorem dX7_append_15 : decode cX7_append 15 = .ok (.dup, 1) := by decide +kernel
theorem dX7_append_16 : decode cX7_append 16 = .ok (.ldc 243, 2) := by decide +kernel
theorem dX7_append_18 : decode cX7_append 18 = .ok (.invokespecial 245, 3) := by decide +kernel
theorem dX7_append_21 : decode cX7_append 21 = .ok (.athrow, 1) := by decide +kernel
theorem dX7_append_22 : decode cX7_append 22 = .ok (.aload_n 0, 1) := by decide +kernel
theorem dX7_append_23 : decode cX7_append 23 = .ok (.getfield 32, 3) := by decide +kernel
theorem dX7_append_26 : decode cX7_append 26 = .ok (.invokevirtual 246, 3) := by decide +kernel
theorem dX7_append_29 : decode cX7_append 29 = .ok (.ifCond .eq 13, 3) := by decide +kernel
theorem dX7_append_32 : decode cX7_append 32 = .ok (.new 83, 3) := by decide +kernel
theorem dX7_append_35 : decode cX7_append 35 = .ok (.dup, 1) := by decide +kernel
theorem dX7_append_36 : decode cX7_append 36 = .ok (.ldc 249, 2) := by decide +kernel
theorem dX7_append_38 : decode cX7_append 38 = .ok (.invokespecial 87, 3) := by decide +kernel
theorem dX7_append_41 : decode cX7_append 41 = .ok (.athrow, 1) := by decide +kernel
theorem dX7_append_42 : decode cX7_append 42 = .ok (.aload_n 0, 1) := by decide +kernel
theorem dX7_append_43 : decode cX7_append 43 = .ok (.getfield 32, 3) := by decide +kernel
theorem dX7_append_46 : decode cX7_append 46 = .ok (.iload_n 1, 1) := by decide +kernel
theorem dX7_append_47 : decode cX7_append 47 = .ok (.invokevirtual 251, 3) := by decide +kernel
theorem dX7_append_50 : decode cX7_append 50 = .ok (.ireturn, 1) := by decide +kernel
theorem dX7_run_0 : decode cX7_run 0 = .ok (.aload_n 0, 1) := by decide +kernel
theorem dX7_run_1 : decode cX7_run 1 = .ok (.getfield 32, 3) := by decide +kernel
theorem dX7_run_4 : decode cX7_run 4 = .ok (.invokevirtual 255, 3) := by decide +kernel
theorem dX7_run_7 : decode cX7_run 7 = .ok (.istore_n 1, 1) := by decide +kernel
theorem dX7_run_8 : decode cX7_run 8 = .ok (.iload_n 1, 1) := by decide +kernel
theorem dX7_run_9 : decode cX7_run 9 = .ok (.iconst (-1), 1) := by decide +kernel
theorem dX7_run_10 : decode cX7_run 10 = .ok (.if_icmp .ne 32, 3) := by decide +kernel
theorem dX7_run_13 : decode cX7_run 13 = .ok (.aload_n 0, 1) := by decide +kernel
theorem dX7_run_14 : decode cX7_run 14 = .ok (.aload_n 0, 1) := by decide +kernel
theorem dX7_run_15 : decode cX7_run 15 = .ok (.getfield 32, 3) := by decide +kernel
theorem dX7_run_18 : decode cX7_run 18 = .ok (.getfield 258, 3) := by decide +kernel
theorem dX7_run_21 : decode cX7_run 21 = .ok (.putfield 51, 3) := by decide +kernel
theorem dX7_run_24 : decode cX7_run 24 = .ok (.aload_n 0, 1) := by decide +kernel
theorem dX7_run_25 : decode cX7_run 25 = .ok (.getfield 32, 3) := by decide +kernel
theorem dX7_run_28 : decode cX7_run 28 = .ok (.invokevirtual 261, 3) := by decide +kernel
theorem dX7_run_31 : decode cX7_run 31 = .ok (.new 241, 3) := by decide +kernel
theorem dX7_run_34 : decode cX7_run 34 = .ok (.dup, 1) := by decide +kernel
theorem dX7_run_35 : decode cX7_run 35 = .ok (.ldc_w 264, 3) := by decide +kernel
theorem dX7_run_38 : decode cX7_run 38 = .ok (.invokespecial 245, 3) := by decide +kernel
theorem dX7_run_41 : decode cX7_run 41 = .ok (.athrow, 1) := by decide +kernel
theorem dX7_run_42 : decode cX7_run 42 = .ok (.aload_n 0, 1) := by decide +kernel
theorem dX7_run_43 : decode cX7_run 43 = .ok (.getfield 16, 3) := by decide +kernel
theorem dX7_run_46 : decode cX7_run 46 = .ok (.aload_n 0, 1) := by decide +kernel
theorem dX7_run_47 : decode cX7_run 47 = .ok (.getfield 10, 3) := by decide +kernel
theorem dX7_run_50 : decode cX7_run 50 = .ok (.invokevirtual 57, 3) := by decide +kernel
theorem dX7_run_53 : decode cX7_run 53 = .ok (.aload_n 0, 1) := by decide +kernel
theorem dX7_run_54 : decode cX7_run 54 = .ok (.iload_n 1, 1) := by decide +kernel
theorem dX7_run_55 : decode cX7_run 55 = .ok (.invokevirtual 266, 3) := by decide +kernel
theorem dX7_run_58 : decode cX7_run 58 = .ok (.istore_n 2, 1) := by decide +kernel
theorem dX7_run_59 : decode cX7_run 59 = .ok (.aload_n 0, 1) := by decide +kernel
theorem dX7_run_60 : decode cX7_run 60 = .ok (.getfield 32, 3) := by decide +kernel
theorem dX7_run_63 : decode cX7_run 63 = .ok (.invokevirtual 261, 3) := by decide +kernel
theorem dX7_run_66 : decode cX7_run 66 = .ok (.iload_n 2, 1) := by decide +kernel
theorem dX7_run_67 : decode cX7_run 67 = .ok (.iconst (-1), 1) := by decide +kernel
theorem dX7_run_68 : decode cX7_run 68 = .ok (.if_icmp .eq 30, 3) := by decide +kernel
theorem dX7_run_71 : decode cX7_run 71 = .ok (.aload_n 0, 1) := by decide +kernel
theorem dX7_run_72 : decode cX7_run 72 = .ok (.iload_n 2, 1) := by decide +kernel
theorem dX7_run_73 : decode cX7_run 73 = .ok (.putfield 54, 3) := by decide +kernel
theorem dX7_run_76 : decode cX7_run 76 = .ok (.aload_n 0, 1) := by decide +kernel
theorem dX7_run_77 : decode cX7_run 77 = .ok (.getfield 10, 3) := by decide +kernel
theorem dX7_run_80 : decode cX7_run 80 = .ok (.aload_n 0, 1) := by decide +kernel
theorem dX7_run_81 : decode cX7_run 81 = .ok (.getfield 16, 3) := by decide +kernel
theorem dX7_run_84 : decode cX7_run 84 = .ok (.invokevirtual 57, 3) := by decide +kernel
theorem dX7_run_87 : decode cX7_run 87 = .ok (.new 83, 3) := by decide +kernel
theorem dX7_run_90 : decode cX7_run 90 = .ok (.dup, 1) := by decide +kernel
theorem dX7_run_91 : decode cX7_run 91 = .ok (.ldc_w 269, 3) := by decide +kernel
theorem dX7_run_94 : decode cX7_run 94 = .ok (.invokespecial 87, 3) := by decide +kernel
theorem dX7_run_97 : decode cX7_run 97 = .ok (.athrow, 1) := by decide +kernel
theorem dX7_run_98 : decode cX7_run 98 = .ok (.aload_n 0, 1) := by decide +kernel
theorem dX7_run_99 : decode cX7_run 99 = .ok (.getfield 25, 3) := by decide +kernel
theorem dX7_run_102 : decode cX7_run 102 = .ok (.aload_n 0, 1) := by decide +kernel
theorem dX7_run_103 : decode cX7_run 103 = .ok (.getfield 16, 3) := by decide +kernel
theorem dX7_run_106 : decode cX7_run 106 = .ok (.invokevirtual 271, 3) := by decide +kernel
theorem dX7_run_109 : decode cX7_run 109 = .ok (.iload_n 1, 1) := by decide +kernel
theorem dX7_run_110 : decode cX7_run 110 = .ok (.ireturn, 1) := by decide +kernel
theorem dX7_failedCommand_0 : decode cX7_failedCommand 0 = .ok (.aload_n 0, 1) := by decide +kernel
theorem dX7_failedCommand_1 : decode cX7_failedCommand 1 = .ok (.getfield 54, 3) := by decide +kernel
theorem dX7_failedCommand_4 : decode cX7_failedCommand 4 = .ok (.iconst (-1), 1) := by decide +kernel
theorem dX7_failedCommand_5 : decode cX7_failedCommand 5 = .ok (.if_icmp .ne 14, 3) := by decide +kernel
theorem dX7_failedCommand_8 : decode cX7_failedCommand 8 = .ok (.new 126, 3) := by decide +kernel
theorem dX7_failedCommand_11 : decode cX7_failedCommand 11 = .ok (.dup, 1) := by decide +kernel
theorem dX7_failedCommand_12 : decode cX7_failedCommand 12 = .ok (.ldc_w 276, 3) := by decide +kernel
theorem dX7_failedCommand_15 : decode cX7_failedCommand 15 = .ok (.invokespecial 130, 3) := by decide +kernel
theorem dX7_failedCommand_18 : decode cX7_failedCommand 18 = .ok (.athrow, 1) := by decide +kernel
theorem dX7_failedCommand_19 : decode cX7_failedCommand 19 = .ok (.aload_n 0, 1) := by decide +kernel
theorem dX7_failedCommand_20 : decode cX7_failedCommand 20 = .ok (.getfield 54, 3) := by decide +kernel
theorem dX7_failedCommand_23 : decode cX7_failedCommand 23 = .ok (.ireturn, 1) := by decide +kernel
theorem dX7_describeRow_0 : decode cX7_describeRow 0 = .ok (.iconst 0, 1) := by decide +kernel
theorem dX7_describeRow_1 : decode cX7_describeRow 1 = .ok (.iload_n 1, 1) := by decide +kernel
theorem dX7_describeRow_2 : decode cX7_describeRow 2 = .ok (.invokestatic 164, 3) := by decide +kernel
theorem dX7_describeRow_5 : decode cX7_describeRow 5 = .ok (.iconst 0, 1) := by decide +kernel
theorem dX7_describeRow_6 : decode cX7_describeRow 6 = .ok (.istore_n 2, 1) := by decide +kernel
theorem dX7_describeRow_7 : decode cX7_describeRow 7 = .ok (.iload_n 2, 1) := by decide +kernel
theorem dX7_describeRow_8 : decode cX7_describeRow 8 = .ok (.aload_n 0, 1) := by decide +kernel
theorem dX7_describeRow_9 : decode cX7_describeRow 9 = .ok (.getfield 36, 3) := by decide +kernel
theorem dX7_describeRow_12 : decode cX7_describeRow 12 = .ok (.arraylength, 1) := by decide +kernel
theorem dX7_describeRow_13 : decode cX7_describeRow 13 = .ok (.if_icmp .ge 38, 3) := by decide +kernel
theorem dX7_describeRow_16 : decode cX7_describeRow 16 = .ok (.aload_n 0, 1) := by decide +kernel
theorem dX7_describeRow_17 : decode cX7_describeRow 17 = .ok (.getfield 10, 3) := by decide +kernel
theorem dX7_describeRow_20 : decode cX7_describeRow 20 = .ok (.iload_n 2, 1) := by decide +kernel
theorem dX7_describeRow_21 : decode cX7_describeRow 21 = .ok (.iload_n 1, 1) := by decide +kernel
theorem dX7_describeRow_22 : decode cX7_describeRow 22 = .ok (.invokevirtual 168, 3) := by decide +kernel
theorem dX7_describeRow_25 : decode cX7_describeRow 25 = .ok (.astore_n 3, 1) := by decide +kernel
theorem dX7_describeRow_26 : decode cX7_describeRow 26 = .ok (.aload_n 0, 1) := by decide +kernel
theorem dX7_describeRow_27 : decode cX7_describeRow 27 = .ok (.getfield 36, 3) := by decide +kernel
theorem dX7_describeRow_30 : decode cX7_describeRow 30 = .ok (.iload_n 2, 1) := by decide +kernel
theorem dX7_describeRow_31 : decode cX7_describeRow 31 = .ok (.aload_n 3, 1) := by decide +kernel
theorem dX7_describeRow_32 : decode cX7_describeRow 32 = .ok (.ifnonnull 8, 3) := by decide +kernel
theorem dX7_describeRow_35 : decode cX7_describeRow 35 = .ok (.bipush 46, 2) := by decide +kernel
theorem dX7_describeRow_37 : decode cX7_describeRow 37 = .ok (.goto 7, 3) := by decide +kernel
theorem dX7_describeRow_40 : decode cX7_describeRow 40 = .ok (.aload_n 3, 1) := by decide +kernel
theorem dX7_describeRow_41 : decode cX7_describeRow 41 = .ok (.invokevirtual 278, 3) := by decide +kernel
theorem dX7_describeRow_44 : decode cX7_describeRow 44 = .ok (.castore, 1) := by decide +kernel
theorem dX7_describeRow_45 : decode cX7_describeRow 45 = .ok (.iinc 2 1, 3) := by decide +kernel
theorem dX7_describeRow_48 : decode cX7_describeRow 48 = .ok (.goto (-41), 3) := by decide +kernel
theorem dX7_describeRow_51 : decode cX7_describeRow 51 = .ok (.aload_n 0, 1) := by decide +kernel
theorem dX7_describeRow_52 : decode cX7_describeRow 52 = .ok (.aload_n 0, 1) := by decide +kernel
theorem dX7_describeRow_53 : decode cX7_describeRow 53 = .ok (.getfield 36, 3) := by decide +kernel
theorem dX7_describeRow_56 : decode cX7_describeRow 56 = .ok (.arraylength, 1) := by decide +kernel
theorem dX7_describeRow_57 : decode cX7_describeRow 57 = .ok (.putfield 40, 3) := by decide +kernel
theorem dX7_describeRow_60 : decode cX7_describeRow 60 = .ok (.aload_n 0, 1) := by decide +kernel
theorem dX7_describeRow_61 : decode cX7_describeRow 61 = .ok (.getfield 40, 3) := by decide +kernel
theorem dX7_describeRow_64 : decode cX7_describeRow 64 = .ok (.ireturn, 1) := by decide +kernel
theorem dX7_lineAt_0 : decode cX7_lineAt 0 = .ok (.iload_n 1, 1) := by decide +kernel
theorem dX7_lineAt_1 : decode cX7_lineAt 1 = .ok (.ifCond .lt 20, 3) := by decide +kernel
theorem dX7_lineAt_4 : decode cX7_lineAt 4 = .ok (.iload_n 1, 1) := by decide +kernel
theorem dX7_lineAt_5 : decode cX7_lineAt 5 = .ok (.aload_n 0, 1) := by decide +kernel
theorem dX7_lineAt_6 : decode cX7_lineAt 6 = .ok (.getfield 40, 3) := by decide +kernel
theorem dX7_lineAt_9 : decode cX7_lineAt 9 = .ok (.if_icmp .ge 12, 3) := by decide +kernel
theorem dX7_lineAt_12 : decode cX7_lineAt 12 = .ok (.iload_n 1, 1) := by decide +kernel
theorem dX7_lineAt_13 : decode cX7_lineAt 13 = .ok (.aload_n 0, 1) := by decide +kernel
theorem dX7_lineAt_14 : decode cX7_lineAt 14 = .ok (.getfield 36, 3) := by decide +kernel
theorem dX7_lineAt_17 : decode cX7_lineAt 17 = .ok (.arraylength, 1) := by decide +kernel
theorem dX7_lineAt_18 : decode cX7_lineAt 18 = .ok (.if_icmp .lt 14, 3) := by decide +kernel
theorem dX7_lineAt_21 : decode cX7_lineAt 21 = .ok (.new 282, 3) := by decide +kernel
theorem dX7_lineAt_24 : decode cX7_lineAt 24 = .ok (.dup, 1) := by decide +kernel
theorem dX7_lineAt_25 : decode cX7_lineAt 25 = .ok (.ldc_w 284, 3) := by decide +kernel
theorem dX7_lineAt_28 : decode cX7_lineAt 28 = .ok (.invokespecial 286, 3) := by decide +kernel
theorem dX7_lineAt_31 : decode cX7_lineAt 31 = .ok (.athrow, 1) := by decide +kernel
theorem dX7_lineAt_32 : decode cX7_lineAt 32 = .ok (.aload_n 0, 1) := by decide +kernel
theorem dX7_lineAt_33 : decode cX7_lineAt 33 = .ok (.getfield 36, 3) := by decide +kernel
theorem dX7_lineAt_36 : decode cX7_lineAt 36 = .ok (.iload_n 1, 1) := by decide +kernel
theorem dX7_lineAt_37 : decode cX7_lineAt 37 = .ok (.caload, 1) := by decide +kernel
theorem dX7_lineAt_38 : decode cX7_lineAt 38 = .ok (.ireturn, 1) := by decide +kernel
theorem dX7_hitShare_0 : decode cX7_hitShare 0 = .ok (.aload_n 0, 1) := by decide +kernel
theorem dX7_hitShare_1 : decode cX7_hitShare 1 = .ok (.getfield 10, 3) := by decide +kernel
theorem dX7_hitShare_4 : decode cX7_hitShare 4 = .ok (.getfield 228, 3) := by decide +kernel
theorem dX7_hitShare_7 : decode cX7_hitShare 7 = .ok (.ifCond .ne 14, 3) := by decide +kernel
theorem dX7_hitShare_10 : decode cX7_hitShare 10 = .ok (.new 287, 3) := by decide +kernel
theorem dX7_hitShare_13 : decode cX7_hitShare 13 = .ok (.dup, 1) := by decide +kernel
theorem dX7_hitShare_14 : decode cX7_hitShare 14 = .ok (.ldc_w 289, 3) := by decide +kernel
theorem dX7_hitShare_17 : decode cX7_hitShare 17 = .ok (.invokespecial 291, 3) := by decide +kernel
theorem dX7_hitShare_20 : decode cX7_hitShare 20 = .ok (.athrow, 1) := by decide +kernel
theorem dX7_hitShare_21 : decode cX7_hitShare 21 = .ok (.aload_n 0, 1) := by decide +kernel
theorem dX7_hitShare_22 : decode cX7_hitShare 22 = .ok (.getfield 10, 3) := by decide +kernel
theorem dX7_hitShare_25 : decode cX7_hitShare 25 = .ok (.getfield 231, 3) := by decide +kernel
theorem dX7_hitShare_28 : decode cX7_hitShare 28 = .ok (.i2f, 1) := by decide +kernel
theorem dX7_hitShare_29 : decode cX7_hitShare 29 = .ok (.aload_n 0, 1) := by decide +kernel
theorem dX7_hitShare_30 : decode cX7_hitShare 30 = .ok (.getfield 10, 3) := by decide +kernel
theorem dX7_hitShare_33 : decode cX7_hitShare 33 = .ok (.getfield 228, 3) := by decide +kernel
theorem dX7_hitShare_36 : decode cX7_hitShare 36 = .ok (.i2f, 1) := by decide +kernel
theorem dX7_hitShare_37 : decode cX7_hitShare 37 = .ok (.fdiv, 1) := by decide +kernel
theorem dX7_hitShare_38 : decode cX7_hitShare 38 = .ok (.freturn, 1) := by decide +kernel
theorem dX7_meanCubes_0 : decode cX7_meanCubes 0 = .ok (.iload_n 1, 1) := by decide +kernel
theorem dX7_meanCubes_1 : decode cX7_meanCubes 1 = .ok (.invokestatic 183, 3) := by decide +kernel
theorem dX7_meanCubes_4 : decode cX7_meanCubes 4 = .ok (.aload_n 0, 1) := by decide +kernel
theorem dX7_meanCubes_5 : decode cX7_meanCubes 5 = .ok (.getfield 10, 3) := by decide +kernel
theorem dX7_meanCubes_8 : decode cX7_meanCubes 8 = .ok (.iload_n 1, 1) := by decide +kernel
theorem dX7_meanCubes_9 : decode cX7_meanCubes 9 = .ok (.invokevirtual 90, 3) := by decide +kernel
theorem dX7_meanCubes_12 : decode cX7_meanCubes 12 = .ok (.getfield 94, 3) := by decide +kernel
theorem dX7_meanCubes_15 : decode cX7_meanCubes 15 = .ok (.istore_n 2, 1) := by decide +kernel
theorem dX7_meanCubes_16 : decode cX7_meanCubes 16 = .ok (.iload_n 2, 1) := by decide +kernel
theorem dX7_meanCubes_17 : decode cX7_meanCubes 17 = .ok (.ifCond .ne 14, 3) := by decide +kernel
theorem dX7_meanCubes_20 : decode cX7_meanCubes 20 = .ok (.new 287, 3) := by decide +kernel
theorem dX7_meanCubes_23 : decode cX7_meanCubes 23 = .ok (.dup, 1) := by decide +kernel
theorem dX7_meanCubes_24 : decode cX7_meanCubes 24 = .ok (.ldc_w 292, 3) := by decide +kernel
theorem dX7_meanCubes_27 : decode cX7_meanCubes 27 = .ok (.invokespecial 291, 3) := by decide +kernel
theorem dX7_meanCubes_30 : decode cX7_meanCubes 30 = .ok (.athrow, 1) := by decide +kernel
theorem dX7_meanCubes_31 : decode cX7_meanCubes 31 = .ok (.aload_n 0, 1) := by decide +kernel
theorem dX7_meanCubes_32 : decode cX7_meanCubes 32 = .ok (.getfield 10, 3) := by decide +kernel
theorem dX7_meanCubes_35 : decode cX7_meanCubes 35 = .ok (.iload_n 1, 1) := by decide +kernel
theorem dX7_meanCubes_36 : decode cX7_meanCubes 36 = .ok (.invokevirtual 222, 3) := by decide +kernel
theorem dX7_meanCubes_39 : decode cX7_meanCubes 39 = .ok (.i2d, 1) := by decide +kernel
theorem dX7_meanCubes_40 : decode cX7_meanCubes 40 = .ok (.iload_n 2, 1) := by decide +kernel
theorem dX7_meanCubes_41 : decode cX7_meanCubes 41 = .ok (.i2d, 1) := by decide +kernel
theorem dX7_meanCubes_42 : decode cX7_meanCubes 42 = .ok (.ddiv, 1) := by decide +kernel
theorem dX7_meanCubes_43 : decode cX7_meanCubes 43 = .ok (.dreturn, 1) := by decide +kernel
theorem dX7_isConsistent_0 : decode cX7_isConsistent 0 = .ok (.aload_n 0, 1) := by decide +kernel
theorem dX7_isConsistent_1 : decode cX7_isConsistent 1 = .ok (.getfield 10, 3) := by decide +kernel
theorem dX7_isConsistent_4 : decode cX7_isConsistent 4 = .ok (.invokevirtual 294, 3) := by decide +kernel
theorem dX7_isConsistent_7 : decode cX7_isConsistent 7 = .ok (.ifCond .eq 27, 3) := by decide +kernel
theorem dX7_isConsistent_10 : decode cX7_isConsistent 10 = .ok (.aload_n 0, 1) := by decide +kernel
theorem dX7_isConsistent_11 : decode cX7_isConsistent 11 = .ok (.getfield 10, 3) := by decide +kernel
theorem dX7_isConsistent_14 : decode cX7_isConsistent 14 = .ok (.invokevirtual 297, 3) := by decide +kernel
theorem dX7_isConsistent_17 : decode cX7_isConsistent 17 = .ok (.ifCond .eq 17, 3) := by decide +kernel
theorem dX7_isConsistent_20 : decode cX7_isConsistent 20 = .ok (.aload_n 0, 1) := by decide +kernel
theorem dX7_isConsistent_21 : decode cX7_isConsistent 21 = .ok (.getfield 10, 3) := by decide +kernel
theorem dX7_isConsistent_24 : decode cX7_isConsistent 24 = .ok (.invokevirtual 300, 3) := by decide +kernel
theorem dX7_isConsistent_27 : decode cX7_isConsistent 27 = .ok (.ifCond .eq 7, 3) := by decide +kernel
theorem dX7_isConsistent_30 : decode cX7_isConsistent 30 = .ok (.iconst 1, 1) := by decide +kernel
theorem dX7_isConsistent_31 : decode cX7_isConsistent 31 = .ok (.goto 4, 3) := by decide +kernel
theorem dX7_isConsistent_34 : decode cX7_isConsistent 34 = .ok (.iconst 0, 1) := by decide +kernel
theorem dX7_isConsistent_35 : decode cX7_isConsistent 35 = .ok (.ireturn, 1) := by decide +kernel
theorem dX7_undo_0 : decode cX7_undo 0 = .ok (.aload_n 0, 1) := by decide +kernel
theorem dX7_undo_1 : decode cX7_undo 1 = .ok (.getfield 25, 3) := by decide +kernel
theorem dX7_undo_4 : decode cX7_undo 4 = .ok (.aload_n 0, 1) := by decide +kernel
theorem dX7_undo_5 : decode cX7_undo 5 = .ok (.getfield 10, 3) := by decide +kernel
theorem dX7_undo_8 : decode cX7_undo 8 = .ok (.invokevirtual 303, 3) := by decide +kernel
theorem dX7_undo_11 : decode cX7_undo 11 = .ok (.ifCond .ne 14, 3) := by decide +kernel
theorem dX7_undo_14 : decode cX7_undo 14 = .ok (.new 83, 3) := by decide +kernel
theorem dX7_undo_17 : decode cX7_undo 17 = .ok (.dup, 1) := by decide +kernel
theorem dX7_undo_18 : decode cX7_undo 18 = .ok (.ldc_w 307, 3) := by decide +kernel
theorem dX7_undo_21 : decode cX7_undo 21 = .ok (.invokespecial 87, 3) := by decide +kernel
theorem dX7_undo_24 : decode cX7_undo 24 = .ok (.athrow, 1) := by decide +kernel
theorem dX7_undo_25 : decode cX7_undo 25 = .ok (.aload_n 0, 1) := by decide +kernel
theorem dX7_undo_26 : decode cX7_undo 26 = .ok (.getfield 25, 3) := by decide +kernel
theorem dX7_undo_29 : decode cX7_undo 29 = .ok (.getfield 309, 3) := by decide +kernel
theorem dX7_undo_32 : decode cX7_undo 32 = .ok (.ireturn, 1) := by decide +kernel
theorem dX7_save_0 : decode cX7_save 0 = .ok (.aload_n 0, 1) := by decide +kernel
theorem dX7_save_1 : decode cX7_save 1 = .ok (.getfield 19, 3) := by decide +kernel
theorem dX7_save_4 : decode cX7_save 4 = .ok (.aload_n 0, 1) := by decide +kernel
theorem dX7_save_5 : decode cX7_save 5 = .ok (.getfield 10, 3) := by decide +kernel
theorem dX7_save_8 : decode cX7_save 8 = .ok (.invokevirtual 57, 3) := by decide +kernel
theorem dX7_save_11 : decode cX7_save 11 = .ok (.aload_n 0, 1) := by decide +kernel
theorem dX7_save_12 : decode cX7_save 12 = .ok (.iconst 1, 1) := by decide +kernel
theorem dX7_save_13 : decode cX7_save 13 = .ok (.putfield 44, 3) := by decide +kernel
theorem dX7_save_16 : decode cX7_save 16 = .ok (.aload_n 0, 1) := by decide +kernel
theorem dX7_save_17 : decode cX7_save 17 = .ok (.getfield 10, 3) := by decide +kernel
theorem dX7_save_20 : decode cX7_save 20 = .ok (.getfield 131, 3) := by decide +kernel
theorem dX7_save_23 : decode cX7_save 23 = .ok (.ireturn, 1) := by decide +kernel
theorem dX7_restore_0 : decode cX7_restore 0 = .ok (.aload_n 0, 1) := by decide +kernel
theorem dX7_restore_1 : decode cX7_restore 1 = .ok (.getfield 44, 3) := by decide +kernel
theorem dX7_restore_4 : decode cX7_restore 4 = .ok (.ifCond .ne 14, 3) := by decide +kernel
theorem dX7_restore_7 : decode cX7_restore 7 = .ok (.new 83, 3) := by decide +kernel
theorem dX7_restore_10 : decode cX7_restore 10 = .ok (.dup, 1) := by decide +kernel
theorem dX7_restore_11 : decode cX7_restore 11 = .ok (.ldc_w 312, 3) := by decide +kernel
theorem dX7_restore_14 : decode cX7_restore 14 = .ok (.invokespecial 87, 3) := by decide +kernel
theorem dX7_restore_17 : decode cX7_restore 17 = .ok (.athrow, 1) := by decide +kernel
theorem dX7_restore_18 : decode cX7_restore 18 = .ok (.aload_n 0, 1) := by decide +kernel
theorem dX7_restore_19 : decode cX7_restore 19 = .ok (.getfield 10, 3) := by decide +kernel
theorem dX7_restore_22 : decode cX7_restore 22 = .ok (.aload_n 0, 1) := by decide +kernel
theorem dX7_restore_23 : decode cX7_restore 23 = .ok (.getfield 19, 3) := by decide +kernel
theorem dX7_restore_26 : decode cX7_restore 26 = .ok (.invokevirtual 57, 3) := by decide +kernel
theorem dX7_restore_29 : decode cX7_restore 29 = .ok (.aload_n 0, 1) := by decide +kernel
theorem dX7_restore_30 : decode cX7_restore 30 = .ok (.getfield 25, 3) := by decide +kernel
theorem dX7_restore_33 : decode cX7_restore 33 = .ok (.invokevirtual 314, 3) := by decide +kernel
theorem dX7_restore_36 : decode cX7_restore 36 = .ok (.aload_n 0, 1) := by decide +kernel
theorem dX7_restore_37 : decode cX7_restore 37 = .ok (.getfield 10, 3) := by decide +kernel
theorem dX7_restore_40 : decode cX7_restore 40 = .ok (.getfield 131, 3) := by decide +kernel
theorem dX7_restore_43 : decode cX7_restore 43 = .ok (.ireturn, 1) := by decide +kernel
theorem dX7_concluded_0 : decode cX7_concluded 0 = .ok (.iload_n 1, 1) := by decide +kernel
theorem dX7_concluded_1 : decode cX7_concluded 1 = .ok (.ifCond .lt 16, 3) := by decide +kernel
theorem dX7_concluded_4 : decode cX7_concluded 4 = .ok (.aload_n 0, 1) := by decide +kernel
theorem dX7_concluded_5 : decode cX7_concluded 5 = .ok (.getfield 25, 3) := by decide +kernel
theorem dX7_concluded_8 : decode cX7_concluded 8 = .ok (.aload_n 0, 1) := by decide +kernel
theorem dX7_concluded_9 : decode cX7_concluded 9 = .ok (.getfield 16, 3) := by decide +kernel
theorem dX7_concluded_12 : decode cX7_concluded 12 = .ok (.invokevirtual 271, 3) := by decide +kernel
theorem dX7_concluded_15 : decode cX7_concluded 15 = .ok (.iload_n 1, 1) := by decide +kernel
theorem dX7_concluded_16 : decode cX7_concluded 16 = .ok (.ireturn, 1) := by decide +kernel
theorem dX7_concluded_17 : decode cX7_concluded 17 = .ok (.aload_n 0, 1) := by decide +kernel
theorem dX7_concluded_18 : decode cX7_concluded 18 = .ok (.iload_n 1, 1) := by decide +kernel
theorem dX7_concluded_19 : decode cX7_concluded 19 = .ok (.invokevirtual 315, 3) := by decide +kernel
theorem dX7_concluded_22 : decode cX7_concluded 22 = .ok (.iload_n 1, 1) := by decide +kernel
theorem dX7_concluded_23 : decode cX7_concluded 23 = .ok (.tableswitch 73 (-4) (-1) #[62, 51, 40, 29], 29) := by decide +kernel
theorem dX7_concluded_52 : decode cX7_concluded 52 = .ok (.new 282, 3) := by decide +kernel
theorem dX7_concluded_55 : decode cX7_concluded 55 = .ok (.dup, 1) := by decide +kernel
theorem dX7_concluded_56 : decode cX7_concluded 56 = .ok (.ldc_w 318, 3) := by decide +kernel
theorem dX7_concluded_59 : decode cX7_concluded 59 = .ok (.invokespecial 286, 3) := by decide +kernel
theorem dX7_concluded_62 : decode cX7_concluded 62 = .ok (.athrow, 1) := by decide +kernel
theorem dX7_concluded_63 : decode cX7_concluded 63 = .ok (.new 241, 3) := by decide +kernel
theorem dX7_concluded_66 : decode cX7_concluded 66 = .ok (.dup, 1) := by decide +kernel
theorem dX7_concluded_67 : decode cX7_concluded 67 = .ok (.ldc_w 320, 3) := by decide +kernel
theorem dX7_concluded_70 : decode cX7_concluded 70 = .ok (.invokespecial 245, 3) := by decide +kernel
theorem dX7_concluded_73 : decode cX7_concluded 73 = .ok (.athrow, 1) := by decide +kernel
theorem dX7_concluded_74 : decode cX7_concluded 74 = .ok (.new 83, 3) := by decide +kernel
theorem dX7_concluded_77 : decode cX7_concluded 77 = .ok (.dup, 1) := by decide +kernel
theorem dX7_concluded_78 : decode cX7_concluded 78 = .ok (.ldc_w 322, 3) := by decide +kernel
theorem dX7_concluded_81 : decode cX7_concluded 81 = .ok (.invokespecial 87, 3) := by decide +kernel
theorem dX7_concluded_84 : decode cX7_concluded 84 = .ok (.athrow, 1) := by decide +kernel
theorem dX7_concluded_85 : decode cX7_concluded 85 = .ok (.new 324, 3) := by decide +kernel
theorem dX7_concluded_88 : decode cX7_concluded 88 = .ok (.dup, 1) := by decide +kernel
theorem dX7_concluded_89 : decode cX7_concluded 89 = .ok (.ldc_w 326, 3) := by decide +kernel
theorem dX7_concluded_92 : decode cX7_concluded 92 = .ok (.invokespecial 328, 3) := by decide +kernel
theorem dX7_concluded_95 : decode cX7_concluded 95 = .ok (.athrow, 1) := by decide +kernel
theorem dX7_concluded_96 : decode cX7_concluded 96 = .ok (.new 324, 3) := by decide +kernel
theorem dX7_concluded_99 : decode cX7_concluded 99 = .ok (.dup, 1) := by decide +kernel
theorem dX7_concluded_100 : decode cX7_concluded 100 = .ok (.ldc_w 329, 3) := by decide +kernel
theorem dX7_concluded_103 : decode cX7_concluded 103 = .ok (.invokespecial 328, 3) := by decide +kernel
theorem dX7_concluded_106 : decode cX7_concluded 106 = .ok (.athrow, 1) := by decide +kernel
theorem dX7_keepReason_0 : decode cX7_keepReason 0 = .ok (.iload_n 1, 1) := by decide +kernel
theorem dX7_keepReason_1 : decode cX7_keepReason 1 = .ok (.bipush (-10), 2) := by decide +kernel
theorem dX7_keepReason_3 : decode cX7_keepReason 3 = .ok (.if_icmp .ge 11, 3) := by decide +kernel
theorem dX7_keepReason_6 : decode cX7_keepReason 6 = .ok (.aload_n 0, 1) := by decide +kernel
theorem dX7_keepReason_7 : decode cX7_keepReason 7 = .ok (.bipush (-10), 2) := by decide +kernel
theorem dX7_keepReason_9 : decode cX7_keepReason 9 = .ok (.iload_n 1, 1) := by decide +kernel
theorem dX7_keepReason_10 : decode cX7_keepReason 10 = .ok (.isub, 1) := by decide +kernel
theorem dX7_keepReason_11 : decode cX7_keepReason 11 = .ok (.putfield 48, 3) := by decide +kernel
theorem dX7_keepReason_14 : decode cX7_keepReason 14 = .ok (.return_, 1) := by decide +kernel
theorem dX7_firstFailure_0 : decode cX7_firstFailure 0 = .ok (.aload_n 0, 1) := by decide +kernel
theorem dX7_firstFailure_1 : decode cX7_firstFailure 1 = .ok (.getfield 32, 3) := by decide +kernel
theorem dX7_firstFailure_4 : decode cX7_firstFailure 4 = .ok (.invokevirtual 331, 3) := by decide +kernel
theorem dX7_firstFailure_7 : decode cX7_firstFailure 7 = .ok (.iconst 0, 1) := by decide +kernel
theorem dX7_firstFailure_8 : decode cX7_firstFailure 8 = .ok (.istore_n 2, 1) := by decide +kernel
theorem dX7_firstFailure_9 : decode cX7_firstFailure 9 = .ok (.iload_n 2, 1) := by decide +kernel
theorem dX7_firstFailure_10 : decode cX7_firstFailure 10 = .ok (.iload_n 1, 1) := by decide +kernel
theorem dX7_firstFailure_11 : decode cX7_firstFailure 11 = .ok (.if_icmp .ge 45, 3) := by decide +kernel
theorem dX7_firstFailure_14 : decode cX7_firstFailure 14 = .ok (.aload_n 0, 1) := by decide +kernel
theorem dX7_firstFailure_15 : decode cX7_firstFailure 15 = .ok (.getfield 32, 3) := by decide +kernel
theorem dX7_firstFailure_18 : decode cX7_firstFailure 18 = .ok (.invokevirtual 334, 3) := by decide +kernel
theorem dX7_firstFailure_21 : decode cX7_firstFailure 21 = .ok (.pop, 1) := by decide +kernel
theorem dX7_firstFailure_22 : decode cX7_firstFailure 22 = .ok (.aload_n 0, 1) := by decide +kernel
theorem dX7_firstFailure_23 : decode cX7_firstFailure 23 = .ok (.aload_n 0, 1) := by decide +kernel
theorem dX7_firstFailure_24 : decode cX7_firstFailure 24 = .ok (.getfield 32, 3) := by decide +kernel
theorem dX7_firstFailure_27 : decode cX7_firstFailure 27 = .ok (.invokevirtual 337, 3) := by decide +kernel
theorem dX7_firstFailure_30 : decode cX7_firstFailure 30 = .ok (.istore_n 3, 1) := by decide +kernel
theorem dX7_firstFailure_31 : decode cX7_firstFailure 31 = .ok (.iload_n 3, 1) := by decide +kernel
theorem dX7_firstFailure_32 : decode cX7_firstFailure 32 = .ok (.ifCond .ge 10, 3) := by decide +kernel
theorem dX7_firstFailure_35 : decode cX7_firstFailure 35 = .ok (.aload_n 0, 1) := by decide +kernel
theorem dX7_firstFailure_36 : decode cX7_firstFailure 36 = .ok (.iload_n 3, 1) := by decide +kernel
theorem dX7_firstFailure_37 : decode cX7_firstFailure 37 = .ok (.invokevirtual 315, 3) := by decide +kernel
theorem dX7_firstFailure_40 : decode cX7_firstFailure 40 = .ok (.iload_n 2, 1) := by decide +kernel
theorem dX7_firstFailure_41 : decode cX7_firstFailure 41 = .ok (.ireturn, 1) := by decide +kernel
theorem dX7_firstFailure_42 : decode cX7_firstFailure 42 = .ok (.aload_n 0, 1) := by decide +kernel
theorem dX7_firstFailure_43 : decode cX7_firstFailure 43 = .ok (.getfield 32, 3) := by decide +kernel
theorem dX7_firstFailure_46 : decode cX7_firstFailure 46 = .ok (.invokevirtual 341, 3) := by decide +kernel
theorem dX7_firstFailure_49 : decode cX7_firstFailure 49 = .ok (.pop, 1) := by decide +kernel
theorem dX7_firstFailure_50 : decode cX7_firstFailure 50 = .ok (.iinc 2 1, 3) := by decide +kernel
theorem dX7_firstFailure_53 : decode cX7_firstFailure 53 = .ok (.goto (-44), 3) := by decide +kernel
theorem dX7_firstFailure_56 : decode cX7_firstFailure 56 = .ok (.iconst (-1), 1) := by decide +kernel
theorem dX7_firstFailure_57 : decode cX7_firstFailure 57 = .ok (.ireturn, 1) := by decide +kernel
theorem dX7_carryOut_0 : decode cX7_carryOut 0 = .ok (.aload_n 1, 1) := by decide +kernel
theorem dX7_carryOut_1 : decode cX7_carryOut 1 = .ok (.iconst 0, 1) := by decide +kernel
theorem dX7_carryOut_2 : decode cX7_carryOut 2 = .ok (.invokevirtual 344, 3) := by decide +kernel
theorem dX7_carryOut_5 : decode cX7_carryOut 5 = .ok (.istore_n 2, 1) := by decide +kernel
theorem dX7_carryOut_6 : decode cX7_carryOut 6 = .ok (.aload_n 1, 1) := by decide +kernel
theorem dX7_carryOut_7 : decode cX7_carryOut 7 = .ok (.iconst 1, 1) := by decide +kernel
theorem dX7_carryOut_8 : decode cX7_carryOut 8 = .ok (.invokevirtual 344, 3) := by decide +kernel
theorem dX7_carryOut_11 : decode cX7_carryOut 11 = .ok (.istore_n 3, 1) := by decide +kernel
theorem dX7_carryOut_12 : decode cX7_carryOut 12 = .ok (.aload_n 1, 1) := by decide +kernel
theorem dX7_carryOut_13 : decode cX7_carryOut 13 = .ok (.iconst 2, 1) := by decide +kernel
theorem dX7_carryOut_14 : decode cX7_carryOut 14 = .ok (.invokevirtual 344, 3) := by decide +kernel
theorem dX7_carryOut_17 : decode cX7_carryOut 17 = .ok (.istore 4, 2) := by decide +kernel
theorem dX7_carryOut_19 : decode cX7_carryOut 19 = .ok (.getstatic 346, 3) := by decide +kernel
theorem dX7_carryOut_22 : decode cX7_carryOut 22 = .ok (.aload_n 1, 1) := by decide +kernel
theorem dX7_carryOut_23 : decode cX7_carryOut 23 = .ok (.getfield 352, 3) := by decide +kernel
theorem dX7_carryOut_26 : decode cX7_carryOut 26 = .ok (.invokevirtual 356, 3) := by decide +kernel
theorem dX7_carryOut_29 : decode cX7_carryOut 29 = .ok (.iaload, 1) := by decide +kernel
theorem dX7_carryOut_30 : decode cX7_carryOut 30 = .ok (.tableswitch 126 1 7 #[42, 64, 72, 82, 93, 104, 116], 42) := by decide +kernel
theorem dX7_carryOut_72 : decode cX7_carryOut 72 = .ok (.aload_n 0, 1) := by decide +kernel
theorem dX7_carryOut_73 : decode cX7_carryOut 73 = .ok (.getfield 10, 3) := by decide +kernel
theorem dX7_carryOut_76 : decode cX7_carryOut 76 = .ok (.iload_n 2, 1) := by decide +kernel
theorem dX7_carryOut_77 : decode cX7_carryOut 77 = .ok (.iload_n 3, 1) := by decide +kernel
theorem dX7_carryOut_78 : decode cX7_carryOut 78 = .ok (.iload 4, 2) := by decide +kernel
theorem dX7_carryOut_80 : decode cX7_carryOut 80 = .ok (.aload_n 1, 1) := by decide +kernel
theorem dX7_carryOut_81 : decode cX7_carryOut 81 = .ok (.iconst 3, 1) := by decide +kernel
theorem dX7_carryOut_82 : decode cX7_carryOut 82 = .ok (.invokevirtual 344, 3) := by decide +kernel
theorem dX7_carryOut_85 : decode cX7_carryOut 85 = .ok (.aload_n 1, 1) := by decide +kernel
theorem dX7_carryOut_86 : decode cX7_carryOut 86 = .ok (.iconst 4, 1) := by decide +kernel
theorem dX7_carryOut_87 : decode cX7_carryOut 87 = .ok (.invokevirtual 344, 3) := by decide +kernel
theorem dX7_carryOut_90 : decode cX7_carryOut 90 = .ok (.invokevirtual 61, 3) := by decide +kernel
theorem dX7_carryOut_93 : decode cX7_carryOut 93 = .ok (.ireturn, 1) := by decide +kernel
theorem dX7_carryOut_94 : decode cX7_carryOut 94 = .ok (.aload_n 0, 1) := by decide +kernel
theorem dX7_carryOut_95 : decode cX7_carryOut 95 = .ok (.getfield 10, 3) := by decide +kernel
theorem dX7_carryOut_98 : decode cX7_carryOut 98 = .ok (.invokevirtual 69, 3) := by decide +kernel
theorem dX7_carryOut_101 : decode cX7_carryOut 101 = .ok (.ireturn, 1) := by decide +kernel
theorem dX7_carryOut_102 : decode cX7_carryOut 102 = .ok (.aload_n 0, 1) := by decide +kernel
theorem dX7_carryOut_103 : decode cX7_carryOut 103 = .ok (.getfield 10, 3) := by decide +kernel
theorem dX7_carryOut_106 : decode cX7_carryOut 106 = .ok (.iload_n 2, 1) := by decide +kernel
theorem dX7_carryOut_107 : decode cX7_carryOut 107 = .ok (.iload_n 3, 1) := by decide +kernel
theorem dX7_carryOut_108 : decode cX7_carryOut 108 = .ok (.invokevirtual 111, 3) := by decide +kernel
theorem dX7_carryOut_111 : decode cX7_carryOut 111 = .ok (.ireturn, 1) := by decide +kernel
theorem dX7_carryOut_112 : decode cX7_carryOut 112 = .ok (.aload_n 0, 1) := by decide +kernel
theorem dX7_carryOut_113 : decode cX7_carryOut 113 = .ok (.getfield 10, 3) := by decide +kernel
theorem dX7_carryOut_116 : decode cX7_carryOut 116 = .ok (.iload_n 2, 1) := by decide +kernel
theorem dX7_carryOut_117 : decode cX7_carryOut 117 = .ok (.iload_n 3, 1) := by decide +kernel
theorem dX7_carryOut_118 : decode cX7_carryOut 118 = .ok (.iconst 0, 1) := by decide +kernel
theorem dX7_carryOut_119 : decode cX7_carryOut 119 = .ok (.invokevirtual 115, 3) := by decide +kernel
theorem dX7_carryOut_122 : decode cX7_carryOut 122 = .ok (.ireturn, 1) := by decide +kernel
theorem dX7_carryOut_123 : decode cX7_carryOut 123 = .ok (.aload_n 0, 1) := by decide +kernel
theorem dX7_carryOut_124 : decode cX7_carryOut 124 = .ok (.getfield 10, 3) := by decide +kernel
theorem dX7_carryOut_127 : decode cX7_carryOut 127 = .ok (.iload_n 2, 1) := by decide +kernel
theorem dX7_carryOut_128 : decode cX7_carryOut 128 = .ok (.iload_n 3, 1) := by decide +kernel
theorem dX7_carryOut_129 : decode cX7_carryOut 129 = .ok (.iconst 1, 1) := by decide +kernel
theorem dX7_carryOut_130 : decode cX7_carryOut 130 = .ok (.invokevirtual 115, 3) := by decide +kernel
theorem dX7_carryOut_133 : decode cX7_carryOut 133 = .ok (.ireturn, 1) := by decide +kernel
theorem dX7_carryOut_134 : decode cX7_carryOut 134 = .ok (.aload_n 0, 1) := by decide +kernel
theorem dX7_carryOut_135 : decode cX7_carryOut 135 = .ok (.getfield 10, 3) := by decide +kernel
theorem dX7_carryOut_138 : decode cX7_carryOut 138 = .ok (.iload_n 2, 1) := by decide +kernel
theorem dX7_carryOut_139 : decode cX7_carryOut 139 = .ok (.iload_n 3, 1) := by decide +kernel
theorem dX7_carryOut_140 : decode cX7_carryOut 140 = .ok (.iload 4, 2) := by decide +kernel
theorem dX7_carryOut_142 : decode cX7_carryOut 142 = .ok (.invokevirtual 119, 3) := by decide +kernel
theorem dX7_carryOut_145 : decode cX7_carryOut 145 = .ok (.ireturn, 1) := by decide +kernel
theorem dX7_carryOut_146 : decode cX7_carryOut 146 = .ok (.aload_n 0, 1) := by decide +kernel
theorem dX7_carryOut_147 : decode cX7_carryOut 147 = .ok (.getfield 10, 3) := by decide +kernel
theorem dX7_carryOut_150 : decode cX7_carryOut 150 = .ok (.iload_n 2, 1) := by decide +kernel
theorem dX7_carryOut_151 : decode cX7_carryOut 151 = .ok (.iload_n 3, 1) := by decide +kernel
theorem dX7_carryOut_152 : decode cX7_carryOut 152 = .ok (.invokevirtual 123, 3) := by decide +kernel
theorem dX7_carryOut_155 : decode cX7_carryOut 155 = .ok (.ireturn, 1) := by decide +kernel
theorem dX7_carryOut_156 : decode cX7_carryOut 156 = .ok (.aload_n 0, 1) := by decide +kernel
theorem dX7_carryOut_157 : decode cX7_carryOut 157 = .ok (.getfield 10, 3) := by decide +kernel
theorem dX7_carryOut_160 : decode cX7_carryOut 160 = .ok (.invokevirtual 73, 3) := by decide +kernel
theorem dX7_carryOut_163 : decode cX7_carryOut 163 = .ok (.ireturn, 1) := by decide +kernel
theorem dX7_existing_0 : decode cX7_existing 0 = .ok (.aload_n 0, 1) := by decide +kernel
theorem dX7_existing_1 : decode cX7_existing 1 = .ok (.getfield 10, 3) := by decide +kernel
theorem dX7_existing_4 : decode cX7_existing 4 = .ok (.iload_n 1, 1) := by decide +kernel
theorem dX7_existing_5 : decode cX7_existing 5 = .ok (.invokevirtual 361, 3) := by decide +kernel
theorem dX7_existing_8 : decode cX7_existing 8 = .ok (.astore_n 2, 1) := by decide +kernel
theorem dX7_existing_9 : decode cX7_existing 9 = .ok (.aload_n 2, 1) := by decide +kernel
theorem dX7_existing_10 : decode cX7_existing 10 = .ok (.ifnonnull 14, 3) := by decide +kernel
theorem dX7_existing_13 : decode cX7_existing 13 = .ok (.new 282, 3) := by decide +kernel
theorem dX7_existing_16 : decode cX7_existing 16 = .ok (.dup, 1) := by decide +kernel
theorem dX7_existing_17 : decode cX7_existing 17 = .ok (.ldc_w 364, 3) := by decide +kernel
theorem dX7_existing_20 : decode cX7_existing 20 = .ok (.invokespecial 286, 3) := by decide +kernel
theorem dX7_existing_23 : decode cX7_existing 23 = .ok (.athrow, 1) := by decide +kernel
theorem dX7_existing_24 : decode cX7_existing 24 = .ok (.aload_n 2, 1) := by decide +kernel
theorem dX7_existing_25 : decode cX7_existing 25 = .ok (.areturn, 1) := by decide +kernel
theorem dX7_existingAfloat_0 : decode cX7_existingAfloat 0 = .ok (.aload_n 0, 1) := by decide +kernel
theorem dX7_existingAfloat_1 : decode cX7_existingAfloat 1 = .ok (.iload_n 1, 1) := by decide +kernel
theorem dX7_existingAfloat_2 : decode cX7_existingAfloat 2 = .ok (.invokevirtual 134, 3) := by decide +kernel
theorem dX7_existingAfloat_5 : decode cX7_existingAfloat 5 = .ok (.astore_n 2, 1) := by decide +kernel
theorem dX7_existingAfloat_6 : decode cX7_existingAfloat 6 = .ok (.aload_n 2, 1) := by decide +kernel
theorem dX7_existingAfloat_7 : decode cX7_existingAfloat 7 = .ok (.invokevirtual 161, 3) := by decide +kernel
theorem dX7_existingAfloat_10 : decode cX7_existingAfloat 10 = .ok (.ifCond .ne 14, 3) := by decide +kernel
theorem dX7_existingAfloat_13 : decode cX7_existingAfloat 13 = .ok (.new 126, 3) := by decide +kernel
theorem dX7_existingAfloat_16 : decode cX7_existingAfloat 16 = .ok (.dup, 1) := by decide +kernel
theorem dX7_existingAfloat_17 : decode cX7_existingAfloat 17 = .ok (.ldc_w 366, 3) := by decide +kernel
theorem dX7_existingAfloat_20 : decode cX7_existingAfloat 20 = .ok (.invokespecial 130, 3) := by decide +kernel
theorem dX7_existingAfloat_23 : decode cX7_existingAfloat 23 = .ok (.athrow, 1) := by decide +kernel
theorem dX7_existingAfloat_24 : decode cX7_existingAfloat 24 = .ok (.aload_n 2, 1) := by decide +kernel
theorem dX7_existingAfloat_25 : decode cX7_existingAfloat 25 = .ok (.areturn, 1) := by decide +kernel
theorem dX7_requireGoingOn_0 : decode cX7_requireGoingOn 0 = .ok (.aload_n 0, 1) := by decide +kernel
theorem dX7_requireGoingOn_1 : decode cX7_requireGoingOn 1 = .ok (.getfield 10, 3) := by decide +kernel
theorem dX7_requireGoingOn_4 : decode cX7_requireGoingOn 4 = .ok (.invokevirtual 368, 3) := by decide +kernel
theorem dX7_requireGoingOn_7 : decode cX7_requireGoingOn 7 = .ok (.ifCond .ne 14, 3) := by decide +kernel
theorem dX7_requireGoingOn_10 : decode cX7_requireGoingOn 10 = .ok (.new 83, 3) := by decide +kernel
theorem dX7_requireGoingOn_13 : decode cX7_requireGoingOn 13 = .ok (.dup, 1) := by decide +kernel
theorem dX7_requireGoingOn_14 : decode cX7_requireGoingOn 14 = .ok (.ldc_w 371, 3) := by decide +kernel
theorem dX7_requireGoingOn_17 : decode cX7_requireGoingOn 17 = .ok (.invokespecial 87, 3) := by decide +kernel
theorem dX7_requireGoingOn_20 : decode cX7_requireGoingOn 20 = .ok (.athrow, 1) := by decide +kernel
theorem dX7_requireGoingOn_21 : decode cX7_requireGoingOn 21 = .ok (.return_, 1) := by decide +kernel
theorem dX7_requireFleet_0 : decode cX7_requireFleet 0 = .ok (.iload_n 0, 1) := by decide +kernel
theorem dX7_requireFleet_1 : decode cX7_requireFleet 1 = .ok (.invokestatic 373, 3) := by decide +kernel
theorem dX7_requireFleet_4 : decode cX7_requireFleet 4 = .ok (.ifCond .ne 14, 3) := by decide +kernel
theorem dX7_requireFleet_7 : decode cX7_requireFleet 7 = .ok (.new 282, 3) := by decide +kernel
theorem dX7_requireFleet_10 : decode cX7_requireFleet 10 = .ok (.dup, 1) := by decide +kernel
theorem dX7_requireFleet_11 : decode cX7_requireFleet 11 = .ok (.ldc_w 377, 3) := by decide +kernel
theorem dX7_requireFleet_14 : decode cX7_requireFleet 14 = .ok (.invokespecial 286, 3) := by decide +kernel
theorem dX7_requireFleet_17 : decode cX7_requireFleet 17 = .ok (.athrow, 1) := by decide +kernel
theorem dX7_requireFleet_18 : decode cX7_requireFleet 18 = .ok (.return_, 1) := by decide +kernel
theorem dX7_requireCell_0 : decode cX7_requireCell 0 = .ok (.iload_n 0, 1) := by decide +kernel
theorem dX7_requireCell_1 : decode cX7_requireCell 1 = .ok (.iload_n 1, 1) := by decide +kernel
theorem dX7_requireCell_2 : decode cX7_requireCell 2 = .ok (.invokestatic 379, 3) := by decide +kernel
theorem dX7_requireCell_5 : decode cX7_requireCell 5 = .ok (.ifCond .ne 14, 3) := by decide +kernel
theorem dX7_requireCell_8 : decode cX7_requireCell 8 = .ok (.new 241, 3) := by decide +kernel
theorem dX7_requireCell_11 : decode cX7_requireCell 11 = .ok (.dup, 1) := by decide +kernel
theorem dX7_requireCell_12 : decode cX7_requireCell 12 = .ok (.ldc_w 382, 3) := by decide +kernel
theorem dX7_requireCell_15 : decode cX7_requireCell 15 = .ok (.invokespecial 245, 3) := by decide +kernel
theorem dX7_requireCell_18 : decode cX7_requireCell 18 = .ok (.athrow, 1) := by decide +kernel
theorem dX7_requireCell_19 : decode cX7_requireCell 19 = .ok (.return_, 1) := by decide +kernel
theorem dX7_isFleet_0 : decode cX7_isFleet 0 = .ok (.iload_n 0, 1) := by decide +kernel
theorem dX7_isFleet_1 : decode cX7_isFleet 1 = .ok (.ifCond .eq 8, 3) := by decide +kernel
theorem dX7_isFleet_4 : decode cX7_isFleet 4 = .ok (.iload_n 0, 1) := by decide +kernel
theorem dX7_isFleet_5 : decode cX7_isFleet 5 = .ok (.iconst 1, 1) := by decide +kernel
theorem dX7_isFleet_6 : decode cX7_isFleet 6 = .ok (.if_icmp .ne 7, 3) := by decide +kernel
theorem dX7_isFleet_9 : decode cX7_isFleet 9 = .ok (.iconst 1, 1) := by decide +kernel
theorem dX7_isFleet_10 : decode cX7_isFleet 10 = .ok (.goto 4, 3) := by decide +kernel
theorem dX7_isFleet_13 : decode cX7_isFleet 13 = .ok (.iconst 0, 1) := by decide +kernel
theorem dX7_isFleet_14 : decode cX7_isFleet 14 = .ok (.ireturn, 1) := by decide +kernel
theorem dX7_isOnTray_0 : decode cX7_isOnTray 0 = .ok (.iload_n 0, 1) := by decide +kernel
theorem dX7_isOnTray_1 : decode cX7_isOnTray 1 = .ok (.ifCond .lt 23, 3) := by decide +kernel
theorem dX7_isOnTray_4 : decode cX7_isOnTray 4 = .ok (.iload_n 0, 1) := by decide +kernel
theorem dX7_isOnTray_5 : decode cX7_isOnTray 5 = .ok (.bipush 10, 2) := by decide +kernel
theorem dX7_isOnTray_7 : decode cX7_isOnTray 7 = .ok (.if_icmp .ge 17, 3) := by decide +kernel
theorem dX7_isOnTray_10 : decode cX7_isOnTray 10 = .ok (.iload_n 1, 1) := by decide +kernel
theorem dX7_isOnTray_11 : decode cX7_isOnTray 11 = .ok (.ifCond .lt 13, 3) := by decide +kernel
theorem dX7_isOnTray_14 : decode cX7_isOnTray 14 = .ok (.iload_n 1, 1) := by decide +kernel
theorem dX7_isOnTray_15 : decode cX7_isOnTray 15 = .ok (.bipush 10, 2) := by decide +kernel
theorem dX7_isOnTray_17 : decode cX7_isOnTray 17 = .ok (.if_icmp .ge 7, 3) := by decide +kernel
theorem dX7_isOnTray_20 : decode cX7_isOnTray 20 = .ok (.iconst 1, 1) := by decide +kernel
theorem dX7_isOnTray_21 : decode cX7_isOnTray 21 = .ok (.goto 4, 3) := by decide +kernel
theorem dX7_isOnTray_24 : decode cX7_isOnTray 24 = .ok (.iconst 0, 1) := by decide +kernel
theorem dX7_isOnTray_25 : decode cX7_isOnTray 25 = .ok (.ireturn, 1) := by decide +kernel
theorem dX7_isBearing_0 : decode cX7_isBearing 0 = .ok (.iload_n 0, 1) := by decide +kernel
theorem dX7_isBearing_1 : decode cX7_isBearing 1 = .ok (.ifCond .lt 13, 3) := by decide +kernel
theorem dX7_isBearing_4 : decode cX7_isBearing 4 = .ok (.iload_n 0, 1) := by decide +kernel
theorem dX7_isBearing_5 : decode cX7_isBearing 5 = .ok (.bipush 8, 2) := by decide +kernel
theorem dX7_isBearing_7 : decode cX7_isBearing 7 = .ok (.if_icmp .ge 7, 3) := by decide +kernel
theorem dX7_isBearing_10 : decode cX7_isBearing 10 = .ok (.iconst 1, 1) := by decide +kernel
theorem dX7_isBearing_11 : decode cX7_isBearing 11 = .ok (.goto 4, 3) := by decide +kernel
theorem dX7_isBearing_14 : decode cX7_isBearing 14 = .ok (.iconst 0, 1) := by decide +kernel
theorem dX7_isBearing_15 : decode cX7_isBearing 15 = .ok (.ireturn, 1) := by decide +kernel
theorem dX7_isCubeNumber_0 : decode cX7_isCubeNumber 0 = .ok (.iload_n 0, 1) := by decide +kernel
theorem dX7_isCubeNumber_1 : decode cX7_isCubeNumber 1 = .ok (.iconst 1, 1) := by decide +kernel
theorem dX7_isCubeNumber_2 : decode cX7_isCubeNumber 2 = .ok (.if_icmp .lt 13, 3) := by decide +kernel
theorem dX7_isCubeNumber_5 : decode cX7_isCubeNumber 5 = .ok (.iload_n 0, 1) := by decide +kernel
theorem dX7_isCubeNumber_6 : decode cX7_isCubeNumber 6 = .ok (.bipush 9, 2) := by decide +kernel
theorem dX7_isCubeNumber_8 : decode cX7_isCubeNumber 8 = .ok (.if_icmp .gt 7, 3) := by decide +kernel
theorem dX7_isCubeNumber_11 : decode cX7_isCubeNumber 11 = .ok (.iconst 1, 1) := by decide +kernel
theorem dX7_isCubeNumber_12 : decode cX7_isCubeNumber 12 = .ok (.goto 4, 3) := by decide +kernel
theorem dX7_isCubeNumber_15 : decode cX7_isCubeNumber 15 = .ok (.iconst 0, 1) := by decide +kernel
theorem dX7_isCubeNumber_16 : decode cX7_isCubeNumber 16 = .ok (.ireturn, 1) := by decide +kernel
theorem dX7_stepX_0 : decode cX7_stepX 0 = .ok (.iload_n 0, 1) := by decide +kernel
theorem dX7_stepX_1 : decode cX7_stepX 1 = .ok (.ifCond .eq 8, 3) := by decide +kernel
theorem dX7_stepX_4 : decode cX7_stepX 4 = .ok (.iload_n 0, 1) := by decide +kernel
theorem dX7_stepX_5 : decode cX7_stepX 5 = .ok (.iconst 4, 1) := by decide +kernel
theorem dX7_stepX_6 : decode cX7_stepX 6 = .ok (.if_icmp .ne 5, 3) := by decide +kernel
theorem dX7_stepX_9 : decode cX7_stepX 9 = .ok (.iconst 0, 1) := by decide +kernel
theorem dX7_stepX_10 : decode cX7_stepX 10 = .ok (.ireturn, 1) := by decide +kernel
theorem dX7_stepX_11 : decode cX7_stepX 11 = .ok (.iload_n 0, 1) := by decide +kernel
theorem dX7_stepX_12 : decode cX7_stepX 12 = .ok (.iconst 4, 1) := by decide +kernel
theorem dX7_stepX_13 : decode cX7_stepX 13 = .ok (.if_icmp .ge 7, 3) := by decide +kernel
theorem dX7_stepX_16 : decode cX7_stepX 16 = .ok (.iconst 1, 1) := by decide +kernel
theorem dX7_stepX_17 : decode cX7_stepX 17 = .ok (.goto 4, 3) := by decide +kernel
theorem dX7_stepX_20 : decode cX7_stepX 20 = .ok (.iconst (-1), 1) := by decide +kernel
theorem dX7_stepX_21 : decode cX7_stepX 21 = .ok (.ireturn, 1) := by decide +kernel
theorem dX7_stepY_0 : decode cX7_stepY 0 = .ok (.iload_n 0, 1) := by decide +kernel
theorem dX7_stepY_1 : decode cX7_stepY 1 = .ok (.iconst 2, 1) := by decide +kernel
theorem dX7_stepY_2 : decode cX7_stepY 2 = .ok (.if_icmp .eq 9, 3) := by decide +kernel
theorem dX7_stepY_5 : decode cX7_stepY 5 = .ok (.iload_n 0, 1) := by decide +kernel
theorem dX7_stepY_6 : decode cX7_stepY 6 = .ok (.bipush 6, 2) := by decide +kernel
theorem dX7_stepY_8 : decode cX7_stepY 8 = .ok (.if_icmp .ne 5, 3) := by decide +kernel
theorem dX7_stepY_11 : decode cX7_stepY 11 = .ok (.iconst 0, 1) := by decide +kernel
theorem dX7_stepY_12 : decode cX7_stepY 12 = .ok (.ireturn, 1) := by decide +kernel
theorem dX7_stepY_13 : decode cX7_stepY 13 = .ok (.iload_n 0, 1) := by decide +kernel
theorem dX7_stepY_14 : decode cX7_stepY 14 = .ok (.iconst 2, 1) := by decide +kernel
theorem dX7_stepY_15 : decode cX7_stepY 15 = .ok (.if_icmp .le 13, 3) := by decide +kernel
theorem dX7_stepY_18 : decode cX7_stepY 18 = .ok (.iload_n 0, 1) := by decide +kernel
theorem dX7_stepY_19 : decode cX7_stepY 19 = .ok (.bipush 6, 2) := by decide +kernel
theorem dX7_stepY_21 : decode cX7_stepY 21 = .ok (.if_icmp .ge 7, 3) := by decide +kernel
theorem dX7_stepY_24 : decode cX7_stepY 24 = .ok (.iconst (-1), 1) := by decide +kernel
theorem dX7_stepY_25 : decode cX7_stepY 25 = .ok (.goto 4, 3) := by decide +kernel
theorem dX7_stepY_28 : decode cX7_stepY 28 = .ok (.iconst 1, 1) := by decide +kernel
theorem dX7_stepY_29 : decode cX7_stepY 29 = .ok (.ireturn, 1) := by decide +kernel
theorem dX7_directionOf_0 : decode cX7_directionOf 0 = .ok (.iload_n 0, 1) := by decide +kernel
theorem dX7_directionOf_1 : decode cX7_directionOf 1 = .ok (.invokestatic 384, 3) := by decide +kernel
theorem dX7_directionOf_4 : decode cX7_directionOf 4 = .ok (.istore_n 2, 1) := by decide +kernel
theorem dX7_directionOf_5 : decode cX7_directionOf 5 = .ok (.iload_n 1, 1) := by decide +kernel
theorem dX7_directionOf_6 : decode cX7_directionOf 6 = .ok (.invokestatic 384, 3) := by decide +kernel
theorem dX7_directionOf_9 : decode cX7_directionOf 9 = .ok (.istore_n 3, 1) := by decide +kernel
theorem dX7_directionOf_10 : decode cX7_directionOf 10 = .ok (.iload_n 2, 1) := by decide +kernel
theorem dX7_directionOf_11 : decode cX7_directionOf 11 = .ok (.iconst 2, 1) := by decide +kernel
theorem dX7_directionOf_12 : decode cX7_directionOf 12 = .ok (.iload_n 3, 1) := by decide +kernel
theorem dX7_directionOf_13 : decode cX7_directionOf 13 = .ok (.imul, 1) := by decide +kernel
theorem dX7_directionOf_14 : decode cX7_directionOf 14 = .ok (.if_icmp .lt 14, 3) := by decide +kernel
theorem dX7_directionOf_17 : decode cX7_directionOf 17 = .ok (.iload_n 0, 1) := by decide +kernel
theorem dX7_directionOf_18 : decode cX7_directionOf 18 = .ok (.ifCond .le 7, 3) := by decide +kernel
theorem dX7_directionOf_21 : decode cX7_directionOf 21 = .ok (.iconst 2, 1) := by decide +kernel
theorem dX7_directionOf_22 : decode cX7_directionOf 22 = .ok (.goto 5, 3) := by decide +kernel
theorem dX7_directionOf_25 : decode cX7_directionOf 25 = .ok (.bipush 6, 2) := by decide +kernel
theorem dX7_directionOf_27 : decode cX7_directionOf 27 = .ok (.ireturn, 1) := by decide +kernel
theorem dX7_directionOf_28 : decode cX7_directionOf 28 = .ok (.iload_n 3, 1) := by decide +kernel
theorem dX7_directionOf_29 : decode cX7_directionOf 29 = .ok (.iconst 2, 1) := by decide +kernel
theorem dX7_directionOf_30 : decode cX7_directionOf 30 = .ok (.iload_n 2, 1) := by decide +kernel
theorem dX7_directionOf_31 : decode cX7_directionOf 31 = .ok (.imul, 1) := by decide +kernel
theorem dX7_directionOf_32 : decode cX7_directionOf 32 = .ok (.if_icmp .lt 13, 3) := by decide +kernel
theorem dX7_directionOf_35 : decode cX7_directionOf 35 = .ok (.iload_n 1, 1) := by decide +kernel
theorem dX7_directionOf_36 : decode cX7_directionOf 36 = .ok (.ifCond .le 7, 3) := by decide +kernel
theorem dX7_directionOf_39 : decode cX7_directionOf 39 = .ok (.iconst 0, 1) := by decide +kernel
theorem dX7_directionOf_40 : decode cX7_directionOf 40 = .ok (.goto 4, 3) := by decide +kernel
theorem dX7_directionOf_43 : decode cX7_directionOf 43 = .ok (.iconst 4, 1) := by decide +kernel
theorem dX7_directionOf_44 : decode cX7_directionOf 44 = .ok (.ireturn, 1) := by decide +kernel
theorem dX7_directionOf_45 : decode cX7_directionOf 45 = .ok (.iload_n 0, 1) := by decide +kernel
theorem dX7_directionOf_46 : decode cX7_directionOf 46 = .ok (.ifCond .le 13, 3) := by decide +kernel
theorem dX7_directionOf_49 : decode cX7_directionOf 49 = .ok (.iload_n 1, 1) := by decide +kernel
theorem dX7_directionOf_50 : decode cX7_directionOf 50 = .ok (.ifCond .le 7, 3) := by decide +kernel
theorem dX7_directionOf_53 : decode cX7_directionOf 53 = .ok (.iconst 1, 1) := by decide +kernel
theorem dX7_directionOf_54 : decode cX7_directionOf 54 = .ok (.goto 4, 3) := by decide +kernel
theorem dX7_directionOf_57 : decode cX7_directionOf 57 = .ok (.iconst 3, 1) := by decide +kernel
theorem dX7_directionOf_58 : decode cX7_directionOf 58 = .ok (.ireturn, 1) := by decide +kernel
theorem dX7_directionOf_59 : decode cX7_directionOf 59 = .ok (.iload_n 1, 1) := by decide +kernel
theorem dX7_directionOf_60 : decode cX7_directionOf 60 = .ok (.ifCond .le 8, 3) := by decide +kernel
theorem dX7_directionOf_63 : decode cX7_directionOf 63 = .ok (.bipush 7, 2) := by decide +kernel
theorem dX7_directionOf_65 : decode cX7_directionOf 65 = .ok (.goto 4, 3) := by decide +kernel
theorem dX7_directionOf_68 : decode cX7_directionOf 68 = .ok (.iconst 5, 1) := by decide +kernel
theorem dX7_directionOf_69 : decode cX7_directionOf 69 = .ok (.ireturn, 1) := by decide +kernel
theorem dX7_stepsBetween_0 : decode cX7_stepsBetween 0 = .ok (.iload_n 0, 1) := by decide +kernel
theorem dX7_stepsBetween_1 : decode cX7_stepsBetween 1 = .ok (.iload_n 1, 1) := by decide +kernel
theorem dX7_stepsBetween_2 : decode cX7_stepsBetween 2 = .ok (.isub, 1) := by decide +kernel
theorem dX7_stepsBetween_3 : decode cX7_stepsBetween 3 = .ok (.invokestatic 384, 3) := by decide +kernel
theorem dX7_stepsBetween_6 : decode cX7_stepsBetween 6 = .ok (.istore_n 2, 1) := by decide +kernel
theorem dX7_stepsBetween_7 : decode cX7_stepsBetween 7 = .ok (.iload_n 2, 1) := by decide +kernel
theorem dX7_stepsBetween_8 : decode cX7_stepsBetween 8 = .ok (.bipush 8, 2) := by decide +kernel
theorem dX7_stepsBetween_10 : decode cX7_stepsBetween 10 = .ok (.iload_n 2, 1) := by decide +kernel
theorem dX7_stepsBetween_11 : decode cX7_stepsBetween 11 = .ok (.isub, 1) := by decide +kernel
theorem dX7_stepsBetween_12 : decode cX7_stepsBetween 12 = .ok (.invokestatic 389, 3) := by decide +kernel
theorem dX7_stepsBetween_15 : decode cX7_stepsBetween 15 = .ok (.ireturn, 1) := by decide +kernel
theorem dJx00060_init_a7421_0 : decode cJx00060_init_a7421 0 = .ok (.aload_n 0, 1) := by decide +kernel
theorem dJx00060_init_a7421_1 : decode cJx00060_init_a7421 1 = .ok (.aload_n 1, 1) := by decide +kernel
theorem dJx00060_init_a7421_2 : decode cJx00060_init_a7421 2 = .ok (.invokespecial 7, 3) := by decide +kernel
theorem dJx00060_init_a7421_5 : decode cJx00060_init_a7421 5 = .ok (.return_, 1) := by decide +kernel
theorem dJx29ce0_ordinal_8abf5_0 : decode cJx29ce0_ordinal_8abf5 0 = .ok (.aload_n 0, 1) := by decide +kernel
theorem dJx29ce0_ordinal_8abf5_1 : decode cJx29ce0_ordinal_8abf5 1 = .ok (.getfield 7, 3) := by decide +kernel
theorem dJx29ce0_ordinal_8abf5_4 : decode cJx29ce0_ordinal_8abf5 4 = .ok (.ireturn, 1) := by decide +kernel
theorem dJ9_abs_0f7a4_0 : decode cJ9_abs_0f7a4 0 = .ok (.iload_n 0, 1) := by decide +kernel
theorem dJ9_abs_0f7a4_1 : decode cJ9_abs_0f7a4 1 = .ok (.ifCond .ge 8, 3) := by decide +kernel
theorem dJ9_abs_0f7a4_4 : decode cJ9_abs_0f7a4 4 = .ok (.iload_n 0, 1) := by decide +kernel
theorem dJ9_abs_0f7a4_5 : decode cJ9_abs_0f7a4 5 = .ok (.ineg, 1) := by decide +kernel
theorem dJ9_abs_0f7a4_6 : decode cJ9_abs_0f7a4 6 = .ok (.goto 4, 3) := by decide +kernel
theorem dJ9_abs_0f7a4_9 : decode cJ9_abs_0f7a4 9 = .ok (.iload_n 0, 1) := by decide +kernel
theorem dJ9_abs_0f7a4_10 : decode cJ9_abs_0f7a4 10 = .ok (.ireturn, 1) := by decide +kernel
theorem dJ9_max_7cf53_0 : decode cJ9_max_7cf53 0 = .ok (.iload_n 0, 1) := by decide +kernel
theorem dJ9_max_7cf53_1 : decode cJ9_max_7cf53 1 = .ok (.iload_n 1, 1) := by decide +kernel
theorem dJ9_max_7cf53_2 : decode cJ9_max_7cf53 2 = .ok (.if_icmp .lt 7, 3) := by decide +kernel
theorem dJ9_max_7cf53_5 : decode cJ9_max_7cf53 5 = .ok (.iload_n 0, 1) := by decide +kernel
theorem dJ9_max_7cf53_6 : decode cJ9_max_7cf53 6 = .ok (.goto 4, 3) := by decide +kernel
theorem dJ9_max_7cf53_9 : decode cJ9_max_7cf53 9 = .ok (.iload_n 1, 1) := by decide +kernel
theorem dJ9_max_7cf53_10 : decode cJ9_max_7cf53 10 = .ok (.ireturn, 1) := by decide +kernel
theorem dJ9_min_7cf53_0 : decode cJ9_min_7cf53 0 = .ok (.iload_n 0, 1) := by decide +kernel
theorem dJ9_min_7cf53_1 : decode cJ9_min_7cf53 1 = .ok (.iload_n 1, 1) := by decide +kernel
theorem dJ9_min_7cf53_2 : decode cJ9_min_7cf53 2 = .ok (.if_icmp .gt 7, 3) := by decide +kernel
theorem dJ9_min_7cf53_5 : decode cJ9_min_7cf53 5 = .ok (.iload_n 0, 1) := by decide +kernel
theorem dJ9_min_7cf53_6 : decode cJ9_min_7cf53 6 = .ok (.goto 4, 3) := by decide +kernel
theorem dJ9_min_7cf53_9 : decode cJ9_min_7cf53 9 = .ok (.iload_n 1, 1) := by decide +kernel
theorem dJ9_min_7cf53_10 : decode cJ9_min_7cf53 10 = .ok (.ireturn, 1) := by decide +kernel
theorem dJ0_length_8abf5_0 : decode cJ0_length_8abf5 0 = .ok (.aload_n 0, 1) := by decide +kernel
theorem dJ0_length_8abf5_1 : decode cJ0_length_8abf5 1 = .ok (.getfield 9, 3) := by decide +kernel
theorem dJ0_length_8abf5_4 : decode cJ0_length_8abf5 4 = .ok (.arraylength, 1) := by decide +kernel
theorem dJ0_length_8abf5_5 : decode cJ0_length_8abf5 5 = .ok (.aload_n 0, 1) := by decide +kernel
theorem dJ0_length_8abf5_6 : decode cJ0_length_8abf5 6 = .ok (.invokevirtual 335, 3) := by decide +kernel
theorem dJ0_length_8abf5_9 : decode cJ0_length_8abf5 9 = .ok (.ishr, 1) := by decide +kernel
theorem dJ0_length_8abf5_10 : decode cJ0_length_8abf5 10 = .ok (.ireturn, 1) := by decide +kernel
theorem dJ0_charAt_5068e_0 : decode cJ0_charAt_5068e 0 = .ok (.aload_n 0, 1) := by decide +kernel
theorem dJ0_charAt_5068e_1 : decode cJ0_charAt_5068e 1 = .ok (.invokevirtual 492, 3) := by decide +kernel
theorem dJ0_charAt_5068e_4 : decode cJ0_charAt_5068e 4 = .ok (.ifCond .eq 12, 3) := by decide +kernel
theorem dJ0_charAt_5068e_7 : decode cJ0_charAt_5068e 7 = .ok (.aload_n 0, 1) := by decide +kernel
theorem dJ0_charAt_5068e_8 : decode cJ0_charAt_5068e 8 = .ok (.getfield 9, 3) := by decide +kernel
theorem dJ0_charAt_5068e_11 : decode cJ0_charAt_5068e 11 = .ok (.iload_n 1, 1) := by decide +kernel
theorem dJ0_charAt_5068e_12 : decode cJ0_charAt_5068e 12 = .ok (.invokestatic 495, 3) := by decide +kernel
theorem dJ0_charAt_5068e_15 : decode cJ0_charAt_5068e 15 = .ok (.ireturn, 1) := by decide +kernel
theorem dJ0_charAt_5068e_16 : decode cJ0_charAt_5068e 16 = .ok (.aload_n 0, 1) := by decide +kernel
theorem dJ0_charAt_5068e_17 : decode cJ0_charAt_5068e 17 = .ok (.getfield 9, 3) := by decide +kernel
theorem dJ0_charAt_5068e_20 : decode cJ0_charAt_5068e 20 = .ok (.iload_n 1, 1) := by decide +kernel
theorem dJ0_charAt_5068e_21 : decode cJ0_charAt_5068e 21 = .ok (.invokestatic 498, 3) := by decide +kernel
theorem dJ0_charAt_5068e_24 : decode cJ0_charAt_5068e 24 = .ok (.ireturn, 1) := by decide +kernel
theorem dJ0_coder_7d493_0 : decode cJ0_coder_7d493 0 = .ok (.getstatic 38, 3) := by decide +kernel
theorem dJ0_coder_7d493_3 : decode cJ0_coder_7d493 3 = .ok (.ifCond .eq 10, 3) := by decide +kernel
theorem dJ0_coder_7d493_6 : decode cJ0_coder_7d493 6 = .ok (.aload_n 0, 1) := by decide +kernel
theorem dJ0_coder_7d493_7 : decode cJ0_coder_7d493 7 = .ok (.getfield 15, 3) := by decide +kernel
theorem dJ0_coder_7d493_10 : decode cJ0_coder_7d493 10 = .ok (.goto 4, 3) := by decide +kernel
theorem dJ0_coder_7d493_13 : decode cJ0_coder_7d493 13 = .ok (.iconst 1, 1) := by decide +kernel
theorem dJ0_coder_7d493_14 : decode cJ0_coder_7d493 14 = .ok (.ireturn, 1) := by decide +kernel
theorem dJ0_isLatin1_aae02_0 : decode cJ0_isLatin1_aae02 0 = .ok (.getstatic 38, 3) := by decide +kernel
theorem dJ0_isLatin1_aae02_3 : decode cJ0_isLatin1_aae02 3 = .ok (.ifCond .eq 14, 3) := by decide +kernel
theorem dJ0_isLatin1_aae02_6 : decode cJ0_isLatin1_aae02 6 = .ok (.aload_n 0, 1) := by decide +kernel
theorem dJ0_isLatin1_aae02_7 : decode cJ0_isLatin1_aae02 7 = .ok (.getfield 15, 3) := by decide +kernel
theorem dJ0_isLatin1_aae02_10 : decode cJ0_isLatin1_aae02 10 = .ok (.ifCond .ne 7, 3) := by decide +kernel
theorem dJ0_isLatin1_aae02_13 : decode cJ0_isLatin1_aae02 13 = .ok (.iconst 1, 1) := by decide +kernel
theorem dJ0_isLatin1_aae02_14 : decode cJ0_isLatin1_aae02 14 = .ok (.goto 4, 3) := by decide +kernel
theorem dJ0_isLatin1_aae02_17 : decode cJ0_isLatin1_aae02 17 = .ok (.iconst 0, 1) := by decide +kernel
theorem dJ0_isLatin1_aae02_18 : decode cJ0_isLatin1_aae02 18 = .ok (.ireturn, 1) := by decide +kernel
theorem dJ0_checkIndex_df160_0 : decode cJ0_checkIndex_df160 0 = .ok (.iload_n 0, 1) := by decide +kernel
theorem dJ0_checkIndex_df160_1 : decode cJ0_checkIndex_df160 1 = .ok (.iload_n 1, 1) := by decide +kernel
theorem dJ0_checkIndex_df160_2 : decode cJ0_checkIndex_df160 2 = .ok (.getstatic 1053, 3) := by decide +kernel
theorem dJ0_checkIndex_df160_5 : decode cJ0_checkIndex_df160 5 = .ok (.invokestatic 1059, 3) := by decide +kernel
theorem dJ0_checkIndex_df160_8 : decode cJ0_checkIndex_df160 8 = .ok (.pop, 1) := by decide +kernel
theorem dJ0_checkIndex_df160_9 : decode cJ0_checkIndex_df160 9 = .ok (.return_, 1) := by decide +kernel
theorem dJ1_charAt_3b067_0 : decode cJ1_charAt_3b067 0 = .ok (.iload_n 1, 1) := by decide +kernel
theorem dJ1_charAt_3b067_1 : decode cJ1_charAt_3b067 1 = .ok (.aload_n 0, 1) := by decide +kernel
theorem dJ1_charAt_3b067_2 : decode cJ1_charAt_3b067 2 = .ok (.arraylength, 1) := by decide +kernel
theorem dJ1_charAt_3b067_3 : decode cJ1_charAt_3b067 3 = .ok (.invokestatic 9, 3) := by decide +kernel
theorem dJ1_charAt_3b067_6 : decode cJ1_charAt_3b067 6 = .ok (.aload_n 0, 1) := by decide +kernel
theorem dJ1_charAt_3b067_7 : decode cJ1_charAt_3b067 7 = .ok (.iload_n 1, 1) := by decide +kernel
theorem dJ1_charAt_3b067_8 : decode cJ1_charAt_3b067 8 = .ok (.baload, 1) := by decide +kernel
theorem dJ1_charAt_3b067_9 : decode cJ1_charAt_3b067 9 = .ok (.sipush 255, 3) := by decide +kernel
theorem dJ1_charAt_3b067_12 : decode cJ1_charAt_3b067 12 = .ok (.iand, 1) := by decide +kernel
theorem dJ1_charAt_3b067_13 : decode cJ1_charAt_3b067 13 = .ok (.i2c, 1) := by decide +kernel
theorem dJ1_charAt_3b067_14 : decode cJ1_charAt_3b067 14 = .ok (.ireturn, 1) := by decide +kernel
theorem dJ2_getChar_3b067_0 : decode cJ2_getChar_3b067 0 = .ok (.getstatic 44, 3) := by decide +kernel
theorem dJ2_getChar_3b067_3 : decode cJ2_getChar_3b067 3 = .ok (.ifCond .ne 25, 3) := by decide +kernel
theorem dJ2_getChar_3b067_6 : decode cJ2_getChar_3b067 6 = .ok (.iload_n 1, 1) := by decide +kernel
theorem dJ2_getChar_3b067_7 : decode cJ2_getChar_3b067 7 = .ok (.ifCond .lt 11, 3) := by decide +kernel
theorem dJ2_getChar_3b067_10 : decode cJ2_getChar_3b067 10 = .ok (.iload_n 1, 1) := by decide +kernel
theorem dJ2_getChar_3b067_11 : decode cJ2_getChar_3b067 11 = .ok (.aload_n 0, 1) := by decide +kernel
theorem dJ2_getChar_3b067_12 : decode cJ2_getChar_3b067 12 = .ok (.invokestatic 48, 3) := by decide +kernel
theorem dJ2_getChar_3b067_15 : decode cJ2_getChar_3b067 15 = .ok (.if_icmp .lt 13, 3) := by decide +kernel
theorem dJ2_getChar_3b067_18 : decode cJ2_getChar_3b067 18 = .ok (.new 52, 3) := by decide +kernel
theorem dJ2_getChar_3b067_21 : decode cJ2_getChar_3b067 21 = .ok (.dup, 1) := by decide +kernel
theorem dJ2_getChar_3b067_22 : decode cJ2_getChar_3b067 22 = .ok (.ldc 54, 2) := by decide +kernel
theorem dJ2_getChar_3b067_24 : decode cJ2_getChar_3b067 24 = .ok (.invokespecial 56, 3) := by decide +kernel
theorem dJ2_getChar_3b067_27 : decode cJ2_getChar_3b067 27 = .ok (.athrow, 1) := by decide +kernel
theorem dJ2_getChar_3b067_28 : decode cJ2_getChar_3b067 28 = .ok (.iload_n 1, 1) := by decide +kernel
theorem dJ2_getChar_3b067_29 : decode cJ2_getChar_3b067 29 = .ok (.iconst 1, 1) := by decide +kernel
theorem dJ2_getChar_3b067_30 : decode cJ2_getChar_3b067 30 = .ok (.ishl, 1) := by decide +kernel
theorem dJ2_getChar_3b067_31 : decode cJ2_getChar_3b067 31 = .ok (.istore_n 1, 1) := by decide +kernel
theorem dJ2_getChar_3b067_32 : decode cJ2_getChar_3b067 32 = .ok (.aload_n 0, 1) := by decide +kernel
theorem dJ2_getChar_3b067_33 : decode cJ2_getChar_3b067 33 = .ok (.iload_n 1, 1) := by decide +kernel
theorem dJ2_getChar_3b067_34 : decode cJ2_getChar_3b067 34 = .ok (.iinc 1 1, 3) := by decide +kernel
theorem dJ2_getChar_3b067_37 : decode cJ2_getChar_3b067 37 = .ok (.baload, 1) := by decide +kernel
theorem dJ2_getChar_3b067_38 : decode cJ2_getChar_3b067 38 = .ok (.sipush 255, 3) := by decide +kernel
theorem dJ2_getChar_3b067_41 : decode cJ2_getChar_3b067 41 = .ok (.iand, 1) := by decide +kernel
theorem dJ2_getChar_3b067_42 : decode cJ2_getChar_3b067 42 = .ok (.getstatic 59, 3) := by decide +kernel
theorem dJ2_getChar_3b067_45 : decode cJ2_getChar_3b067 45 = .ok (.ishl, 1) := by decide +kernel
theorem dJ2_getChar_3b067_46 : decode cJ2_getChar_3b067 46 = .ok (.aload_n 0, 1) := by decide +kernel
theorem dJ2_getChar_3b067_47 : decode cJ2_getChar_3b067 47 = .ok (.iload_n 1, 1) := by decide +kernel
theorem dJ2_getChar_3b067_48 : decode cJ2_getChar_3b067 48 = .ok (.baload, 1) := by decide +kernel
theorem dJ2_getChar_3b067_49 : decode cJ2_getChar_3b067 49 = .ok (.sipush 255, 3) := by decide +kernel
theorem dJ2_getChar_3b067_52 : decode cJ2_getChar_3b067 52 = .ok (.iand, 1) := by decide +kernel
theorem dJ2_getChar_3b067_53 : decode cJ2_getChar_3b067 53 = .ok (.getstatic 63, 3) := by decide +kernel
theorem dJ2_getChar_3b067_56 : decode cJ2_getChar_3b067 56 = .ok (.ishl, 1) := by decide +kernel
theorem dJ2_getChar_3b067_57 : decode cJ2_getChar_3b067 57 = .ok (.ior, 1) := by decide +kernel
theorem dJ2_getChar_3b067_58 : decode cJ2_getChar_3b067 58 = .ok (.i2c, 1) := by decide +kernel
theorem dJ2_getChar_3b067_59 : decode cJ2_getChar_3b067 59 = .ok (.ireturn, 1) := by decide +kernel
theorem dJ2_length_9d52b_0 : decode cJ2_length_9d52b 0 = .ok (.aload_n 0, 1) := by decide +kernel
theorem dJ2_length_9d52b_1 : decode cJ2_length_9d52b 1 = .ok (.arraylength, 1) := by decide +kernel
theorem dJ2_length_9d52b_2 : decode cJ2_length_9d52b 2 = .ok (.iconst 1, 1) := by decide +kernel
theorem dJ2_length_9d52b_3 : decode cJ2_length_9d52b 3 = .ok (.ishr, 1) := by decide +kernel
theorem dJ2_length_9d52b_4 : decode cJ2_length_9d52b 4 = .ok (.ireturn, 1) := by decide +kernel
theorem dJ2_charAt_3b067_0 : decode cJ2_charAt_3b067 0 = .ok (.iload_n 1, 1) := by decide +kernel
theorem dJ2_charAt_3b067_1 : decode cJ2_charAt_3b067 1 = .ok (.aload_n 0, 1) := by decide +kernel
theorem dJ2_charAt_3b067_2 : decode cJ2_charAt_3b067 2 = .ok (.invokestatic 67, 3) := by decide +kernel
theorem dJ2_charAt_3b067_5 : decode cJ2_charAt_3b067 5 = .ok (.aload_n 0, 1) := by decide +kernel
theorem dJ2_charAt_3b067_6 : decode cJ2_charAt_3b067 6 = .ok (.iload_n 1, 1) := by decide +kernel
theorem dJ2_charAt_3b067_7 : decode cJ2_charAt_3b067 7 = .ok (.invokestatic 71, 3) := by decide +kernel
theorem dJ2_charAt_3b067_10 : decode cJ2_charAt_3b067 10 = .ok (.ireturn, 1) := by decide +kernel
theorem dJ2_checkIndex_2214a_0 : decode cJ2_checkIndex_2214a 0 = .ok (.iload_n 0, 1) := by decide +kernel
theorem dJ2_checkIndex_2214a_1 : decode cJ2_checkIndex_2214a 1 = .ok (.aload_n 1, 1) := by decide +kernel
theorem dJ2_checkIndex_2214a_2 : decode cJ2_checkIndex_2214a 2 = .ok (.invokestatic 48, 3) := by decide +kernel
theorem dJ2_checkIndex_2214a_5 : decode cJ2_checkIndex_2214a 5 = .ok (.invokestatic 414, 3) := by decide +kernel
theorem dJ2_checkIndex_2214a_8 : decode cJ2_checkIndex_2214a 8 = .ok (.return_, 1) := by decide +kernel
theorem dJ3_checkIndex_8e157_0 : decode cJ3_checkIndex_8e157 0 = .ok (.iload_n 0, 1) := by decide +kernel
theorem dJ3_checkIndex_8e157_1 : decode cJ3_checkIndex_8e157 1 = .ok (.ifCond .lt 8, 3) := by decide +kernel
theorem dJ3_checkIndex_8e157_4 : decode cJ3_checkIndex_8e157 4 = .ok (.iload_n 0, 1) := by decide +kernel
theorem dJ3_checkIndex_8e157_5 : decode cJ3_checkIndex_8e157 5 = .ok (.iload_n 1, 1) := by decide +kernel
theorem dJ3_checkIndex_8e157_6 : decode cJ3_checkIndex_8e157 6 = .ok (.if_icmp .lt 10, 3) := by decide +kernel
theorem dJ3_checkIndex_8e157_9 : decode cJ3_checkIndex_8e157 9 = .ok (.aload_n 2, 1) := by decide +kernel
theorem dJ3_checkIndex_8e157_10 : decode cJ3_checkIndex_8e157 10 = .ok (.iload_n 0, 1) := by decide +kernel
theorem dJ3_checkIndex_8e157_11 : decode cJ3_checkIndex_8e157 11 = .ok (.iload_n 1, 1) := by decide +kernel
theorem dJ3_checkIndex_8e157_12 : decode cJ3_checkIndex_8e157 12 = .ok (.invokestatic 95, 3) := by decide +kernel
theorem dJ3_checkIndex_8e157_15 : decode cJ3_checkIndex_8e157 15 = .ok (.athrow, 1) := by decide +kernel
theorem dJ3_checkIndex_8e157_16 : decode cJ3_checkIndex_8e157 16 = .ok (.iload_n 0, 1) := by decide +kernel
theorem dJ3_checkIndex_8e157_17 : decode cJ3_checkIndex_8e157 17 = .ok (.ireturn, 1) := by decide +kernel
theorem dL_cell_0 : decode cL_cell 0 = .ok (.aload_n 0, 1) := by decide +kernel
theorem dL_cell_1 : decode cL_cell 1 = .ok (.arraylength, 1) := by decide +kernel
theorem dL_cell_2 : decode cL_cell 2 = .ok (.ifCond .ne 11, 3) := by decide +kernel
theorem dL_cell_5 : decode cL_cell 5 = .ok (.sipush 577, 3) := by decide +kernel
theorem dL_cell_8 : decode cL_cell 8 = .ok (.iload_n 1, 1) := by decide +kernel
theorem dL_cell_9 : decode cL_cell 9 = .ok (.imul, 1) := by decide +kernel
theorem dL_cell_10 : decode cL_cell 10 = .ok (.goto 12, 3) := by decide +kernel
theorem dL_cell_13 : decode cL_cell 13 = .ok (.aload_n 0, 1) := by decide +kernel
theorem dL_cell_14 : decode cL_cell 14 = .ok (.iload_n 1, 1) := by decide +kernel
theorem dL_cell_15 : decode cL_cell 15 = .ok (.ldc 7, 2) := by decide +kernel
theorem dL_cell_17 : decode cL_cell 17 = .ok (.iand, 1) := by decide +kernel
theorem dL_cell_18 : decode cL_cell 18 = .ok (.aload_n 0, 1) := by decide +kernel
theorem dL_cell_19 : decode cL_cell 19 = .ok (.arraylength, 1) := by decide +kernel
theorem dL_cell_20 : decode cL_cell 20 = .ok (.irem, 1) := by decide +kernel
theorem dL_cell_21 : decode cL_cell 21 = .ok (.iaload, 1) := by decide +kernel
theorem dL_cell_22 : decode cL_cell 22 = .ok (.ireturn, 1) := by decide +kernel
theorem dL_addSpoon_0 : decode cL_addSpoon 0 = .ok (.ldc 10, 2) := by decide +kernel
theorem dL_addSpoon_2 : decode cL_addSpoon 2 = .ok (.istore 6, 2) := by decide +kernel
theorem dL_addSpoon_4 : decode cL_addSpoon 4 = .ok (.aload_n 0, 1) := by decide +kernel
theorem dL_addSpoon_5 : decode cL_addSpoon 5 = .ok (.iload_n 1, 1) := by decide +kernel
theorem dL_addSpoon_6 : decode cL_addSpoon 6 = .ok (.iload_n 2, 1) := by decide +kernel
theorem dL_addSpoon_7 : decode cL_addSpoon 7 = .ok (.iload_n 3, 1) := by decide +kernel
theorem dL_addSpoon_8 : decode cL_addSpoon 8 = .ok (.iload 4, 2) := by decide +kernel
theorem dL_addSpoon_10 : decode cL_addSpoon 10 = .ok (.iload 5, 2) := by decide +kernel
theorem dL_addSpoon_12 : decode cL_addSpoon 12 = .ok (.invokevirtual 11, 3) := by decide +kernel
theorem dL_addSpoon_15 : decode cL_addSpoon 15 = .ok (.istore 6, 2) := by decide +kernel
theorem dL_addSpoon_17 : decode cL_addSpoon 17 = .ok (.goto 23, 3) := by decide +kernel
theorem dL_addSpoon_20 : decode cL_addSpoon 20 = .ok (.astore 7, 2) := by decide +kernel
theorem dL_addSpoon_22 : decode cL_addSpoon 22 = .ok (.ldc 10, 2) := by decide +kernel
theorem dL_addSpoon_24 : decode cL_addSpoon 24 = .ok (.ireturn, 1) := by decide +kernel
theorem dL_addSpoon_25 : decode cL_addSpoon 25 = .ok (.astore 7, 2) := by decide +kernel
theorem dL_addSpoon_27 : decode cL_addSpoon 27 = .ok (.ldc 10, 2) := by decide +kernel
theorem dL_addSpoon_29 : decode cL_addSpoon 29 = .ok (.ireturn, 1) := by decide +kernel
theorem dL_addSpoon_30 : decode cL_addSpoon 30 = .ok (.astore 7, 2) := by decide +kernel
theorem dL_addSpoon_32 : decode cL_addSpoon 32 = .ok (.ldc 10, 2) := by decide +kernel
theorem dL_addSpoon_34 : decode cL_addSpoon 34 = .ok (.ireturn, 1) := by decide +kernel
theorem dL_addSpoon_35 : decode cL_addSpoon 35 = .ok (.astore 7, 2) := by decide +kernel
theorem dL_addSpoon_37 : decode cL_addSpoon 37 = .ok (.ldc 10, 2) := by decide +kernel
theorem dL_addSpoon_39 : decode cL_addSpoon 39 = .ok (.ireturn, 1) := by decide +kernel
theorem dL_addSpoon_40 : decode cL_addSpoon 40 = .ok (.iload 6, 2) := by decide +kernel
theorem dL_addSpoon_42 : decode cL_addSpoon 42 = .ok (.ireturn, 1) := by decide +kernel
theorem dL_start_0 : decode cL_start 0 = .ok (.ldc 10, 2) := by decide +kernel
theorem dL_start_2 : decode cL_start 2 = .ok (.istore_n 1, 1) := by decide +kernel
theorem dL_start_3 : decode cL_start 3 = .ok (.aload_n 0, 1) := by decide +kernel
theorem dL_start_4 : decode cL_start 4 = .ok (.invokevirtual 25, 3) := by decide +kernel
theorem dL_start_7 : decode cL_start 7 = .ok (.istore_n 1, 1) := by decide +kernel
theorem dL_start_8 : decode cL_start 8 = .ok (.goto 7, 3) := by decide +kernel
theorem dL_start_11 : decode cL_start 11 = .ok (.astore_n 2, 1) := by decide +kernel
theorem dL_start_12 : decode cL_start 12 = .ok (.ldc 10, 2) := by decide +kernel
theorem dL_start_14 : decode cL_start 14 = .ok (.ireturn, 1) := by decide +kernel
theorem dL_start_15 : decode cL_start 15 = .ok (.iload_n 1, 1) := by decide +kernel
theorem dL_start_16 : decode cL_start 16 = .ok (.ireturn, 1) := by decide +kernel
theorem dL_endTurn_0 : decode cL_endTurn 0 = .ok (.ldc 10, 2) := by decide +kernel
theorem dL_endTurn_2 : decode cL_endTurn 2 = .ok (.istore_n 1, 1) := by decide +kernel
theorem dL_endTurn_3 : decode cL_endTurn 3 = .ok (.aload_n 0, 1) := by decide +kernel
theorem dL_endTurn_4 : decode cL_endTurn 4 = .ok (.invokevirtual 29, 3) := by decide +kernel
theorem dL_endTurn_7 : decode cL_endTurn 7 = .ok (.istore_n 1, 1) := by decide +kernel
theorem dL_endTurn_8 : decode cL_endTurn 8 = .ok (.goto 7, 3) := by decide +kernel
theorem dL_endTurn_11 : decode cL_endTurn 11 = .ok (.astore_n 2, 1) := by decide +kernel
theorem dL_endTurn_12 : decode cL_endTurn 12 = .ok (.ldc 10, 2) := by decide +kernel
theorem dL_endTurn_14 : decode cL_endTurn 14 = .ok (.ireturn, 1) := by decide +kernel
theorem dL_endTurn_15 : decode cL_endTurn 15 = .ok (.iload_n 1, 1) := by decide +kernel
theorem dL_endTurn_16 : decode cL_endTurn 16 = .ok (.ireturn, 1) := by decide +kernel
theorem dL_winner_0 : decode cL_winner 0 = .ok (.sipush (-1000), 3) := by decide +kernel
theorem dL_winner_3 : decode cL_winner 3 = .ok (.istore_n 1, 1) := by decide +kernel
theorem dL_winner_4 : decode cL_winner 4 = .ok (.aload_n 0, 1) := by decide +kernel
theorem dL_winner_5 : decode cL_winner 5 = .ok (.invokevirtual 32, 3) := by decide +kernel
theorem dL_winner_8 : decode cL_winner 8 = .ok (.istore_n 1, 1) := by decide +kernel
theorem dL_winner_9 : decode cL_winner 9 = .ok (.goto 8, 3) := by decide +kernel
theorem dL_winner_12 : decode cL_winner 12 = .ok (.astore_n 2, 1) := by decide +kernel
theorem dL_winner_13 : decode cL_winner 13 = .ok (.sipush (-1000), 3) := by decide +kernel
theorem dL_winner_16 : decode cL_winner 16 = .ok (.ireturn, 1) := by decide +kernel
theorem dL_winner_17 : decode cL_winner 17 = .ok (.iload_n 1, 1) := by decide +kernel
theorem dL_winner_18 : decode cL_winner 18 = .ok (.ireturn, 1) := by decide +kernel
theorem dL_activeFleet_0 : decode cL_activeFleet 0 = .ok (.sipush (-1000), 3) := by decide +kernel
theorem dL_activeFleet_3 : decode cL_activeFleet 3 = .ok (.istore_n 1, 1) := by decide +kernel
theorem dL_activeFleet_4 : decode cL_activeFleet 4 = .ok (.aload_n 0, 1) := by decide +kernel
theorem dL_activeFleet_5 : decode cL_activeFleet 5 = .ok (.invokevirtual 35, 3) := by decide +kernel
theorem dL_activeFleet_8 : decode cL_activeFleet 8 = .ok (.istore_n 1, 1) := by decide +kernel
theorem dL_activeFleet_9 : decode cL_activeFleet 9 = .ok (.goto 8, 3) := by decide +kernel
theorem dL_activeFleet_12 : decode cL_activeFleet 12 = .ok (.astore_n 2, 1) := by decide +kernel
theorem dL_activeFleet_13 : decode cL_activeFleet 13 = .ok (.sipush (-1000), 3) := by decide +kernel
theorem dL_activeFleet_16 : decode cL_activeFleet 16 = .ok (.ireturn, 1) := by decide +kernel
theorem dL_activeFleet_17 : decode cL_activeFleet 17 = .ok (.iload_n 1, 1) := by decide +kernel
theorem dL_activeFleet_18 : decode cL_activeFleet 18 = .ok (.ireturn, 1) := by decide +kernel
theorem dL_actionsLeft_0 : decode cL_actionsLeft 0 = .ok (.sipush (-1000), 3) := by decide +kernel
theorem dL_actionsLeft_3 : decode cL_actionsLeft 3 = .ok (.istore_n 1, 1) := by decide +kernel
theorem dL_actionsLeft_4 : decode cL_actionsLeft 4 = .ok (.aload_n 0, 1) := by decide +kernel
theorem dL_actionsLeft_5 : decode cL_actionsLeft 5 = .ok (.invokevirtual 38, 3) := by decide +kernel
theorem dL_actionsLeft_8 : decode cL_actionsLeft 8 = .ok (.istore_n 1, 1) := by decide +kernel
theorem dL_actionsLeft_9 : decode cL_actionsLeft 9 = .ok (.goto 8, 3) := by decide +kernel
theorem dL_actionsLeft_12 : decode cL_actionsLeft 12 = .ok (.astore_n 2, 1) := by decide +kernel
theorem dL_actionsLeft_13 : decode cL_actionsLeft 13 = .ok (.sipush (-1000), 3) := by decide +kernel
theorem dL_actionsLeft_16 : decode cL_actionsLeft 16 = .ok (.ireturn, 1) := by decide +kernel
theorem dL_actionsLeft_17 : decode cL_actionsLeft 17 = .ok (.iload_n 1, 1) := by decide +kernel
theorem dL_actionsLeft_18 : decode cL_actionsLeft 18 = .ok (.ireturn, 1) := by decide +kernel
theorem dL_turnTo_0 : decode cL_turnTo 0 = .ok (.ldc 10, 2) := by decide +kernel
theorem dL_turnTo_2 : decode cL_turnTo 2 = .ok (.istore_n 3, 1) := by decide +kernel
theorem dL_turnTo_3 : decode cL_turnTo 3 = .ok (.aload_n 0, 1) := by decide +kernel
theorem dL_turnTo_4 : decode cL_turnTo 4 = .ok (.iload_n 1, 1) := by decide +kernel
theorem dL_turnTo_5 : decode cL_turnTo 5 = .ok (.iload_n 2, 1) := by decide +kernel
theorem dL_turnTo_6 : decode cL_turnTo 6 = .ok (.invokevirtual 41, 3) := by decide +kernel
theorem dL_turnTo_9 : decode cL_turnTo 9 = .ok (.istore_n 3, 1) := by decide +kernel
theorem dL_turnTo_10 : decode cL_turnTo 10 = .ok (.goto 23, 3) := by decide +kernel
theorem dL_turnTo_13 : decode cL_turnTo 13 = .ok (.astore 4, 2) := by decide +kernel
theorem dL_turnTo_15 : decode cL_turnTo 15 = .ok (.ldc 10, 2) := by decide +kernel
theorem dL_turnTo_17 : decode cL_turnTo 17 = .ok (.ireturn, 1) := by decide +kernel
theorem dL_turnTo_18 : decode cL_turnTo 18 = .ok (.astore 4, 2) := by decide +kernel
theorem dL_turnTo_20 : decode cL_turnTo 20 = .ok (.ldc 10, 2) := by decide +kernel
theorem dL_turnTo_22 : decode cL_turnTo 22 = .ok (.ireturn, 1) := by decide +kernel
theorem dL_turnTo_23 : decode cL_turnTo 23 = .ok (.astore 4, 2) := by decide +kernel
theorem dL_turnTo_25 : decode cL_turnTo 25 = .ok (.ldc 10, 2) := by decide +kernel
theorem dL_turnTo_27 : decode cL_turnTo 27 = .ok (.ireturn, 1) := by decide +kernel
theorem dL_turnTo_28 : decode cL_turnTo 28 = .ok (.astore 4, 2) := by decide +kernel
theorem dL_turnTo_30 : decode cL_turnTo 30 = .ok (.ldc 10, 2) := by decide +kernel
theorem dL_turnTo_32 : decode cL_turnTo 32 = .ok (.ireturn, 1) := by decide +kernel
theorem dL_turnTo_33 : decode cL_turnTo 33 = .ok (.iload_n 3, 1) := by decide +kernel
theorem dL_turnTo_34 : decode cL_turnTo 34 = .ok (.ireturn, 1) := by decide +kernel
theorem dL_sail_0 : decode cL_sail 0 = .ok (.ldc 10, 2) := by decide +kernel
theorem dL_sail_2 : decode cL_sail 2 = .ok (.istore 4, 2) := by decide +kernel
theorem dL_sail_4 : decode cL_sail 4 = .ok (.aload_n 0, 1) := by decide +kernel
theorem dL_sail_5 : decode cL_sail 5 = .ok (.iload_n 1, 1) := by decide +kernel
theorem dL_sail_6 : decode cL_sail 6 = .ok (.iload_n 2, 1) := by decide +kernel
theorem dL_sail_7 : decode cL_sail 7 = .ok (.iload_n 3, 1) := by decide +kernel
theorem dL_sail_8 : decode cL_sail 8 = .ok (.invokevirtual 45, 3) := by decide +kernel
theorem dL_sail_11 : decode cL_sail 11 = .ok (.istore 4, 2) := by decide +kernel
theorem dL_sail_13 : decode cL_sail 13 = .ok (.goto 23, 3) := by decide +kernel
theorem dL_sail_16 : decode cL_sail 16 = .ok (.astore 5, 2) := by decide +kernel
theorem dL_sail_18 : decode cL_sail 18 = .ok (.ldc 10, 2) := by decide +kernel
theorem dL_sail_20 : decode cL_sail 20 = .ok (.ireturn, 1) := by decide +kernel
theorem dL_sail_21 : decode cL_sail 21 = .ok (.astore 5, 2) := by decide +kernel
theorem dL_sail_23 : decode cL_sail 23 = .ok (.ldc 10, 2) := by decide +kernel
theorem dL_sail_25 : decode cL_sail 25 = .ok (.ireturn, 1) := by decide +kernel
theorem dL_sail_26 : decode cL_sail 26 = .ok (.astore 5, 2) := by decide +kernel
theorem dL_sail_28 : decode cL_sail 28 = .ok (.ldc 10, 2) := by decide +kernel
theorem dL_sail_30 : decode cL_sail 30 = .ok (.ireturn, 1) := by decide +kernel
theorem dL_sail_31 : decode cL_sail 31 = .ok (.astore 5, 2) := by decide +kernel
theorem dL_sail_33 : decode cL_sail 33 = .ok (.ldc 10, 2) := by decide +kernel
theorem dL_sail_35 : decode cL_sail 35 = .ok (.ireturn, 1) := by decide +kernel
theorem dL_sail_36 : decode cL_sail 36 = .ok (.iload 4, 2) := by decide +kernel
theorem dL_sail_38 : decode cL_sail 38 = .ok (.ireturn, 1) := by decide +kernel
theorem dL_fire_0 : decode cL_fire 0 = .ok (.ldc 10, 2) := by decide +kernel
theorem dL_fire_2 : decode cL_fire 2 = .ok (.istore 4, 2) := by decide +kernel
theorem dL_fire_4 : decode cL_fire 4 = .ok (.aload_n 0, 1) := by decide +kernel
theorem dL_fire_5 : decode cL_fire 5 = .ok (.iload_n 1, 1) := by decide +kernel
theorem dL_fire_6 : decode cL_fire 6 = .ok (.iload_n 2, 1) := by decide +kernel
theorem dL_fire_7 : decode cL_fire 7 = .ok (.iload_n 3, 1) := by decide +kernel
theorem dL_fire_8 : decode cL_fire 8 = .ok (.invokevirtual 49, 3) := by decide +kernel
theorem dL_fire_11 : decode cL_fire 11 = .ok (.istore 4, 2) := by decide +kernel
theorem dL_fire_13 : decode cL_fire 13 = .ok (.goto 23, 3) := by decide +kernel
theorem dL_fire_16 : decode cL_fire 16 = .ok (.astore 5, 2) := by decide +kernel
theorem dL_fire_18 : decode cL_fire 18 = .ok (.ldc 10, 2) := by decide +kernel
theorem dL_fire_20 : decode cL_fire 20 = .ok (.ireturn, 1) := by decide +kernel
theorem dL_fire_21 : decode cL_fire 21 = .ok (.astore 5, 2) := by decide +kernel
theorem dL_fire_23 : decode cL_fire 23 = .ok (.ldc 10, 2) := by decide +kernel
theorem dL_fire_25 : decode cL_fire 25 = .ok (.ireturn, 1) := by decide +kernel
theorem dL_fire_26 : decode cL_fire 26 = .ok (.astore 5, 2) := by decide +kernel
theorem dL_fire_28 : decode cL_fire 28 = .ok (.ldc 10, 2) := by decide +kernel
theorem dL_fire_30 : decode cL_fire 30 = .ok (.ireturn, 1) := by decide +kernel
theorem dL_fire_31 : decode cL_fire 31 = .ok (.astore 5, 2) := by decide +kernel
theorem dL_fire_33 : decode cL_fire 33 = .ok (.ldc 10, 2) := by decide +kernel
theorem dL_fire_35 : decode cL_fire 35 = .ok (.ireturn, 1) := by decide +kernel
theorem dL_fire_36 : decode cL_fire 36 = .ok (.iload 4, 2) := by decide +kernel
theorem dL_fire_38 : decode cL_fire 38 = .ok (.ireturn, 1) := by decide +kernel
theorem dL_load_0 : decode cL_load 0 = .ok (.ldc 10, 2) := by decide +kernel
theorem dL_load_2 : decode cL_load 2 = .ok (.istore_n 3, 1) := by decide +kernel
theorem dL_load_3 : decode cL_load 3 = .ok (.aload_n 0, 1) := by decide +kernel
theorem dL_load_4 : decode cL_load 4 = .ok (.iload_n 1, 1) := by decide +kernel
theorem dL_load_5 : decode cL_load 5 = .ok (.iload_n 2, 1) := by decide +kernel
theorem dL_load_6 : decode cL_load 6 = .ok (.invokevirtual 53, 3) := by decide +kernel
theorem dL_load_9 : decode cL_load 9 = .ok (.istore_n 3, 1) := by decide +kernel
theorem dL_load_10 : decode cL_load 10 = .ok (.goto 23, 3) := by decide +kernel
theorem dL_load_13 : decode cL_load 13 = .ok (.astore 4, 2) := by decide +kernel
theorem dL_load_15 : decode cL_load 15 = .ok (.ldc 10, 2) := by decide +kernel
theorem dL_load_17 : decode cL_load 17 = .ok (.ireturn, 1) := by decide +kernel
theorem dL_load_18 : decode cL_load 18 = .ok (.astore 4, 2) := by decide +kernel
theorem dL_load_20 : decode cL_load 20 = .ok (.ldc 10, 2) := by decide +kernel
theorem dL_load_22 : decode cL_load 22 = .ok (.ireturn, 1) := by decide +kernel
theorem dL_load_23 : decode cL_load 23 = .ok (.astore 4, 2) := by decide +kernel
theorem dL_load_25 : decode cL_load 25 = .ok (.ldc 10, 2) := by decide +kernel
theorem dL_load_27 : decode cL_load 27 = .ok (.ireturn, 1) := by decide +kernel
theorem dL_load_28 : decode cL_load 28 = .ok (.astore 4, 2) := by decide +kernel
theorem dL_load_30 : decode cL_load 30 = .ok (.ldc 10, 2) := by decide +kernel
theorem dL_load_32 : decode cL_load 32 = .ok (.ireturn, 1) := by decide +kernel
theorem dL_load_33 : decode cL_load 33 = .ok (.iload_n 3, 1) := by decide +kernel
theorem dL_load_34 : decode cL_load 34 = .ok (.ireturn, 1) := by decide +kernel
theorem dL_xOf_0 : decode cL_xOf 0 = .ok (.sipush (-1000), 3) := by decide +kernel
theorem dL_xOf_3 : decode cL_xOf 3 = .ok (.istore_n 2, 1) := by decide +kernel
theorem dL_xOf_4 : decode cL_xOf 4 = .ok (.aload_n 0, 1) := by decide +kernel
theorem dL_xOf_5 : decode cL_xOf 5 = .ok (.iload_n 1, 1) := by decide +kernel
theorem dL_xOf_6 : decode cL_xOf 6 = .ok (.invokevirtual 61, 3) := by decide +kernel
theorem dL_xOf_9 : decode cL_xOf 9 = .ok (.istore_n 2, 1) := by decide +kernel
theorem dL_xOf_10 : decode cL_xOf 10 = .ok (.goto 13, 3) := by decide +kernel
theorem dL_xOf_13 : decode cL_xOf 13 = .ok (.astore_n 3, 1) := by decide +kernel
theorem dL_xOf_14 : decode cL_xOf 14 = .ok (.sipush (-1000), 3) := by decide +kernel
theorem dL_xOf_17 : decode cL_xOf 17 = .ok (.ireturn, 1) := by decide +kernel
theorem dL_xOf_18 : decode cL_xOf 18 = .ok (.astore_n 3, 1) := by decide +kernel
theorem dL_xOf_19 : decode cL_xOf 19 = .ok (.sipush (-1000), 3) := by decide +kernel
theorem dL_xOf_22 : decode cL_xOf 22 = .ok (.ireturn, 1) := by decide +kernel
theorem dL_xOf_23 : decode cL_xOf 23 = .ok (.iload_n 2, 1) := by decide +kernel
theorem dL_xOf_24 : decode cL_xOf 24 = .ok (.ireturn, 1) := by decide +kernel
theorem dL_yOf_0 : decode cL_yOf 0 = .ok (.sipush (-1000), 3) := by decide +kernel
theorem dL_yOf_3 : decode cL_yOf 3 = .ok (.istore_n 2, 1) := by decide +kernel
theorem dL_yOf_4 : decode cL_yOf 4 = .ok (.aload_n 0, 1) := by decide +kernel
theorem dL_yOf_5 : decode cL_yOf 5 = .ok (.iload_n 1, 1) := by decide +kernel
theorem dL_yOf_6 : decode cL_yOf 6 = .ok (.invokevirtual 65, 3) := by decide +kernel
theorem dL_yOf_9 : decode cL_yOf 9 = .ok (.istore_n 2, 1) := by decide +kernel
theorem dL_yOf_10 : decode cL_yOf 10 = .ok (.goto 13, 3) := by decide +kernel
theorem dL_yOf_13 : decode cL_yOf 13 = .ok (.astore_n 3, 1) := by decide +kernel
theorem dL_yOf_14 : decode cL_yOf 14 = .ok (.sipush (-1000), 3) := by decide +kernel
theorem dL_yOf_17 : decode cL_yOf 17 = .ok (.ireturn, 1) := by decide +kernel
theorem dL_yOf_18 : decode cL_yOf 18 = .ok (.astore_n 3, 1) := by decide +kernel
theorem dL_yOf_19 : decode cL_yOf 19 = .ok (.sipush (-1000), 3) := by decide +kernel
theorem dL_yOf_22 : decode cL_yOf 22 = .ok (.ireturn, 1) := by decide +kernel
theorem dL_yOf_23 : decode cL_yOf 23 = .ok (.iload_n 2, 1) := by decide +kernel
theorem dL_yOf_24 : decode cL_yOf 24 = .ok (.ireturn, 1) := by decide +kernel
theorem dL_spoonAt_0 : decode cL_spoonAt 0 = .ok (.sipush (-1000), 3) := by decide +kernel
theorem dL_spoonAt_3 : decode cL_spoonAt 3 = .ok (.istore_n 3, 1) := by decide +kernel
theorem dL_spoonAt_4 : decode cL_spoonAt 4 = .ok (.aload_n 0, 1) := by decide +kernel
theorem dL_spoonAt_5 : decode cL_spoonAt 5 = .ok (.iload_n 1, 1) := by decide +kernel
theorem dL_spoonAt_6 : decode cL_spoonAt 6 = .ok (.iload_n 2, 1) := by decide +kernel
theorem dL_spoonAt_7 : decode cL_spoonAt 7 = .ok (.invokevirtual 68, 3) := by decide +kernel
theorem dL_spoonAt_10 : decode cL_spoonAt 10 = .ok (.istore_n 3, 1) := by decide +kernel
theorem dL_spoonAt_11 : decode cL_spoonAt 11 = .ok (.goto 15, 3) := by decide +kernel
theorem dL_spoonAt_14 : decode cL_spoonAt 14 = .ok (.astore 4, 2) := by decide +kernel
theorem dL_spoonAt_16 : decode cL_spoonAt 16 = .ok (.sipush (-1000), 3) := by decide +kernel
theorem dL_spoonAt_19 : decode cL_spoonAt 19 = .ok (.ireturn, 1) := by decide +kernel
theorem dL_spoonAt_20 : decode cL_spoonAt 20 = .ok (.astore 4, 2) := by decide +kernel
theorem dL_spoonAt_22 : decode cL_spoonAt 22 = .ok (.sipush (-1000), 3) := by decide +kernel
theorem dL_spoonAt_25 : decode cL_spoonAt 25 = .ok (.ireturn, 1) := by decide +kernel
theorem dL_spoonAt_26 : decode cL_spoonAt 26 = .ok (.iload_n 3, 1) := by decide +kernel
theorem dL_spoonAt_27 : decode cL_spoonAt 27 = .ok (.ireturn, 1) := by decide +kernel
theorem dL_knownX_0 : decode cL_knownX 0 = .ok (.sipush (-1000), 3) := by decide +kernel
theorem dL_knownX_3 : decode cL_knownX 3 = .ok (.istore_n 2, 1) := by decide +kernel
theorem dL_knownX_4 : decode cL_knownX 4 = .ok (.aload_n 0, 1) := by decide +kernel
theorem dL_knownX_5 : decode cL_knownX 5 = .ok (.iload_n 1, 1) := by decide +kernel
theorem dL_knownX_6 : decode cL_knownX 6 = .ok (.invokevirtual 71, 3) := by decide +kernel
theorem dL_knownX_9 : decode cL_knownX 9 = .ok (.istore_n 2, 1) := by decide +kernel
theorem dL_knownX_10 : decode cL_knownX 10 = .ok (.goto 13, 3) := by decide +kernel
theorem dL_knownX_13 : decode cL_knownX 13 = .ok (.astore_n 3, 1) := by decide +kernel
theorem dL_knownX_14 : decode cL_knownX 14 = .ok (.sipush (-1000), 3) := by decide +kernel
theorem dL_knownX_17 : decode cL_knownX 17 = .ok (.ireturn, 1) := by decide +kernel
theorem dL_knownX_18 : decode cL_knownX 18 = .ok (.astore_n 3, 1) := by decide +kernel
theorem dL_knownX_19 : decode cL_knownX 19 = .ok (.sipush (-1000), 3) := by decide +kernel
theorem dL_knownX_22 : decode cL_knownX 22 = .ok (.ireturn, 1) := by decide +kernel
theorem dL_knownX_23 : decode cL_knownX 23 = .ok (.iload_n 2, 1) := by decide +kernel
theorem dL_knownX_24 : decode cL_knownX 24 = .ok (.ireturn, 1) := by decide +kernel
theorem dL_knownY_0 : decode cL_knownY 0 = .ok (.sipush (-1000), 3) := by decide +kernel
theorem dL_knownY_3 : decode cL_knownY 3 = .ok (.istore_n 2, 1) := by decide +kernel
theorem dL_knownY_4 : decode cL_knownY 4 = .ok (.aload_n 0, 1) := by decide +kernel
theorem dL_knownY_5 : decode cL_knownY 5 = .ok (.iload_n 1, 1) := by decide +kernel
theorem dL_knownY_6 : decode cL_knownY 6 = .ok (.invokevirtual 74, 3) := by decide +kernel
theorem dL_knownY_9 : decode cL_knownY 9 = .ok (.istore_n 2, 1) := by decide +kernel
theorem dL_knownY_10 : decode cL_knownY 10 = .ok (.goto 13, 3) := by decide +kernel
theorem dL_knownY_13 : decode cL_knownY 13 = .ok (.astore_n 3, 1) := by decide +kernel
theorem dL_knownY_14 : decode cL_knownY 14 = .ok (.sipush (-1000), 3) := by decide +kernel
theorem dL_knownY_17 : decode cL_knownY 17 = .ok (.ireturn, 1) := by decide +kernel
theorem dL_knownY_18 : decode cL_knownY 18 = .ok (.astore_n 3, 1) := by decide +kernel
theorem dL_knownY_19 : decode cL_knownY 19 = .ok (.sipush (-1000), 3) := by decide +kernel
theorem dL_knownY_22 : decode cL_knownY 22 = .ok (.ireturn, 1) := by decide +kernel
theorem dL_knownY_23 : decode cL_knownY 23 = .ok (.iload_n 2, 1) := by decide +kernel
theorem dL_knownY_24 : decode cL_knownY 24 = .ok (.ireturn, 1) := by decide +kernel
theorem dL_spoonAtRank_0 : decode cL_spoonAtRank 0 = .ok (.sipush (-1000), 3) := by decide +kernel
theorem dL_spoonAtRank_3 : decode cL_spoonAtRank 3 = .ok (.istore_n 2, 1) := by decide +kernel
theorem dL_spoonAtRank_4 : decode cL_spoonAtRank 4 = .ok (.aload_n 0, 1) := by decide +kernel
theorem dL_spoonAtRank_5 : decode cL_spoonAtRank 5 = .ok (.iload_n 1, 1) := by decide +kernel
theorem dL_spoonAtRank_6 : decode cL_spoonAtRank 6 = .ok (.invokevirtual 77, 3) := by decide +kernel
theorem dL_spoonAtRank_9 : decode cL_spoonAtRank 9 = .ok (.istore_n 2, 1) := by decide +kernel
theorem dL_spoonAtRank_10 : decode cL_spoonAtRank 10 = .ok (.goto 8, 3) := by decide +kernel
theorem dL_spoonAtRank_13 : decode cL_spoonAtRank 13 = .ok (.astore_n 3, 1) := by decide +kernel
theorem dL_spoonAtRank_14 : decode cL_spoonAtRank 14 = .ok (.sipush (-1000), 3) := by decide +kernel
theorem dL_spoonAtRank_17 : decode cL_spoonAtRank 17 = .ok (.ireturn, 1) := by decide +kernel
theorem dL_spoonAtRank_18 : decode cL_spoonAtRank 18 = .ok (.iload_n 2, 1) := by decide +kernel
theorem dL_spoonAtRank_19 : decode cL_spoonAtRank 19 = .ok (.ireturn, 1) := by decide +kernel
theorem dL_distance_0 : decode cL_distance 0 = .ok (.sipush (-1000), 3) := by decide +kernel
theorem dL_distance_3 : decode cL_distance 3 = .ok (.istore_n 3, 1) := by decide +kernel
theorem dL_distance_4 : decode cL_distance 4 = .ok (.aload_n 0, 1) := by decide +kernel
theorem dL_distance_5 : decode cL_distance 5 = .ok (.iload_n 1, 1) := by decide +kernel
theorem dL_distance_6 : decode cL_distance 6 = .ok (.iload_n 2, 1) := by decide +kernel
theorem dL_distance_7 : decode cL_distance 7 = .ok (.invokevirtual 80, 3) := by decide +kernel
theorem dL_distance_10 : decode cL_distance 10 = .ok (.istore_n 3, 1) := by decide +kernel
theorem dL_distance_11 : decode cL_distance 11 = .ok (.goto 15, 3) := by decide +kernel
