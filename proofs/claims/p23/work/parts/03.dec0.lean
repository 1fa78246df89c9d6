theorem dX0_init_0 : decode cX0_init 0 = .ok (.aload_n 0, 1) := by decide +kernel
theorem dX0_init_1 : decode cX0_init 1 = .ok (.invokespecial 3, 3) := by decide +kernel
theorem dX0_init_4 : decode cX0_init 4 = .ok (.aload_n 0, 1) := by decide +kernel
theorem dX0_init_5 : decode cX0_init 5 = .ok (.bipush 12, 2) := by decide +kernel
theorem dX0_init_7 : decode cX0_init 7 = .ok (.newarray .int, 2) := by decide +kernel
theorem dX0_init_9 : decode cX0_init 9 = .ok (.putfield 9, 3) := by decide +kernel
theorem dX0_init_12 : decode cX0_init 12 = .ok (.aload_n 0, 1) := by decide +kernel
theorem dX0_init_13 : decode cX0_init 13 = .ok (.bipush 12, 2) := by decide +kernel
theorem dX0_init_15 : decode cX0_init 15 = .ok (.newarray .int, 2) := by decide +kernel
theorem dX0_init_17 : decode cX0_init 17 = .ok (.putfield 15, 3) := by decide +kernel
theorem dX0_init_20 : decode cX0_init 20 = .ok (.aload_n 0, 1) := by decide +kernel
theorem dX0_init_21 : decode cX0_init 21 = .ok (.iconst 0, 1) := by decide +kernel
theorem dX0_init_22 : decode cX0_init 22 = .ok (.putfield 18, 3) := by decide +kernel
theorem dX0_init_25 : decode cX0_init 25 = .ok (.iconst 0, 1) := by decide +kernel
theorem dX0_init_26 : decode cX0_init 26 = .ok (.istore_n 1, 1) := by decide +kernel
theorem dX0_init_27 : decode cX0_init 27 = .ok (.iload_n 1, 1) := by decide +kernel
theorem dX0_init_28 : decode cX0_init 28 = .ok (.aload_n 0, 1) := by decide +kernel
theorem dX0_init_29 : decode cX0_init 29 = .ok (.getfield 15, 3) := by decide +kernel
theorem dX0_init_32 : decode cX0_init 32 = .ok (.arraylength, 1) := by decide +kernel
theorem dX0_init_33 : decode cX0_init 33 = .ok (.if_icmp .ge 17, 3) := by decide +kernel
theorem dX0_init_36 : decode cX0_init 36 = .ok (.aload_n 0, 1) := by decide +kernel
theorem dX0_init_37 : decode cX0_init 37 = .ok (.getfield 15, 3) := by decide +kernel
theorem dX0_init_40 : decode cX0_init 40 = .ok (.iload_n 1, 1) := by decide +kernel
theorem dX0_init_41 : decode cX0_init 41 = .ok (.bipush (-9), 2) := by decide +kernel
theorem dX0_init_43 : decode cX0_init 43 = .ok (.iastore, 1) := by decide +kernel
theorem dX0_init_44 : decode cX0_init 44 = .ok (.iinc 1 1, 3) := by decide +kernel
theorem dX0_init_47 : decode cX0_init 47 = .ok (.goto (-20), 3) := by decide +kernel
theorem dX0_init_50 : decode cX0_init 50 = .ok (.return_, 1) := by decide +kernel
theorem dX0_has_0 : decode cX0_has 0 = .ok (.iload_n 1, 1) := by decide +kernel
theorem dX0_has_1 : decode cX0_has 1 = .ok (.ifCond .lt 25, 3) := by decide +kernel
theorem dX0_has_4 : decode cX0_has 4 = .ok (.iload_n 1, 1) := by decide +kernel
theorem dX0_has_5 : decode cX0_has 5 = .ok (.aload_n 0, 1) := by decide +kernel
theorem dX0_has_6 : decode cX0_has 6 = .ok (.getfield 9, 3) := by decide +kernel
theorem dX0_has_9 : decode cX0_has 9 = .ok (.arraylength, 1) := by decide +kernel
theorem dX0_has_10 : decode cX0_has 10 = .ok (.if_icmp .ge 16, 3) := by decide +kernel
theorem dX0_has_13 : decode cX0_has 13 = .ok (.aload_n 0, 1) := by decide +kernel
theorem dX0_has_14 : decode cX0_has 14 = .ok (.getfield 9, 3) := by decide +kernel
theorem dX0_has_17 : decode cX0_has 17 = .ok (.iload_n 1, 1) := by decide +kernel
theorem dX0_has_18 : decode cX0_has 18 = .ok (.iaload, 1) := by decide +kernel
theorem dX0_has_19 : decode cX0_has 19 = .ok (.ifCond .eq 7, 3) := by decide +kernel
theorem dX0_has_22 : decode cX0_has 22 = .ok (.iconst 1, 1) := by decide +kernel
theorem dX0_has_23 : decode cX0_has 23 = .ok (.goto 4, 3) := by decide +kernel
theorem dX0_has_26 : decode cX0_has 26 = .ok (.iconst 0, 1) := by decide +kernel
theorem dX0_has_27 : decode cX0_has 27 = .ok (.ireturn, 1) := by decide +kernel
theorem dX0_add_0 : decode cX0_add 0 = .ok (.iconst 0, 1) := by decide +kernel
theorem dX0_add_1 : decode cX0_add 1 = .ok (.istore_n 3, 1) := by decide +kernel
theorem dX0_add_2 : decode cX0_add 2 = .ok (.iload_n 3, 1) := by decide +kernel
theorem dX0_add_3 : decode cX0_add 3 = .ok (.aload_n 0, 1) := by decide +kernel
theorem dX0_add_4 : decode cX0_add 4 = .ok (.getfield 9, 3) := by decide +kernel
theorem dX0_add_7 : decode cX0_add 7 = .ok (.arraylength, 1) := by decide +kernel
theorem dX0_add_8 : decode cX0_add 8 = .ok (.if_icmp .ge 59, 3) := by decide +kernel
theorem dX0_add_11 : decode cX0_add 11 = .ok (.iload_n 3, 1) := by decide +kernel
theorem dX0_add_12 : decode cX0_add 12 = .ok (.aload_n 0, 1) := by decide +kernel
theorem dX0_add_13 : decode cX0_add 13 = .ok (.getfield 15, 3) := by decide +kernel
theorem dX0_add_16 : decode cX0_add 16 = .ok (.arraylength, 1) := by decide +kernel
theorem dX0_add_17 : decode cX0_add 17 = .ok (.if_icmp .ge 50, 3) := by decide +kernel
theorem dX0_add_20 : decode cX0_add 20 = .ok (.iload_n 1, 1) := by decide +kernel
theorem dX0_add_21 : decode cX0_add 21 = .ok (.iload_n 3, 1) := by decide +kernel
theorem dX0_add_22 : decode cX0_add 22 = .ok (.invokestatic 22, 3) := by decide +kernel
theorem dX0_add_25 : decode cX0_add 25 = .ok (.ifCond .eq 36, 3) := by decide +kernel
theorem dX0_add_28 : decode cX0_add 28 = .ok (.aload_n 0, 1) := by decide +kernel
theorem dX0_add_29 : decode cX0_add 29 = .ok (.getfield 9, 3) := by decide +kernel
theorem dX0_add_32 : decode cX0_add 32 = .ok (.iload_n 3, 1) := by decide +kernel
theorem dX0_add_33 : decode cX0_add 33 = .ok (.iaload, 1) := by decide +kernel
theorem dX0_add_34 : decode cX0_add 34 = .ok (.ifCond .ne 27, 3) := by decide +kernel
theorem dX0_add_37 : decode cX0_add 37 = .ok (.aload_n 0, 1) := by decide +kernel
theorem dX0_add_38 : decode cX0_add 38 = .ok (.getfield 9, 3) := by decide +kernel
theorem dX0_add_41 : decode cX0_add 41 = .ok (.iload_n 3, 1) := by decide +kernel
theorem dX0_add_42 : decode cX0_add 42 = .ok (.iload_n 1, 1) := by decide +kernel
theorem dX0_add_43 : decode cX0_add 43 = .ok (.iastore, 1) := by decide +kernel
theorem dX0_add_44 : decode cX0_add 44 = .ok (.aload_n 0, 1) := by decide +kernel
theorem dX0_add_45 : decode cX0_add 45 = .ok (.getfield 15, 3) := by decide +kernel
theorem dX0_add_48 : decode cX0_add 48 = .ok (.iload_n 3, 1) := by decide +kernel
theorem dX0_add_49 : decode cX0_add 49 = .ok (.iload_n 2, 1) := by decide +kernel
theorem dX0_add_50 : decode cX0_add 50 = .ok (.iastore, 1) := by decide +kernel
theorem dX0_add_51 : decode cX0_add 51 = .ok (.aload_n 0, 1) := by decide +kernel
theorem dX0_add_52 : decode cX0_add 52 = .ok (.dup, 1) := by decide +kernel
theorem dX0_add_53 : decode cX0_add 53 = .ok (.getfield 18, 3) := by decide +kernel
theorem dX0_add_56 : decode cX0_add 56 = .ok (.iconst 1, 1) := by decide +kernel
theorem dX0_add_57 : decode cX0_add 57 = .ok (.iadd, 1) := by decide +kernel
theorem dX0_add_58 : decode cX0_add 58 = .ok (.putfield 18, 3) := by decide +kernel
theorem dX0_add_61 : decode cX0_add 61 = .ok (.iinc 3 1, 3) := by decide +kernel
theorem dX0_add_64 : decode cX0_add 64 = .ok (.goto (-62), 3) := by decide +kernel
theorem dX0_add_67 : decode cX0_add 67 = .ok (.return_, 1) := by decide +kernel
theorem dX0_valueAt_0 : decode cX0_valueAt 0 = .ok (.aload_n 0, 1) := by decide +kernel
theorem dX0_valueAt_1 : decode cX0_valueAt 1 = .ok (.iload_n 1, 1) := by decide +kernel
theorem dX0_valueAt_2 : decode cX0_valueAt 2 = .ok (.invokevirtual 26, 3) := by decide +kernel
theorem dX0_valueAt_5 : decode cX0_valueAt 5 = .ok (.ifCond .eq 15, 3) := by decide +kernel
theorem dX0_valueAt_8 : decode cX0_valueAt 8 = .ok (.aload_n 0, 1) := by decide +kernel
theorem dX0_valueAt_9 : decode cX0_valueAt 9 = .ok (.getfield 9, 3) := by decide +kernel
theorem dX0_valueAt_12 : decode cX0_valueAt 12 = .ok (.iload_n 1, 1) := by decide +kernel
theorem dX0_valueAt_13 : decode cX0_valueAt 13 = .ok (.iaload, 1) := by decide +kernel
theorem dX0_valueAt_14 : decode cX0_valueAt 14 = .ok (.invokestatic 30, 3) := by decide +kernel
theorem dX0_valueAt_17 : decode cX0_valueAt 17 = .ok (.goto 5, 3) := by decide +kernel
theorem dX0_valueAt_20 : decode cX0_valueAt 20 = .ok (.bipush (-9), 2) := by decide +kernel
theorem dX0_valueAt_22 : decode cX0_valueAt 22 = .ok (.ireturn, 1) := by decide +kernel
theorem dX0_takenOutOf_0 : decode cX0_takenOutOf 0 = .ok (.iload_n 1, 1) := by decide +kernel
theorem dX0_takenOutOf_1 : decode cX0_takenOutOf 1 = .ok (.istore_n 2, 1) := by decide +kernel
theorem dX0_takenOutOf_2 : decode cX0_takenOutOf 2 = .ok (.iconst 0, 1) := by decide +kernel
theorem dX0_takenOutOf_3 : decode cX0_takenOutOf 3 = .ok (.istore_n 3, 1) := by decide +kernel
theorem dX0_takenOutOf_4 : decode cX0_takenOutOf 4 = .ok (.iload_n 3, 1) := by decide +kernel
theorem dX0_takenOutOf_5 : decode cX0_takenOutOf 5 = .ok (.aload_n 0, 1) := by decide +kernel
theorem dX0_takenOutOf_6 : decode cX0_takenOutOf 6 = .ok (.getfield 9, 3) := by decide +kernel
theorem dX0_takenOutOf_9 : decode cX0_takenOutOf 9 = .ok (.arraylength, 1) := by decide +kernel
theorem dX0_takenOutOf_10 : decode cX0_takenOutOf 10 = .ok (.if_icmp .ge 26, 3) := by decide +kernel
theorem dX0_takenOutOf_13 : decode cX0_takenOutOf 13 = .ok (.iload_n 1, 1) := by decide +kernel
theorem dX0_takenOutOf_14 : decode cX0_takenOutOf 14 = .ok (.iload_n 3, 1) := by decide +kernel
theorem dX0_takenOutOf_15 : decode cX0_takenOutOf 15 = .ok (.invokestatic 22, 3) := by decide +kernel
theorem dX0_takenOutOf_18 : decode cX0_takenOutOf 18 = .ok (.ifCond .eq 12, 3) := by decide +kernel
theorem dX0_takenOutOf_21 : decode cX0_takenOutOf 21 = .ok (.iload_n 2, 1) := by decide +kernel
theorem dX0_takenOutOf_22 : decode cX0_takenOutOf 22 = .ok (.aload_n 0, 1) := by decide +kernel
theorem dX0_takenOutOf_23 : decode cX0_takenOutOf 23 = .ok (.getfield 9, 3) := by decide +kernel
theorem dX0_takenOutOf_26 : decode cX0_takenOutOf 26 = .ok (.iload_n 3, 1) := by decide +kernel
theorem dX0_takenOutOf_27 : decode cX0_takenOutOf 27 = .ok (.iaload, 1) := by decide +kernel
theorem dX0_takenOutOf_28 : decode cX0_takenOutOf 28 = .ok (.ixor, 1) := by decide +kernel
theorem dX0_takenOutOf_29 : decode cX0_takenOutOf 29 = .ok (.istore_n 2, 1) := by decide +kernel
theorem dX0_takenOutOf_30 : decode cX0_takenOutOf 30 = .ok (.iinc 3 1, 3) := by decide +kernel
theorem dX0_takenOutOf_33 : decode cX0_takenOutOf 33 = .ok (.goto (-29), 3) := by decide +kernel
theorem dX0_takenOutOf_36 : decode cX0_takenOutOf 36 = .ok (.iload_n 2, 1) := by decide +kernel
theorem dX0_takenOutOf_37 : decode cX0_takenOutOf 37 = .ok (.ireturn, 1) := by decide +kernel
theorem dX0_clear_0 : decode cX0_clear 0 = .ok (.iconst 0, 1) := by decide +kernel
theorem dX0_clear_1 : decode cX0_clear 1 = .ok (.istore_n 1, 1) := by decide +kernel
theorem dX0_clear_2 : decode cX0_clear 2 = .ok (.iload_n 1, 1) := by decide +kernel
theorem dX0_clear_3 : decode cX0_clear 3 = .ok (.aload_n 0, 1) := by decide +kernel
theorem dX0_clear_4 : decode cX0_clear 4 = .ok (.getfield 9, 3) := by decide +kernel
theorem dX0_clear_7 : decode cX0_clear 7 = .ok (.arraylength, 1) := by decide +kernel
theorem dX0_clear_8 : decode cX0_clear 8 = .ok (.if_icmp .ge 33, 3) := by decide +kernel
theorem dX0_clear_11 : decode cX0_clear 11 = .ok (.iload_n 1, 1) := by decide +kernel
theorem dX0_clear_12 : decode cX0_clear 12 = .ok (.aload_n 0, 1) := by decide +kernel
theorem dX0_clear_13 : decode cX0_clear 13 = .ok (.getfield 15, 3) := by decide +kernel
theorem dX0_clear_16 : decode cX0_clear 16 = .ok (.arraylength, 1) := by decide +kernel
theorem dX0_clear_17 : decode cX0_clear 17 = .ok (.if_icmp .ge 24, 3) := by decide +kernel
theorem dX0_clear_20 : decode cX0_clear 20 = .ok (.aload_n 0, 1) := by decide +kernel
theorem dX0_clear_21 : decode cX0_clear 21 = .ok (.getfield 9, 3) := by decide +kernel
theorem dX0_clear_24 : decode cX0_clear 24 = .ok (.iload_n 1, 1) := by decide +kernel
theorem dX0_clear_25 : decode cX0_clear 25 = .ok (.iconst 0, 1) := by decide +kernel
theorem dX0_clear_26 : decode cX0_clear 26 = .ok (.iastore, 1) := by decide +kernel
theorem dX0_clear_27 : decode cX0_clear 27 = .ok (.aload_n 0, 1) := by decide +kernel
theorem dX0_clear_28 : decode cX0_clear 28 = .ok (.getfield 15, 3) := by decide +kernel
theorem dX0_clear_31 : decode cX0_clear 31 = .ok (.iload_n 1, 1) := by decide +kernel
theorem dX0_clear_32 : decode cX0_clear 32 = .ok (.bipush (-9), 2) := by decide +kernel
theorem dX0_clear_34 : decode cX0_clear 34 = .ok (.iastore, 1) := by decide +kernel
theorem dX0_clear_35 : decode cX0_clear 35 = .ok (.iinc 1 1, 3) := by decide +kernel
theorem dX0_clear_38 : decode cX0_clear 38 = .ok (.goto (-36), 3) := by decide +kernel
theorem dX0_clear_41 : decode cX0_clear 41 = .ok (.aload_n 0, 1) := by decide +kernel
theorem dX0_clear_42 : decode cX0_clear 42 = .ok (.iconst 0, 1) := by decide +kernel
theorem dX0_clear_43 : decode cX0_clear 43 = .ok (.putfield 18, 3) := by decide +kernel
theorem dX0_clear_46 : decode cX0_clear 46 = .ok (.return_, 1) := by decide +kernel
theorem dX0_copyFrom_0 : decode cX0_copyFrom 0 = .ok (.aload_n 1, 1) := by decide +kernel
theorem dX0_copyFrom_1 : decode cX0_copyFrom 1 = .ok (.getfield 9, 3) := by decide +kernel
theorem dX0_copyFrom_4 : decode cX0_copyFrom 4 = .ok (.aload_n 0, 1) := by decide +kernel
theorem dX0_copyFrom_5 : decode cX0_copyFrom 5 = .ok (.getfield 9, 3) := by decide +kernel
theorem dX0_copyFrom_8 : decode cX0_copyFrom 8 = .ok (.invokestatic 34, 3) := by decide +kernel
theorem dX0_copyFrom_11 : decode cX0_copyFrom 11 = .ok (.aload_n 1, 1) := by decide +kernel
theorem dX0_copyFrom_12 : decode cX0_copyFrom 12 = .ok (.getfield 15, 3) := by decide +kernel
theorem dX0_copyFrom_15 : decode cX0_copyFrom 15 = .ok (.aload_n 0, 1) := by decide +kernel
theorem dX0_copyFrom_16 : decode cX0_copyFrom 16 = .ok (.getfield 15, 3) := by decide +kernel
theorem dX0_copyFrom_19 : decode cX0_copyFrom 19 = .ok (.invokestatic 34, 3) := by decide +kernel
theorem dX0_copyFrom_22 : decode cX0_copyFrom 22 = .ok (.aload_n 0, 1) := by decide +kernel
theorem dX0_copyFrom_23 : decode cX0_copyFrom 23 = .ok (.aload_n 1, 1) := by decide +kernel
theorem dX0_copyFrom_24 : decode cX0_copyFrom 24 = .ok (.getfield 18, 3) := by decide +kernel
theorem dX0_copyFrom_27 : decode cX0_copyFrom 27 = .ok (.putfield 18, 3) := by decide +kernel
theorem dX0_copyFrom_30 : decode cX0_copyFrom 30 = .ok (.return_, 1) := by decide +kernel
theorem dX1_init_0 : decode cX1_init 0 = .ok (.aload_n 0, 1) := by decide +kernel
theorem dX1_init_1 : decode cX1_init 1 = .ok (.invokespecial 3, 3) := by decide +kernel
theorem dX1_init_4 : decode cX1_init 4 = .ok (.aload_n 0, 1) := by decide +kernel
theorem dX1_init_5 : decode cX1_init 5 = .ok (.iconst 0, 1) := by decide +kernel
theorem dX1_init_6 : decode cX1_init 6 = .ok (.putfield 9, 3) := by decide +kernel
theorem dX1_init_9 : decode cX1_init 9 = .ok (.aload_n 0, 1) := by decide +kernel
theorem dX1_init_10 : decode cX1_init 10 = .ok (.iload_n 1, 1) := by decide +kernel
theorem dX1_init_11 : decode cX1_init 11 = .ok (.iconst 0, 1) := by decide +kernel
theorem dX1_init_12 : decode cX1_init 12 = .ok (.invokestatic 15, 3) := by decide +kernel
theorem dX1_init_15 : decode cX1_init 15 = .ok (.newarray .int, 2) := by decide +kernel
theorem dX1_init_17 : decode cX1_init 17 = .ok (.putfield 21, 3) := by decide +kernel
theorem dX1_init_20 : decode cX1_init 20 = .ok (.return_, 1) := by decide +kernel
theorem dX1_at_0 : decode cX1_at 0 = .ok (.iload_n 1, 1) := by decide +kernel
theorem dX1_at_1 : decode cX1_at 1 = .ok (.ifCond .lt 29, 3) := by decide +kernel
theorem dX1_at_4 : decode cX1_at 4 = .ok (.iload_n 1, 1) := by decide +kernel
theorem dX1_at_5 : decode cX1_at 5 = .ok (.aload_n 0, 1) := by decide +kernel
theorem dX1_at_6 : decode cX1_at 6 = .ok (.getfield 9, 3) := by decide +kernel
theorem dX1_at_9 : decode cX1_at 9 = .ok (.if_icmp .ge 21, 3) := by decide +kernel
theorem dX1_at_12 : decode cX1_at 12 = .ok (.iload_n 1, 1) := by decide +kernel
theorem dX1_at_13 : decode cX1_at 13 = .ok (.aload_n 0, 1) := by decide +kernel
theorem dX1_at_14 : decode cX1_at 14 = .ok (.getfield 21, 3) := by decide +kernel
theorem dX1_at_17 : decode cX1_at 17 = .ok (.arraylength, 1) := by decide +kernel
theorem dX1_at_18 : decode cX1_at 18 = .ok (.if_icmp .ge 12, 3) := by decide +kernel
theorem dX1_at_21 : decode cX1_at 21 = .ok (.aload_n 0, 1) := by decide +kernel
theorem dX1_at_22 : decode cX1_at 22 = .ok (.getfield 21, 3) := by decide +kernel
theorem dX1_at_25 : decode cX1_at 25 = .ok (.iload_n 1, 1) := by decide +kernel
theorem dX1_at_26 : decode cX1_at 26 = .ok (.iaload, 1) := by decide +kernel
theorem dX1_at_27 : decode cX1_at 27 = .ok (.goto 4, 3) := by decide +kernel
theorem dX1_at_30 : decode cX1_at 30 = .ok (.iconst 0, 1) := by decide +kernel
theorem dX1_at_31 : decode cX1_at 31 = .ok (.ireturn, 1) := by decide +kernel
theorem dX1_append_0 : decode cX1_append 0 = .ok (.aload_n 0, 1) := by decide +kernel
theorem dX1_append_1 : decode cX1_append 1 = .ok (.getfield 9, 3) := by decide +kernel
theorem dX1_append_4 : decode cX1_append 4 = .ok (.ifCond .lt 35, 3) := by decide +kernel
theorem dX1_append_7 : decode cX1_append 7 = .ok (.aload_n 0, 1) := by decide +kernel
theorem dX1_append_8 : decode cX1_append 8 = .ok (.getfield 9, 3) := by decide +kernel
theorem dX1_append_11 : decode cX1_append 11 = .ok (.aload_n 0, 1) := by decide +kernel
theorem dX1_append_12 : decode cX1_append 12 = .ok (.getfield 21, 3) := by decide +kernel
theorem dX1_append_15 : decode cX1_append 15 = .ok (.arraylength, 1) := by decide +kernel
theorem dX1_append_16 : decode cX1_append 16 = .ok (.if_icmp .ge 23, 3) := by decide +kernel
theorem dX1_append_19 : decode cX1_append 19 = .ok (.aload_n 0, 1) := by decide +kernel
theorem dX1_append_20 : decode cX1_append 20 = .ok (.getfield 21, 3) := by decide +kernel
theorem dX1_append_23 : decode cX1_append 23 = .ok (.aload_n 0, 1) := by decide +kernel
theorem dX1_append_24 : decode cX1_append 24 = .ok (.getfield 9, 3) := by decide +kernel
theorem dX1_append_27 : decode cX1_append 27 = .ok (.iload_n 1, 1) := by decide +kernel
theorem dX1_append_28 : decode cX1_append 28 = .ok (.iastore, 1) := by decide +kernel
theorem dX1_append_29 : decode cX1_append 29 = .ok (.aload_n 0, 1) := by decide +kernel
theorem dX1_append_30 : decode cX1_append 30 = .ok (.dup, 1) := by decide +kernel
theorem dX1_append_31 : decode cX1_append 31 = .ok (.getfield 9, 3) := by decide +kernel
theorem dX1_append_34 : decode cX1_append 34 = .ok (.iconst 1, 1) := by decide +kernel
theorem dX1_append_35 : decode cX1_append 35 = .ok (.iadd, 1) := by decide +kernel
theorem dX1_append_36 : decode cX1_append 36 = .ok (.putfield 9, 3) := by decide +kernel
theorem dX1_append_39 : decode cX1_append 39 = .ok (.return_, 1) := by decide +kernel
theorem dX1_removeAt_0 : decode cX1_removeAt 0 = .ok (.iload_n 1, 1) := by decide +kernel
theorem dX1_removeAt_1 : decode cX1_removeAt 1 = .ok (.ifCond .lt 20, 3) := by decide +kernel
theorem dX1_removeAt_4 : decode cX1_removeAt 4 = .ok (.iload_n 1, 1) := by decide +kernel
theorem dX1_removeAt_5 : decode cX1_removeAt 5 = .ok (.aload_n 0, 1) := by decide +kernel
theorem dX1_removeAt_6 : decode cX1_removeAt 6 = .ok (.getfield 9, 3) := by decide +kernel
theorem dX1_removeAt_9 : decode cX1_removeAt 9 = .ok (.if_icmp .ge 12, 3) := by decide +kernel
theorem dX1_removeAt_12 : decode cX1_removeAt 12 = .ok (.iload_n 1, 1) := by decide +kernel
theorem dX1_removeAt_13 : decode cX1_removeAt 13 = .ok (.aload_n 0, 1) := by decide +kernel
theorem dX1_removeAt_14 : decode cX1_removeAt 14 = .ok (.getfield 21, 3) := by decide +kernel
theorem dX1_removeAt_17 : decode cX1_removeAt 17 = .ok (.arraylength, 1) := by decide +kernel
theorem dX1_removeAt_18 : decode cX1_removeAt 18 = .ok (.if_icmp .lt 5, 3) := by decide +kernel
theorem dX1_removeAt_21 : decode cX1_removeAt 21 = .ok (.iconst 0, 1) := by decide +kernel
theorem dX1_removeAt_22 : decode cX1_removeAt 22 = .ok (.ireturn, 1) := by decide +kernel
theorem dX1_removeAt_23 : decode cX1_removeAt 23 = .ok (.aload_n 0, 1) := by decide +kernel
theorem dX1_removeAt_24 : decode cX1_removeAt 24 = .ok (.getfield 21, 3) := by decide +kernel
theorem dX1_removeAt_27 : decode cX1_removeAt 27 = .ok (.iload_n 1, 1) := by decide +kernel
theorem dX1_removeAt_28 : decode cX1_removeAt 28 = .ok (.iaload, 1) := by decide +kernel
theorem dX1_removeAt_29 : decode cX1_removeAt 29 = .ok (.istore_n 2, 1) := by decide +kernel
theorem dX1_removeAt_30 : decode cX1_removeAt 30 = .ok (.iload_n 1, 1) := by decide +kernel
theorem dX1_removeAt_31 : decode cX1_removeAt 31 = .ok (.iconst 1, 1) := by decide +kernel
theorem dX1_removeAt_32 : decode cX1_removeAt 32 = .ok (.iadd, 1) := by decide +kernel
theorem dX1_removeAt_33 : decode cX1_removeAt 33 = .ok (.istore_n 3, 1) := by decide +kernel
theorem dX1_removeAt_34 : decode cX1_removeAt 34 = .ok (.iload_n 3, 1) := by decide +kernel
theorem dX1_removeAt_35 : decode cX1_removeAt 35 = .ok (.aload_n 0, 1) := by decide +kernel
theorem dX1_removeAt_36 : decode cX1_removeAt 36 = .ok (.getfield 9, 3) := by decide +kernel
theorem dX1_removeAt_39 : decode cX1_removeAt 39 = .ok (.if_icmp .ge 32, 3) := by decide +kernel
theorem dX1_removeAt_42 : decode cX1_removeAt 42 = .ok (.iload_n 3, 1) := by decide +kernel
theorem dX1_removeAt_43 : decode cX1_removeAt 43 = .ok (.aload_n 0, 1) := by decide +kernel
theorem dX1_removeAt_44 : decode cX1_removeAt 44 = .ok (.getfield 21, 3) := by decide +kernel
theorem dX1_removeAt_47 : decode cX1_removeAt 47 = .ok (.arraylength, 1) := by decide +kernel
theorem dX1_removeAt_48 : decode cX1_removeAt 48 = .ok (.if_icmp .ge 23, 3) := by decide +kernel
theorem dX1_removeAt_51 : decode cX1_removeAt 51 = .ok (.aload_n 0, 1) := by decide +kernel
theorem dX1_removeAt_52 : decode cX1_removeAt 52 = .ok (.getfield 21, 3) := by decide +kernel
theorem dX1_removeAt_55 : decode cX1_removeAt 55 = .ok (.iload_n 3, 1) := by decide +kernel
theorem dX1_removeAt_56 : decode cX1_removeAt 56 = .ok (.iconst 1, 1) := by decide +kernel
theorem dX1_removeAt_57 : decode cX1_removeAt 57 = .ok (.isub, 1) := by decide +kernel
theorem dX1_removeAt_58 : decode cX1_removeAt 58 = .ok (.aload_n 0, 1) := by decide +kernel
theorem dX1_removeAt_59 : decode cX1_removeAt 59 = .ok (.getfield 21, 3) := by decide +kernel
theorem dX1_removeAt_62 : decode cX1_removeAt 62 = .ok (.iload_n 3, 1) := by decide +kernel
theorem dX1_removeAt_63 : decode cX1_removeAt 63 = .ok (.iaload, 1) := by decide +kernel
theorem dX1_removeAt_64 : decode cX1_removeAt 64 = .ok (.iastore, 1) := by decide +kernel
theorem dX1_removeAt_65 : decode cX1_removeAt 65 = .ok (.iinc 3 1, 3) := by decide +kernel
theorem dX1_removeAt_68 : decode cX1_removeAt 68 = .ok (.goto (-34), 3) := by decide +kernel
theorem dX1_removeAt_71 : decode cX1_removeAt 71 = .ok (.aload_n 0, 1) := by decide +kernel
theorem dX1_removeAt_72 : decode cX1_removeAt 72 = .ok (.dup, 1) := by decide +kernel
theorem dX1_removeAt_73 : decode cX1_removeAt 73 = .ok (.getfield 9, 3) := by decide +kernel
theorem dX1_removeAt_76 : decode cX1_removeAt 76 = .ok (.iconst 1, 1) := by decide +kernel
theorem dX1_removeAt_77 : decode cX1_removeAt 77 = .ok (.isub, 1) := by decide +kernel
theorem dX1_removeAt_78 : decode cX1_removeAt 78 = .ok (.putfield 9, 3) := by decide +kernel
theorem dX1_removeAt_81 : decode cX1_removeAt 81 = .ok (.iload_n 2, 1) := by decide +kernel
theorem dX1_removeAt_82 : decode cX1_removeAt 82 = .ok (.ireturn, 1) := by decide +kernel
theorem dX1_removeFrontsBeyond_0 : decode cX1_removeFrontsBeyond 0 = .ok (.aload_n 0, 1) := by decide +kernel
theorem dX1_removeFrontsBeyond_1 : decode cX1_removeFrontsBeyond 1 = .ok (.getfield 9, 3) := by decide +kernel
theorem dX1_removeFrontsBeyond_4 : decode cX1_removeFrontsBeyond 4 = .ok (.iload_n 1, 1) := by decide +kernel
theorem dX1_removeFrontsBeyond_5 : decode cX1_removeFrontsBeyond 5 = .ok (.isub, 1) := by decide +kernel
theorem dX1_removeFrontsBeyond_6 : decode cX1_removeFrontsBeyond 6 = .ok (.istore_n 2, 1) := by decide +kernel
theorem dX1_removeFrontsBeyond_7 : decode cX1_removeFrontsBeyond 7 = .ok (.iload_n 2, 1) := by decide +kernel
theorem dX1_removeFrontsBeyond_8 : decode cX1_removeFrontsBeyond 8 = .ok (.ifCond .le 15, 3) := by decide +kernel
theorem dX1_removeFrontsBeyond_11 : decode cX1_removeFrontsBeyond 11 = .ok (.aload_n 0, 1) := by decide +kernel
theorem dX1_removeFrontsBeyond_12 : decode cX1_removeFrontsBeyond 12 = .ok (.iconst 0, 1) := by decide +kernel
theorem dX1_removeFrontsBeyond_13 : decode cX1_removeFrontsBeyond 13 = .ok (.invokevirtual 25, 3) := by decide +kernel
theorem dX1_removeFrontsBeyond_16 : decode cX1_removeFrontsBeyond 16 = .ok (.pop, 1) := by decide +kernel
theorem dX1_removeFrontsBeyond_17 : decode cX1_removeFrontsBeyond 17 = .ok (.iinc 2 (-1), 3) := by decide +kernel
theorem dX1_removeFrontsBeyond_20 : decode cX1_removeFrontsBeyond 20 = .ok (.goto (-13), 3) := by decide +kernel
theorem dX1_removeFrontsBeyond_23 : decode cX1_removeFrontsBeyond 23 = .ok (.return_, 1) := by decide +kernel
theorem dX1_takeOut_0 : decode cX1_takeOut 0 = .ok (.iconst 0, 1) := by decide +kernel
theorem dX1_takeOut_1 : decode cX1_takeOut 1 = .ok (.istore_n 2, 1) := by decide +kernel
theorem dX1_takeOut_2 : decode cX1_takeOut 2 = .ok (.iconst 0, 1) := by decide +kernel
theorem dX1_takeOut_3 : decode cX1_takeOut 3 = .ok (.istore_n 3, 1) := by decide +kernel
theorem dX1_takeOut_4 : decode cX1_takeOut 4 = .ok (.iload_n 3, 1) := by decide +kernel
theorem dX1_takeOut_5 : decode cX1_takeOut 5 = .ok (.aload_n 0, 1) := by decide +kernel
theorem dX1_takeOut_6 : decode cX1_takeOut 6 = .ok (.getfield 9, 3) := by decide +kernel
theorem dX1_takeOut_9 : decode cX1_takeOut 9 = .ok (.if_icmp .ge 64, 3) := by decide +kernel
theorem dX1_takeOut_12 : decode cX1_takeOut 12 = .ok (.iload_n 3, 1) := by decide +kernel
theorem dX1_takeOut_13 : decode cX1_takeOut 13 = .ok (.aload_n 0, 1) := by decide +kernel
theorem dX1_takeOut_14 : decode cX1_takeOut 14 = .ok (.getfield 21, 3) := by decide +kernel
theorem dX1_takeOut_17 : decode cX1_takeOut 17 = .ok (.arraylength, 1) := by decide +kernel
theorem dX1_takeOut_18 : decode cX1_takeOut 18 = .ok (.if_icmp .ge 55, 3) := by decide +kernel
theorem dX1_takeOut_21 : decode cX1_takeOut 21 = .ok (.aload_n 0, 1) := by decide +kernel
theorem dX1_takeOut_22 : decode cX1_takeOut 22 = .ok (.getfield 21, 3) := by decide +kernel
theorem dX1_takeOut_25 : decode cX1_takeOut 25 = .ok (.iload_n 3, 1) := by decide +kernel
theorem dX1_takeOut_26 : decode cX1_takeOut 26 = .ok (.iaload, 1) := by decide +kernel
theorem dX1_takeOut_27 : decode cX1_takeOut 27 = .ok (.istore 4, 2) := by decide +kernel
theorem dX1_takeOut_29 : decode cX1_takeOut 29 = .ok (.iload 4, 2) := by decide +kernel
theorem dX1_takeOut_31 : decode cX1_takeOut 31 = .ok (.invokestatic 29, 3) := by decide +kernel
theorem dX1_takeOut_34 : decode cX1_takeOut 34 = .ok (.iload_n 1, 1) := by decide +kernel
theorem dX1_takeOut_35 : decode cX1_takeOut 35 = .ok (.invokestatic 29, 3) := by decide +kernel
theorem dX1_takeOut_38 : decode cX1_takeOut 38 = .ok (.iand, 1) := by decide +kernel
theorem dX1_takeOut_39 : decode cX1_takeOut 39 = .ok (.ifCond .eq 9, 3) := by decide +kernel
theorem dX1_takeOut_42 : decode cX1_takeOut 42 = .ok (.iload 4, 2) := by decide +kernel
theorem dX1_takeOut_44 : decode cX1_takeOut 44 = .ok (.iload_n 1, 1) := by decide +kernel
theorem dX1_takeOut_45 : decode cX1_takeOut 45 = .ok (.ixor, 1) := by decide +kernel
theorem dX1_takeOut_46 : decode cX1_takeOut 46 = .ok (.istore 4, 2) := by decide +kernel
theorem dX1_takeOut_48 : decode cX1_takeOut 48 = .ok (.iload 4, 2) := by decide +kernel
theorem dX1_takeOut_50 : decode cX1_takeOut 50 = .ok (.invokestatic 29, 3) := by decide +kernel
theorem dX1_takeOut_53 : decode cX1_takeOut 53 = .ok (.ifCond .eq 14, 3) := by decide +kernel
theorem dX1_takeOut_56 : decode cX1_takeOut 56 = .ok (.aload_n 0, 1) := by decide +kernel
theorem dX1_takeOut_57 : decode cX1_takeOut 57 = .ok (.getfield 21, 3) := by decide +kernel
theorem dX1_takeOut_60 : decode cX1_takeOut 60 = .ok (.iload_n 2, 1) := by decide +kernel
theorem dX1_takeOut_61 : decode cX1_takeOut 61 = .ok (.iload 4, 2) := by decide +kernel
theorem dX1_takeOut_63 : decode cX1_takeOut 63 = .ok (.iastore, 1) := by decide +kernel
theorem dX1_takeOut_64 : decode cX1_takeOut 64 = .ok (.iinc 2 1, 3) := by decide +kernel
theorem dX1_takeOut_67 : decode cX1_takeOut 67 = .ok (.iinc 3 1, 3) := by decide +kernel
theorem dX1_takeOut_70 : decode cX1_takeOut 70 = .ok (.goto (-66), 3) := by decide +kernel
theorem dX1_takeOut_73 : decode cX1_takeOut 73 = .ok (.aload_n 0, 1) := by decide +kernel
theorem dX1_takeOut_74 : decode cX1_takeOut 74 = .ok (.iload_n 2, 1) := by decide +kernel
theorem dX1_takeOut_75 : decode cX1_takeOut 75 = .ok (.putfield 9, 3) := by decide +kernel
theorem dX1_takeOut_78 : decode cX1_takeOut 78 = .ok (.return_, 1) := by decide +kernel
theorem dX1_removeFirstSingle_0 : decode cX1_removeFirstSingle 0 = .ok (.iconst 0, 1) := by decide +kernel
theorem dX1_removeFirstSingle_1 : decode cX1_removeFirstSingle 1 = .ok (.istore_n 1, 1) := by decide +kernel
theorem dX1_removeFirstSingle_2 : decode cX1_removeFirstSingle 2 = .ok (.iload_n 1, 1) := by decide +kernel
theorem dX1_removeFirstSingle_3 : decode cX1_removeFirstSingle 3 = .ok (.aload_n 0, 1) := by decide +kernel
theorem dX1_removeFirstSingle_4 : decode cX1_removeFirstSingle 4 = .ok (.getfield 9, 3) := by decide +kernel
theorem dX1_removeFirstSingle_7 : decode cX1_removeFirstSingle 7 = .ok (.if_icmp .ge 27, 3) := by decide +kernel
theorem dX1_removeFirstSingle_10 : decode cX1_removeFirstSingle 10 = .ok (.aload_n 0, 1) := by decide +kernel
theorem dX1_removeFirstSingle_11 : decode cX1_removeFirstSingle 11 = .ok (.iload_n 1, 1) := by decide +kernel
theorem dX1_removeFirstSingle_12 : decode cX1_removeFirstSingle 12 = .ok (.invokevirtual 32, 3) := by decide +kernel
theorem dX1_removeFirstSingle_15 : decode cX1_removeFirstSingle 15 = .ok (.invokestatic 35, 3) := by decide +kernel
theorem dX1_removeFirstSingle_18 : decode cX1_removeFirstSingle 18 = .ok (.iconst 1, 1) := by decide +kernel
theorem dX1_removeFirstSingle_19 : decode cX1_removeFirstSingle 19 = .ok (.if_icmp .ne 9, 3) := by decide +kernel
theorem dX1_removeFirstSingle_22 : decode cX1_removeFirstSingle 22 = .ok (.aload_n 0, 1) := by decide +kernel
theorem dX1_removeFirstSingle_23 : decode cX1_removeFirstSingle 23 = .ok (.iload_n 1, 1) := by decide +kernel
theorem dX1_removeFirstSingle_24 : decode cX1_removeFirstSingle 24 = .ok (.invokevirtual 25, 3) := by decide +kernel
theorem dX1_removeFirstSingle_27 : decode cX1_removeFirstSingle 27 = .ok (.ireturn, 1) := by decide +kernel
theorem dX1_removeFirstSingle_28 : decode cX1_removeFirstSingle 28 = .ok (.iinc 1 1, 3) := by decide +kernel
theorem dX1_removeFirstSingle_31 : decode cX1_removeFirstSingle 31 = .ok (.goto (-29), 3) := by decide +kernel
theorem dX1_removeFirstSingle_34 : decode cX1_removeFirstSingle 34 = .ok (.iconst 0, 1) := by decide +kernel
theorem dX1_removeFirstSingle_35 : decode cX1_removeFirstSingle 35 = .ok (.ireturn, 1) := by decide +kernel
theorem dX1_placeOfMostCommon_0 : decode cX1_placeOfMostCommon 0 = .ok (.iconst 0, 1) := by decide +kernel
theorem dX1_placeOfMostCommon_1 : decode cX1_placeOfMostCommon 1 = .ok (.istore_n 2, 1) := by decide +kernel
theorem dX1_placeOfMostCommon_2 : decode cX1_placeOfMostCommon 2 = .ok (.iconst (-1), 1) := by decide +kernel
theorem dX1_placeOfMostCommon_3 : decode cX1_placeOfMostCommon 3 = .ok (.istore_n 3, 1) := by decide +kernel
theorem dX1_placeOfMostCommon_4 : decode cX1_placeOfMostCommon 4 = .ok (.iconst 0, 1) := by decide +kernel
theorem dX1_placeOfMostCommon_5 : decode cX1_placeOfMostCommon 5 = .ok (.istore 4, 2) := by decide +kernel
theorem dX1_placeOfMostCommon_7 : decode cX1_placeOfMostCommon 7 = .ok (.iload 4, 2) := by decide +kernel
theorem dX1_placeOfMostCommon_9 : decode cX1_placeOfMostCommon 9 = .ok (.aload_n 0, 1) := by decide +kernel
theorem dX1_placeOfMostCommon_10 : decode cX1_placeOfMostCommon 10 = .ok (.getfield 9, 3) := by decide +kernel
theorem dX1_placeOfMostCommon_13 : decode cX1_placeOfMostCommon 13 = .ok (.if_icmp .ge 40, 3) := by decide +kernel
theorem dX1_placeOfMostCommon_16 : decode cX1_placeOfMostCommon 16 = .ok (.iload_n 1, 1) := by decide +kernel
theorem dX1_placeOfMostCommon_17 : decode cX1_placeOfMostCommon 17 = .ok (.invokestatic 29, 3) := by decide +kernel
theorem dX1_placeOfMostCommon_20 : decode cX1_placeOfMostCommon 20 = .ok (.aload_n 0, 1) := by decide +kernel
theorem dX1_placeOfMostCommon_21 : decode cX1_placeOfMostCommon 21 = .ok (.iload 4, 2) := by decide +kernel
theorem dX1_placeOfMostCommon_23 : decode cX1_placeOfMostCommon 23 = .ok (.invokevirtual 32, 3) := by decide +kernel
theorem dX1_placeOfMostCommon_26 : decode cX1_placeOfMostCommon 26 = .ok (.invokestatic 29, 3) := by decide +kernel
theorem dX1_placeOfMostCommon_29 : decode cX1_placeOfMostCommon 29 = .ok (.iand, 1) := by decide +kernel
theorem dX1_placeOfMostCommon_30 : decode cX1_placeOfMostCommon 30 = .ok (.invokestatic 38, 3) := by decide +kernel
theorem dX1_placeOfMostCommon_33 : decode cX1_placeOfMostCommon 33 = .ok (.istore 5, 2) := by decide +kernel
theorem dX1_placeOfMostCommon_35 : decode cX1_placeOfMostCommon 35 = .ok (.iload 5, 2) := by decide +kernel
theorem dX1_placeOfMostCommon_37 : decode cX1_placeOfMostCommon 37 = .ok (.iload_n 3, 1) := by decide +kernel
theorem dX1_placeOfMostCommon_38 : decode cX1_placeOfMostCommon 38 = .ok (.if_icmp .le 9, 3) := by decide +kernel
theorem dX1_placeOfMostCommon_41 : decode cX1_placeOfMostCommon 41 = .ok (.iload 4, 2) := by decide +kernel
theorem dX1_placeOfMostCommon_43 : decode cX1_placeOfMostCommon 43 = .ok (.istore_n 2, 1) := by decide +kernel
theorem dX1_placeOfMostCommon_44 : decode cX1_placeOfMostCommon 44 = .ok (.iload 5, 2) := by decide +kernel
theorem dX1_placeOfMostCommon_46 : decode cX1_placeOfMostCommon 46 = .ok (.istore_n 3, 1) := by decide +kernel
theorem dX1_placeOfMostCommon_47 : decode cX1_placeOfMostCommon 47 = .ok (.iinc 4 1, 3) := by decide +kernel
theorem dX1_placeOfMostCommon_50 : decode cX1_placeOfMostCommon 50 = .ok (.goto (-43), 3) := by decide +kernel
theorem dX1_placeOfMostCommon_53 : decode cX1_placeOfMostCommon 53 = .ok (.iload_n 2, 1) := by decide +kernel
theorem dX1_placeOfMostCommon_54 : decode cX1_placeOfMostCommon 54 = .ok (.ireturn, 1) := by decide +kernel
theorem dX1_clear_0 : decode cX1_clear 0 = .ok (.aload_n 0, 1) := by decide +kernel
theorem dX1_clear_1 : decode cX1_clear 1 = .ok (.iconst 0, 1) := by decide +kernel
theorem dX1_clear_2 : decode cX1_clear 2 = .ok (.putfield 9, 3) := by decide +kernel
theorem dX1_clear_5 : decode cX1_clear 5 = .ok (.return_, 1) := by decide +kernel
theorem dX1_copyFrom_0 : decode cX1_copyFrom 0 = .ok (.aload_n 1, 1) := by decide +kernel
theorem dX1_copyFrom_1 : decode cX1_copyFrom 1 = .ok (.getfield 21, 3) := by decide +kernel
theorem dX1_copyFrom_4 : decode cX1_copyFrom 4 = .ok (.aload_n 0, 1) := by decide +kernel
theorem dX1_copyFrom_5 : decode cX1_copyFrom 5 = .ok (.getfield 21, 3) := by decide +kernel
theorem dX1_copyFrom_8 : decode cX1_copyFrom 8 = .ok (.invokestatic 43, 3) := by decide +kernel
theorem dX1_copyFrom_11 : decode cX1_copyFrom 11 = .ok (.aload_n 0, 1) := by decide +kernel
theorem dX1_copyFrom_12 : decode cX1_copyFrom 12 = .ok (.aload_n 1, 1) := by decide +kernel
theorem dX1_copyFrom_13 : decode cX1_copyFrom 13 = .ok (.getfield 9, 3) := by decide +kernel
theorem dX1_copyFrom_16 : decode cX1_copyFrom 16 = .ok (.aload_n 0, 1) := by decide +kernel
theorem dX1_copyFrom_17 : decode cX1_copyFrom 17 = .ok (.getfield 21, 3) := by decide +kernel
theorem dX1_copyFrom_20 : decode cX1_copyFrom 20 = .ok (.arraylength, 1) := by decide +kernel
theorem dX1_copyFrom_21 : decode cX1_copyFrom 21 = .ok (.invokestatic 47, 3) := by decide +kernel
theorem dX1_copyFrom_24 : decode cX1_copyFrom 24 = .ok (.putfield 9, 3) := by decide +kernel
theorem dX1_copyFrom_27 : decode cX1_copyFrom 27 = .ok (.return_, 1) := by decide +kernel
theorem dX2_init_0 : decode cX2_init 0 = .ok (.aload_n 0, 1) := by decide +kernel
theorem dX2_init_1 : decode cX2_init 1 = .ok (.invokespecial 3, 3) := by decide +kernel
theorem dX2_init_4 : decode cX2_init 4 = .ok (.aload_n 0, 1) := by decide +kernel
theorem dX2_init_5 : decode cX2_init 5 = .ok (.new 9, 3) := by decide +kernel
theorem dX2_init_8 : decode cX2_init 8 = .ok (.dup, 1) := by decide +kernel
theorem dX2_init_9 : decode cX2_init 9 = .ok (.bipush 12, 2) := by decide +kernel
theorem dX2_init_11 : decode cX2_init 11 = .ok (.invokespecial 11, 3) := by decide +kernel
theorem dX2_init_14 : decode cX2_init 14 = .ok (.putfield 14, 3) := by decide +kernel
theorem dX2_init_17 : decode cX2_init 17 = .ok (.aload_n 0, 1) := by decide +kernel
theorem dX2_init_18 : decode cX2_init 18 = .ok (.new 20, 3) := by decide +kernel
theorem dX2_init_21 : decode cX2_init 21 = .ok (.dup, 1) := by decide +kernel
theorem dX2_init_22 : decode cX2_init 22 = .ok (.invokespecial 22, 3) := by decide +kernel
theorem dX2_init_25 : decode cX2_init 25 = .ok (.putfield 23, 3) := by decide +kernel
theorem dX2_init_28 : decode cX2_init 28 = .ok (.aload_n 0, 1) := by decide +kernel
theorem dX2_init_29 : decode cX2_init 29 = .ok (.new 27, 3) := by decide +kernel
theorem dX2_init_32 : decode cX2_init 32 = .ok (.dup, 1) := by decide +kernel
theorem dX2_init_33 : decode cX2_init 33 = .ok (.invokespecial 29, 3) := by decide +kernel
theorem dX2_init_36 : decode cX2_init 36 = .ok (.putfield 30, 3) := by decide +kernel
theorem dX2_init_39 : decode cX2_init 39 = .ok (.aload_n 0, 1) := by decide +kernel
theorem dX2_init_40 : decode cX2_init 40 = .ok (.new 9, 3) := by decide +kernel
theorem dX2_init_43 : decode cX2_init 43 = .ok (.dup, 1) := by decide +kernel
theorem dX2_init_44 : decode cX2_init 44 = .ok (.bipush 20, 2) := by decide +kernel
theorem dX2_init_46 : decode cX2_init 46 = .ok (.invokespecial 11, 3) := by decide +kernel
theorem dX2_init_49 : decode cX2_init 49 = .ok (.putfield 34, 3) := by decide +kernel
theorem dX2_init_52 : decode cX2_init 52 = .ok (.aload_n 0, 1) := by decide +kernel
theorem dX2_init_53 : decode cX2_init 53 = .ok (.new 27, 3) := by decide +kernel
theorem dX2_init_56 : decode cX2_init 56 = .ok (.dup, 1) := by decide +kernel
theorem dX2_init_57 : decode cX2_init 57 = .ok (.invokespecial 29, 3) := by decide +kernel
theorem dX2_init_60 : decode cX2_init 60 = .ok (.putfield 37, 3) := by decide +kernel
theorem dX2_init_63 : decode cX2_init 63 = .ok (.aload_n 0, 1) := by decide +kernel
theorem dX2_init_64 : decode cX2_init 64 = .ok (.iconst 0, 1) := by decide +kernel
theorem dX2_init_65 : decode cX2_init 65 = .ok (.putfield 40, 3) := by decide +kernel
theorem dX2_init_68 : decode cX2_init 68 = .ok (.aload_n 0, 1) := by decide +kernel
theorem dX2_init_69 : decode cX2_init 69 = .ok (.iconst 0, 1) := by decide +kernel
theorem dX2_init_70 : decode cX2_init 70 = .ok (.putfield 44, 3) := by decide +kernel
theorem dX2_init_73 : decode cX2_init 73 = .ok (.aload_n 0, 1) := by decide +kernel
theorem dX2_init_74 : decode cX2_init 74 = .ok (.iconst 0, 1) := by decide +kernel
theorem dX2_init_75 : decode cX2_init 75 = .ok (.putfield 47, 3) := by decide +kernel
theorem dX2_init_78 : decode cX2_init 78 = .ok (.return_, 1) := by decide +kernel
theorem dX2_accept_0 : decode cX2_accept 0 = .ok (.aload_n 0, 1) := by decide +kernel
theorem dX2_accept_1 : decode cX2_accept 1 = .ok (.dup, 1) := by decide +kernel
theorem dX2_accept_2 : decode cX2_accept 2 = .ok (.getfield 40, 3) := by decide +kernel
theorem dX2_accept_5 : decode cX2_accept 5 = .ok (.iconst 1, 1) := by decide +kernel
theorem dX2_accept_6 : decode cX2_accept 6 = .ok (.iadd, 1) := by decide +kernel
theorem dX2_accept_7 : decode cX2_accept 7 = .ok (.putfield 40, 3) := by decide +kernel
theorem dX2_accept_10 : decode cX2_accept 10 = .ok (.aload_n 0, 1) := by decide +kernel
theorem dX2_accept_11 : decode cX2_accept 11 = .ok (.iload_n 1, 1) := by decide +kernel
theorem dX2_accept_12 : decode cX2_accept 12 = .ok (.iload_n 2, 1) := by decide +kernel
theorem dX2_accept_13 : decode cX2_accept 13 = .ok (.invokevirtual 50, 3) := by decide +kernel
theorem dX2_accept_16 : decode cX2_accept 16 = .ok (.aload_n 0, 1) := by decide +kernel
theorem dX2_accept_17 : decode cX2_accept 17 = .ok (.aload_n 0, 1) := by decide +kernel
theorem dX2_accept_18 : decode cX2_accept 18 = .ok (.getfield 47, 3) := by decide +kernel
theorem dX2_accept_21 : decode cX2_accept 21 = .ok (.aload_n 0, 1) := by decide +kernel
theorem dX2_accept_22 : decode cX2_accept 22 = .ok (.getfield 34, 3) := by decide +kernel
theorem dX2_accept_25 : decode cX2_accept 25 = .ok (.getfield 54, 3) := by decide +kernel
theorem dX2_accept_28 : decode cX2_accept 28 = .ok (.invokestatic 57, 3) := by decide +kernel
theorem dX2_accept_31 : decode cX2_accept 31 = .ok (.putfield 47, 3) := by decide +kernel
theorem dX2_accept_34 : decode cX2_accept 34 = .ok (.aload_n 0, 1) := by decide +kernel
theorem dX2_accept_35 : decode cX2_accept 35 = .ok (.getfield 23, 3) := by decide +kernel
theorem dX2_accept_38 : decode cX2_accept 38 = .ok (.iload_n 1, 1) := by decide +kernel
theorem dX2_accept_39 : decode cX2_accept 39 = .ok (.invokevirtual 63, 3) := by decide +kernel
theorem dX2_accept_42 : decode cX2_accept 42 = .ok (.ifCond .ne 15, 3) := by decide +kernel
theorem dX2_accept_45 : decode cX2_accept 45 = .ok (.aload_n 0, 1) := by decide +kernel
theorem dX2_accept_46 : decode cX2_accept 46 = .ok (.dup, 1) := by decide +kernel
theorem dX2_accept_47 : decode cX2_accept 47 = .ok (.getfield 44, 3) := by decide +kernel
theorem dX2_accept_50 : decode cX2_accept 50 = .ok (.iconst 1, 1) := by decide +kernel
theorem dX2_accept_51 : decode cX2_accept 51 = .ok (.iadd, 1) := by decide +kernel
theorem dX2_accept_52 : decode cX2_accept 52 = .ok (.putfield 44, 3) := by decide +kernel
theorem dX2_accept_55 : decode cX2_accept 55 = .ok (.iconst 0, 1) := by decide +kernel
theorem dX2_accept_56 : decode cX2_accept 56 = .ok (.ireturn, 1) := by decide +kernel
theorem dX2_accept_57 : decode cX2_accept 57 = .ok (.aload_n 0, 1) := by decide +kernel
theorem dX2_accept_58 : decode cX2_accept 58 = .ok (.getfield 14, 3) := by decide +kernel
theorem dX2_accept_61 : decode cX2_accept 61 = .ok (.iload_n 1, 1) := by decide +kernel
theorem dX2_accept_62 : decode cX2_accept 62 = .ok (.invokevirtual 67, 3) := by decide +kernel
theorem dX2_accept_65 : decode cX2_accept 65 = .ok (.aload_n 0, 1) := by decide +kernel
theorem dX2_accept_66 : decode cX2_accept 66 = .ok (.iload_n 2, 1) := by decide +kernel
theorem dX2_accept_67 : decode cX2_accept 67 = .ok (.invokevirtual 70, 3) := by decide +kernel
theorem dX2_accept_70 : decode cX2_accept 70 = .ok (.iconst 1, 1) := by decide +kernel
theorem dX2_accept_71 : decode cX2_accept 71 = .ok (.ireturn, 1) := by decide +kernel
theorem dX2_peel_0 : decode cX2_peel 0 = .ok (.aload_n 0, 1) := by decide +kernel
theorem dX2_peel_1 : decode cX2_peel 1 = .ok (.getfield 37, 3) := by decide +kernel
theorem dX2_peel_4 : decode cX2_peel 4 = .ok (.iload_n 1, 1) := by decide +kernel
theorem dX2_peel_5 : decode cX2_peel 5 = .ok (.invokevirtual 73, 3) := by decide +kernel
theorem dX2_peel_8 : decode cX2_peel 8 = .ok (.istore_n 3, 1) := by decide +kernel
theorem dX2_peel_9 : decode cX2_peel 9 = .ok (.iload_n 3, 1) := by decide +kernel
theorem dX2_peel_10 : decode cX2_peel 10 = .ok (.invokestatic 77, 3) := by decide +kernel
theorem dX2_peel_13 : decode cX2_peel 13 = .ok (.iconst 1, 1) := by decide +kernel
theorem dX2_peel_14 : decode cX2_peel 14 = .ok (.if_icmp .le 21, 3) := by decide +kernel
theorem dX2_peel_17 : decode cX2_peel 17 = .ok (.aload_n 0, 1) := by decide +kernel
theorem dX2_peel_18 : decode cX2_peel 18 = .ok (.getfield 34, 3) := by decide +kernel
theorem dX2_peel_21 : decode cX2_peel 21 = .ok (.bipush 19, 2) := by decide +kernel
theorem dX2_peel_23 : decode cX2_peel 23 = .ok (.invokevirtual 80, 3) := by decide +kernel
theorem dX2_peel_26 : decode cX2_peel 26 = .ok (.aload_n 0, 1) := by decide +kernel
theorem dX2_peel_27 : decode cX2_peel 27 = .ok (.getfield 34, 3) := by decide +kernel
theorem dX2_peel_30 : decode cX2_peel 30 = .ok (.iload_n 3, 1) := by decide +kernel
theorem dX2_peel_31 : decode cX2_peel 31 = .ok (.invokevirtual 67, 3) := by decide +kernel
theorem dX2_peel_34 : decode cX2_peel 34 = .ok (.return_, 1) := by decide +kernel
theorem dX2_peel_35 : decode cX2_peel 35 = .ok (.iconst 0, 1) := by decide +kernel
theorem dX2_peel_36 : decode cX2_peel 36 = .ok (.istore 4, 2) := by decide +kernel
theorem dX2_peel_38 : decode cX2_peel 38 = .ok (.iload 4, 2) := by decide +kernel
theorem dX2_peel_40 : decode cX2_peel 40 = .ok (.bipush 12, 2) := by decide +kernel
theorem dX2_peel_42 : decode cX2_peel 42 = .ok (.if_icmp .ge 41, 3) := by decide +kernel
theorem dX2_peel_45 : decode cX2_peel 45 = .ok (.iload_n 3, 1) := by decide +kernel
theorem dX2_peel_46 : decode cX2_peel 46 = .ok (.invokestatic 83, 3) := by decide +kernel
theorem dX2_peel_49 : decode cX2_peel 49 = .ok (.ifCond .eq 34, 3) := by decide +kernel
theorem dX2_peel_52 : decode cX2_peel 52 = .ok (.aload_n 0, 1) := by decide +kernel
theorem dX2_peel_53 : decode cX2_peel 53 = .ok (.getfield 37, 3) := by decide +kernel
theorem dX2_peel_56 : decode cX2_peel 56 = .ok (.iload_n 3, 1) := by decide +kernel
theorem dX2_peel_57 : decode cX2_peel 57 = .ok (.iload_n 2, 1) := by decide +kernel
theorem dX2_peel_58 : decode cX2_peel 58 = .ok (.invokevirtual 86, 3) := by decide +kernel
theorem dX2_peel_61 : decode cX2_peel 61 = .ok (.aload_n 0, 1) := by decide +kernel
theorem dX2_peel_62 : decode cX2_peel 62 = .ok (.getfield 34, 3) := by decide +kernel
theorem dX2_peel_65 : decode cX2_peel 65 = .ok (.iload_n 3, 1) := by decide +kernel
theorem dX2_peel_66 : decode cX2_peel 66 = .ok (.invokevirtual 89, 3) := by decide +kernel
theorem dX2_peel_69 : decode cX2_peel 69 = .ok (.aload_n 0, 1) := by decide +kernel
theorem dX2_peel_70 : decode cX2_peel 70 = .ok (.getfield 34, 3) := by decide +kernel
theorem dX2_peel_73 : decode cX2_peel 73 = .ok (.invokevirtual 92, 3) := by decide +kernel
theorem dX2_peel_76 : decode cX2_peel 76 = .ok (.istore_n 3, 1) := by decide +kernel
theorem dX2_peel_77 : decode cX2_peel 77 = .ok (.iinc 4 1, 3) := by decide +kernel
theorem dX2_peel_80 : decode cX2_peel 80 = .ok (.goto (-42), 3) := by decide +kernel
theorem dX2_peel_83 : decode cX2_peel 83 = .ok (.return_, 1) := by decide +kernel
theorem dX2_solve_0 : decode cX2_solve 0 = .ok (.iconst 0, 1) := by decide +kernel
theorem dX2_solve_1 : decode cX2_solve 1 = .ok (.istore_n 2, 1) := by decide +kernel
theorem dX2_solve_2 : decode cX2_solve 2 = .ok (.iload_n 2, 1) := by decide +kernel
theorem dX2_solve_3 : decode cX2_solve 3 = .ok (.bipush 12, 2) := by decide +kernel
theorem dX2_solve_5 : decode cX2_solve 5 = .ok (.if_icmp .ge 45, 3) := by decide +kernel
theorem dX2_solve_8 : decode cX2_solve 8 = .ok (.aload_n 0, 1) := by decide +kernel
theorem dX2_solve_9 : decode cX2_solve 9 = .ok (.getfield 23, 3) := by decide +kernel
theorem dX2_solve_12 : decode cX2_solve 12 = .ok (.iload_n 2, 1) := by decide +kernel
theorem dX2_solve_13 : decode cX2_solve 13 = .ok (.iconst 0, 1) := by decide +kernel
theorem dX2_solve_14 : decode cX2_solve 14 = .ok (.invokestatic 96, 3) := by decide +kernel
theorem dX2_solve_17 : decode cX2_solve 17 = .ok (.invokevirtual 99, 3) := by decide +kernel
theorem dX2_solve_20 : decode cX2_solve 20 = .ok (.istore_n 3, 1) := by decide +kernel
theorem dX2_solve_21 : decode cX2_solve 21 = .ok (.iload_n 3, 1) := by decide +kernel
theorem dX2_solve_22 : decode cX2_solve 22 = .ok (.invokestatic 83, 3) := by decide +kernel
theorem dX2_solve_25 : decode cX2_solve 25 = .ok (.ifCond .ne 19, 3) := by decide +kernel
theorem dX2_solve_28 : decode cX2_solve 28 = .ok (.aload_n 0, 1) := by decide +kernel
theorem dX2_solve_29 : decode cX2_solve 29 = .ok (.getfield 30, 3) := by decide +kernel
theorem dX2_solve_32 : decode cX2_solve 32 = .ok (.iload_n 2, 1) := by decide +kernel
theorem dX2_solve_33 : decode cX2_solve 33 = .ok (.iload_n 3, 1) := by decide +kernel
theorem dX2_solve_34 : decode cX2_solve 34 = .ok (.invokestatic 102, 3) := by decide +kernel
theorem dX2_solve_37 : decode cX2_solve 37 = .ok (.invokestatic 96, 3) := by decide +kernel
theorem dX2_solve_40 : decode cX2_solve 40 = .ok (.iload_n 1, 1) := by decide +kernel
theorem dX2_solve_41 : decode cX2_solve 41 = .ok (.invokevirtual 86, 3) := by decide +kernel
theorem dX2_solve_44 : decode cX2_solve 44 = .ok (.iinc 2 1, 3) := by decide +kernel
theorem dX2_solve_47 : decode cX2_solve 47 = .ok (.goto (-45), 3) := by decide +kernel
theorem dX2_solve_50 : decode cX2_solve 50 = .ok (.return_, 1) := by decide +kernel
theorem dX2_clear_0 : decode cX2_clear 0 = .ok (.aload_n 0, 1) := by decide +kernel
theorem dX2_clear_1 : decode cX2_clear 1 = .ok (.getfield 14, 3) := by decide +kernel
theorem dX2_clear_4 : decode cX2_clear 4 = .ok (.invokevirtual 105, 3) := by decide +kernel
theorem dX2_clear_7 : decode cX2_clear 7 = .ok (.aload_n 0, 1) := by decide +kernel
theorem dX2_clear_8 : decode cX2_clear 8 = .ok (.getfield 23, 3) := by decide +kernel
theorem dX2_clear_11 : decode cX2_clear 11 = .ok (.invokevirtual 108, 3) := by decide +kernel
theorem dX2_clear_14 : decode cX2_clear 14 = .ok (.aload_n 0, 1) := by decide +kernel
theorem dX2_clear_15 : decode cX2_clear 15 = .ok (.getfield 30, 3) := by decide +kernel
theorem dX2_clear_18 : decode cX2_clear 18 = .ok (.invokevirtual 109, 3) := by decide +kernel
theorem dX2_clear_21 : decode cX2_clear 21 = .ok (.aload_n 0, 1) := by decide +kernel
theorem dX2_clear_22 : decode cX2_clear 22 = .ok (.getfield 34, 3) := by decide +kernel
theorem dX2_clear_25 : decode cX2_clear 25 = .ok (.invokevirtual 105, 3) := by decide +kernel
theorem dX2_clear_28 : decode cX2_clear 28 = .ok (.aload_n 0, 1) := by decide +kernel
theorem dX2_clear_29 : decode cX2_clear 29 = .ok (.getfield 37, 3) := by decide +kernel
theorem dX2_clear_32 : decode cX2_clear 32 = .ok (.invokevirtual 109, 3) := by decide +kernel
theorem dX2_clear_35 : decode cX2_clear 35 = .ok (.aload_n 0, 1) := by decide +kernel
theorem dX2_clear_36 : decode cX2_clear 36 = .ok (.iconst 0, 1) := by decide +kernel
theorem dX2_clear_37 : decode cX2_clear 37 = .ok (.putfield 40, 3) := by decide +kernel
theorem dX2_clear_40 : decode cX2_clear 40 = .ok (.aload_n 0, 1) := by decide +kernel
theorem dX2_clear_41 : decode cX2_clear 41 = .ok (.iconst 0, 1) := by decide +kernel
theorem dX2_clear_42 : decode cX2_clear 42 = .ok (.putfield 44, 3) := by decide +kernel
theorem dX2_clear_45 : decode cX2_clear 45 = .ok (.aload_n 0, 1) := by decide +kernel
theorem dX2_clear_46 : decode cX2_clear 46 = .ok (.iconst 0, 1) := by decide +kernel
theorem dX2_clear_47 : decode cX2_clear 47 = .ok (.putfield 47, 3) := by decide +kernel
theorem dX2_clear_50 : decode cX2_clear 50 = .ok (.return_, 1) := by decide +kernel
theorem dX2_copyFrom_0 : decode cX2_copyFrom 0 = .ok (.aload_n 0, 1) := by decide +kernel
theorem dX2_copyFrom_1 : decode cX2_copyFrom 1 = .ok (.getfield 14, 3) := by decide +kernel
theorem dX2_copyFrom_4 : decode cX2_copyFrom 4 = .ok (.aload_n 1, 1) := by decide +kernel
theorem dX2_copyFrom_5 : decode cX2_copyFrom 5 = .ok (.getfield 14, 3) := by decide +kernel
theorem dX2_copyFrom_8 : decode cX2_copyFrom 8 = .ok (.invokevirtual 110, 3) := by decide +kernel
theorem dX2_copyFrom_11 : decode cX2_copyFrom 11 = .ok (.aload_n 0, 1) := by decide +kernel
theorem dX2_copyFrom_12 : decode cX2_copyFrom 12 = .ok (.getfield 23, 3) := by decide +kernel
theorem dX2_copyFrom_15 : decode cX2_copyFrom 15 = .ok (.aload_n 1, 1) := by decide +kernel
theorem dX2_copyFrom_16 : decode cX2_copyFrom 16 = .ok (.getfield 23, 3) := by decide +kernel
theorem dX2_copyFrom_19 : decode cX2_copyFrom 19 = .ok (.invokevirtual 114, 3) := by decide +kernel
theorem dX2_copyFrom_22 : decode cX2_copyFrom 22 = .ok (.aload_n 0, 1) := by decide +kernel
theorem dX2_copyFrom_23 : decode cX2_copyFrom 23 = .ok (.getfield 30, 3) := by decide +kernel
theorem dX2_copyFrom_26 : decode cX2_copyFrom 26 = .ok (.aload_n 1, 1) := by decide +kernel
theorem dX2_copyFrom_27 : decode cX2_copyFrom 27 = .ok (.getfield 30, 3) := by decide +kernel
theorem dX2_copyFrom_30 : decode cX2_copyFrom 30 = .ok (.invokevirtual 117, 3) := by decide +kernel
theorem dX2_copyFrom_33 : decode cX2_copyFrom 33 = .ok (.aload_n 0, 1) := by decide +kernel
theorem dX2_copyFrom_34 : decode cX2_copyFrom 34 = .ok (.getfield 34, 3) := by decide +kernel
theorem dX2_copyFrom_37 : decode cX2_copyFrom 37 = .ok (.aload_n 1, 1) := by decide +kernel
theorem dX2_copyFrom_38 : decode cX2_copyFrom 38 = .ok (.getfield 34, 3) := by decide +kernel
theorem dX2_copyFrom_41 : decode cX2_copyFrom 41 = .ok (.invokevirtual 110, 3) := by decide +kernel
theorem dX2_copyFrom_44 : decode cX2_copyFrom 44 = .ok (.aload_n 0, 1) := by decide +kernel
theorem dX2_copyFrom_45 : decode cX2_copyFrom 45 = .ok (.getfield 37, 3) := by decide +kernel
theorem dX2_copyFrom_48 : decode cX2_copyFrom 48 = .ok (.aload_n 1, 1) := by decide +kernel
theorem dX2_copyFrom_49 : decode cX2_copyFrom 49 = .ok (.getfield 37, 3) := by decide +kernel
theorem dX2_copyFrom_52 : decode cX2_copyFrom 52 = .ok (.invokevirtual 117, 3) := by decide +kernel
theorem dX2_copyFrom_55 : decode cX2_copyFrom 55 = .ok (.aload_n 0, 1) := by decide +kernel
theorem dX2_copyFrom_56 : decode cX2_copyFrom 56 = .ok (.aload_n 1, 1) := by decide +kernel
theorem dX2_copyFrom_57 : decode cX2_copyFrom 57 = .ok (.getfield 40, 3) := by decide +kernel
theorem dX2_copyFrom_60 : decode cX2_copyFrom 60 = .ok (.putfield 40, 3) := by decide +kernel
theorem dX2_copyFrom_63 : decode cX2_copyFrom 63 = .ok (.aload_n 0, 1) := by decide +kernel
theorem dX2_copyFrom_64 : decode cX2_copyFrom 64 = .ok (.aload_n 1, 1) := by decide +kernel
theorem dX2_copyFrom_65 : decode cX2_copyFrom 65 = .ok (.getfield 44, 3) := by decide +kernel
theorem dX2_copyFrom_68 : decode cX2_copyFrom 68 = .ok (.putfield 44, 3) := by decide +kernel
theorem dX2_copyFrom_71 : decode cX2_copyFrom 71 = .ok (.aload_n 0, 1) := by decide +kernel
theorem dX2_copyFrom_72 : decode cX2_copyFrom 72 = .ok (.aload_n 1, 1) := by decide +kernel
theorem dX2_copyFrom_73 : decode cX2_copyFrom 73 = .ok (.getfield 47, 3) := by decide +kernel
theorem dX2_copyFrom_76 : decode cX2_copyFrom 76 = .ok (.putfield 47, 3) := by decide +kernel
theorem dX2_copyFrom_79 : decode cX2_copyFrom 79 = .ok (.return_, 1) := by decide +kernel
