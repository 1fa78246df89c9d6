theorem dX3_init_0 : decode cX3_init 0 = .ok (.aload_n 0, 1) := by decide +kernel
theorem dX3_init_1 : decode cX3_init 1 = .ok (.invokespecial 3, 3) := by decide +kernel
theorem dX3_init_4 : decode cX3_init 4 = .ok (.aload_n 0, 1) := by decide +kernel
theorem dX3_init_5 : decode cX3_init 5 = .ok (.bipush 12, 2) := by decide +kernel
theorem dX3_init_7 : decode cX3_init 7 = .ok (.newarray .int, 2) := by decide +kernel
theorem dX3_init_9 : decode cX3_init 9 = .ok (.putfield 9, 3) := by decide +kernel
theorem dX3_init_12 : decode cX3_init 12 = .ok (.aload_n 0, 1) := by decide +kernel
theorem dX3_init_13 : decode cX3_init 13 = .ok (.iconst 4, 1) := by decide +kernel
theorem dX3_init_14 : decode cX3_init 14 = .ok (.newarray .int, 2) := by decide +kernel
theorem dX3_init_16 : decode cX3_init 16 = .ok (.putfield 15, 3) := by decide +kernel
theorem dX3_init_19 : decode cX3_init 19 = .ok (.aload_n 0, 1) := by decide +kernel
theorem dX3_init_20 : decode cX3_init 20 = .ok (.bipush 7, 2) := by decide +kernel
theorem dX3_init_22 : decode cX3_init 22 = .ok (.newarray .int, 2) := by decide +kernel
theorem dX3_init_24 : decode cX3_init 24 = .ok (.putfield 18, 3) := by decide +kernel
theorem dX3_init_27 : decode cX3_init 27 = .ok (.aload_n 0, 1) := by decide +kernel
theorem dX3_init_28 : decode cX3_init 28 = .ok (.iconst 4, 1) := by decide +kernel
theorem dX3_init_29 : decode cX3_init 29 = .ok (.putfield 21, 3) := by decide +kernel
theorem dX3_init_32 : decode cX3_init 32 = .ok (.aload_n 0, 1) := by decide +kernel
theorem dX3_init_33 : decode cX3_init 33 = .ok (.iconst 1, 1) := by decide +kernel
theorem dX3_init_34 : decode cX3_init 34 = .ok (.putfield 25, 3) := by decide +kernel
theorem dX3_init_37 : decode cX3_init 37 = .ok (.aload_n 0, 1) := by decide +kernel
theorem dX3_init_38 : decode cX3_init 38 = .ok (.iconst 2, 1) := by decide +kernel
theorem dX3_init_39 : decode cX3_init 39 = .ok (.putfield 28, 3) := by decide +kernel
theorem dX3_init_42 : decode cX3_init 42 = .ok (.aload_n 0, 1) := by decide +kernel
theorem dX3_init_43 : decode cX3_init 43 = .ok (.iconst 0, 1) := by decide +kernel
theorem dX3_init_44 : decode cX3_init 44 = .ok (.putfield 31, 3) := by decide +kernel
theorem dX3_init_47 : decode cX3_init 47 = .ok (.aload_n 0, 1) := by decide +kernel
theorem dX3_init_48 : decode cX3_init 48 = .ok (.iconst 0, 1) := by decide +kernel
theorem dX3_init_49 : decode cX3_init 49 = .ok (.putfield 34, 3) := by decide +kernel
theorem dX3_init_52 : decode cX3_init 52 = .ok (.aload_n 0, 1) := by decide +kernel
theorem dX3_init_53 : decode cX3_init 53 = .ok (.iconst 1, 1) := by decide +kernel
theorem dX3_init_54 : decode cX3_init 54 = .ok (.putfield 37, 3) := by decide +kernel
theorem dX3_init_57 : decode cX3_init 57 = .ok (.getstatic 40, 3) := by decide +kernel
theorem dX3_init_60 : decode cX3_init 60 = .ok (.aload_n 0, 1) := by decide +kernel
theorem dX3_init_61 : decode cX3_init 61 = .ok (.getfield 18, 3) := by decide +kernel
theorem dX3_init_64 : decode cX3_init 64 = .ok (.invokestatic 43, 3) := by decide +kernel
theorem dX3_init_67 : decode cX3_init 67 = .ok (.aload_n 0, 1) := by decide +kernel
theorem dX3_init_68 : decode cX3_init 68 = .ok (.invokevirtual 47, 3) := by decide +kernel
theorem dX3_init_71 : decode cX3_init 71 = .ok (.return_, 1) := by decide +kernel
theorem dX3_giveFirstValues_0 : decode cX3_giveFirstValues 0 = .ok (.iconst 0, 1) := by decide +kernel
theorem dX3_giveFirstValues_1 : decode cX3_giveFirstValues 1 = .ok (.istore_n 1, 1) := by decide +kernel
theorem dX3_giveFirstValues_2 : decode cX3_giveFirstValues 2 = .ok (.iload_n 1, 1) := by decide +kernel
theorem dX3_giveFirstValues_3 : decode cX3_giveFirstValues 3 = .ok (.aload_n 0, 1) := by decide +kernel
theorem dX3_giveFirstValues_4 : decode cX3_giveFirstValues 4 = .ok (.getfield 9, 3) := by decide +kernel
theorem dX3_giveFirstValues_7 : decode cX3_giveFirstValues 7 = .ok (.arraylength, 1) := by decide +kernel
theorem dX3_giveFirstValues_8 : decode cX3_giveFirstValues 8 = .ok (.if_icmp .ge 22, 3) := by decide +kernel
theorem dX3_giveFirstValues_11 : decode cX3_giveFirstValues 11 = .ok (.aload_n 0, 1) := by decide +kernel
theorem dX3_giveFirstValues_12 : decode cX3_giveFirstValues 12 = .ok (.getfield 9, 3) := by decide +kernel
theorem dX3_giveFirstValues_15 : decode cX3_giveFirstValues 15 = .ok (.iload_n 1, 1) := by decide +kernel
theorem dX3_giveFirstValues_16 : decode cX3_giveFirstValues 16 = .ok (.bipush 10, 2) := by decide +kernel
theorem dX3_giveFirstValues_18 : decode cX3_giveFirstValues 18 = .ok (.iload_n 1, 1) := by decide +kernel
theorem dX3_giveFirstValues_19 : decode cX3_giveFirstValues 19 = .ok (.imul, 1) := by decide +kernel
theorem dX3_giveFirstValues_20 : decode cX3_giveFirstValues 20 = .ok (.bipush 7, 2) := by decide +kernel
theorem dX3_giveFirstValues_22 : decode cX3_giveFirstValues 22 = .ok (.iadd, 1) := by decide +kernel
theorem dX3_giveFirstValues_23 : decode cX3_giveFirstValues 23 = .ok (.iastore, 1) := by decide +kernel
theorem dX3_giveFirstValues_24 : decode cX3_giveFirstValues 24 = .ok (.iinc 1 1, 3) := by decide +kernel
theorem dX3_giveFirstValues_27 : decode cX3_giveFirstValues 27 = .ok (.goto (-25), 3) := by decide +kernel
theorem dX3_giveFirstValues_30 : decode cX3_giveFirstValues 30 = .ok (.return_, 1) := by decide +kernel
theorem dX3_restart_0 : decode cX3_restart 0 = .ok (.iconst 0, 1) := by decide +kernel
theorem dX3_restart_1 : decode cX3_restart 1 = .ok (.istore_n 3, 1) := by decide +kernel
theorem dX3_restart_2 : decode cX3_restart 2 = .ok (.iload_n 3, 1) := by decide +kernel
theorem dX3_restart_3 : decode cX3_restart 3 = .ok (.aload_n 0, 1) := by decide +kernel
theorem dX3_restart_4 : decode cX3_restart 4 = .ok (.getfield 15, 3) := by decide +kernel
theorem dX3_restart_7 : decode cX3_restart 7 = .ok (.arraylength, 1) := by decide +kernel
theorem dX3_restart_8 : decode cX3_restart 8 = .ok (.if_icmp .ge 24, 3) := by decide +kernel
theorem dX3_restart_11 : decode cX3_restart 11 = .ok (.iload_n 3, 1) := by decide +kernel
theorem dX3_restart_12 : decode cX3_restart 12 = .ok (.aload_n 0, 1) := by decide +kernel
theorem dX3_restart_13 : decode cX3_restart 13 = .ok (.getfield 25, 3) := by decide +kernel
theorem dX3_restart_16 : decode cX3_restart 16 = .ok (.if_icmp .le 10, 3) := by decide +kernel
theorem dX3_restart_19 : decode cX3_restart 19 = .ok (.aload_n 0, 1) := by decide +kernel
theorem dX3_restart_20 : decode cX3_restart 20 = .ok (.getfield 15, 3) := by decide +kernel
theorem dX3_restart_23 : decode cX3_restart 23 = .ok (.iload_n 3, 1) := by decide +kernel
theorem dX3_restart_24 : decode cX3_restart 24 = .ok (.iconst 0, 1) := by decide +kernel
theorem dX3_restart_25 : decode cX3_restart 25 = .ok (.iastore, 1) := by decide +kernel
theorem dX3_restart_26 : decode cX3_restart 26 = .ok (.iinc 3 1, 3) := by decide +kernel
theorem dX3_restart_29 : decode cX3_restart 29 = .ok (.goto (-27), 3) := by decide +kernel
theorem dX3_restart_32 : decode cX3_restart 32 = .ok (.aload_n 0, 1) := by decide +kernel
theorem dX3_restart_33 : decode cX3_restart 33 = .ok (.iload_n 1, 1) := by decide +kernel
theorem dX3_restart_34 : decode cX3_restart 34 = .ok (.putfield 21, 3) := by decide +kernel
theorem dX3_restart_37 : decode cX3_restart 37 = .ok (.aload_n 0, 1) := by decide +kernel
theorem dX3_restart_38 : decode cX3_restart 38 = .ok (.iload_n 2, 1) := by decide +kernel
theorem dX3_restart_39 : decode cX3_restart 39 = .ok (.putfield 25, 3) := by decide +kernel
theorem dX3_restart_42 : decode cX3_restart 42 = .ok (.aload_n 0, 1) := by decide +kernel
theorem dX3_restart_43 : decode cX3_restart 43 = .ok (.invokevirtual 47, 3) := by decide +kernel
theorem dX3_restart_46 : decode cX3_restart 46 = .ok (.return_, 1) := by decide +kernel
theorem dX3_changePolicy_0 : decode cX3_changePolicy 0 = .ok (.aload_n 0, 1) := by decide +kernel
theorem dX3_changePolicy_1 : decode cX3_changePolicy 1 = .ok (.getfield 31, 3) := by decide +kernel
theorem dX3_changePolicy_4 : decode cX3_changePolicy 4 = .ok (.istore_n 2, 1) := by decide +kernel
theorem dX3_changePolicy_5 : decode cX3_changePolicy 5 = .ok (.aload_n 0, 1) := by decide +kernel
theorem dX3_changePolicy_6 : decode cX3_changePolicy 6 = .ok (.iload_n 1, 1) := by decide +kernel
theorem dX3_changePolicy_7 : decode cX3_changePolicy 7 = .ok (.putfield 31, 3) := by decide +kernel
theorem dX3_changePolicy_10 : decode cX3_changePolicy 10 = .ok (.iload_n 2, 1) := by decide +kernel
theorem dX3_changePolicy_11 : decode cX3_changePolicy 11 = .ok (.ireturn, 1) := by decide +kernel
theorem dX3_changeStyle_0 : decode cX3_changeStyle 0 = .ok (.aload_n 0, 1) := by decide +kernel
theorem dX3_changeStyle_1 : decode cX3_changeStyle 1 = .ok (.getfield 34, 3) := by decide +kernel
theorem dX3_changeStyle_4 : decode cX3_changeStyle 4 = .ok (.istore_n 2, 1) := by decide +kernel
theorem dX3_changeStyle_5 : decode cX3_changeStyle 5 = .ok (.aload_n 0, 1) := by decide +kernel
theorem dX3_changeStyle_6 : decode cX3_changeStyle 6 = .ok (.iload_n 1, 1) := by decide +kernel
theorem dX3_changeStyle_7 : decode cX3_changeStyle 7 = .ok (.putfield 34, 3) := by decide +kernel
theorem dX3_changeStyle_10 : decode cX3_changeStyle 10 = .ok (.iload_n 2, 1) := by decide +kernel
theorem dX3_changeStyle_11 : decode cX3_changeStyle 11 = .ok (.ireturn, 1) := by decide +kernel
theorem dX3_changeSeed_0 : decode cX3_changeSeed 0 = .ok (.aload_n 0, 1) := by decide +kernel
theorem dX3_changeSeed_1 : decode cX3_changeSeed 1 = .ok (.getfield 37, 3) := by decide +kernel
theorem dX3_changeSeed_4 : decode cX3_changeSeed 4 = .ok (.istore_n 2, 1) := by decide +kernel
theorem dX3_changeSeed_5 : decode cX3_changeSeed 5 = .ok (.aload_n 0, 1) := by decide +kernel
theorem dX3_changeSeed_6 : decode cX3_changeSeed 6 = .ok (.iload_n 1, 1) := by decide +kernel
theorem dX3_changeSeed_7 : decode cX3_changeSeed 7 = .ok (.putfield 37, 3) := by decide +kernel
theorem dX3_changeSeed_10 : decode cX3_changeSeed 10 = .ok (.iload_n 2, 1) := by decide +kernel
theorem dX3_changeSeed_11 : decode cX3_changeSeed 11 = .ok (.ireturn, 1) := by decide +kernel
theorem dX3_draw_0 : decode cX3_draw 0 = .ok (.aload_n 0, 1) := by decide +kernel
theorem dX3_draw_1 : decode cX3_draw 1 = .ok (.ldc2_w 50, 3) := by decide +kernel
theorem dX3_draw_4 : decode cX3_draw 4 = .ok (.aload_n 0, 1) := by decide +kernel
theorem dX3_draw_5 : decode cX3_draw 5 = .ok (.getfield 37, 3) := by decide +kernel
theorem dX3_draw_8 : decode cX3_draw 8 = .ok (.i2l, 1) := by decide +kernel
theorem dX3_draw_9 : decode cX3_draw 9 = .ok (.lmul, 1) := by decide +kernel
theorem dX3_draw_10 : decode cX3_draw 10 = .ok (.ldc2_w 52, 3) := by decide +kernel
theorem dX3_draw_13 : decode cX3_draw 13 = .ok (.ladd, 1) := by decide +kernel
theorem dX3_draw_14 : decode cX3_draw 14 = .ok (.ldc2_w 54, 3) := by decide +kernel
theorem dX3_draw_17 : decode cX3_draw 17 = .ok (.lrem, 1) := by decide +kernel
theorem dX3_draw_18 : decode cX3_draw 18 = .ok (.l2i, 1) := by decide +kernel
theorem dX3_draw_19 : decode cX3_draw 19 = .ok (.putfield 37, 3) := by decide +kernel
theorem dX3_draw_22 : decode cX3_draw 22 = .ok (.iload_n 1, 1) := by decide +kernel
theorem dX3_draw_23 : decode cX3_draw 23 = .ok (.ifCond .le 15, 3) := by decide +kernel
theorem dX3_draw_26 : decode cX3_draw 26 = .ok (.aload_n 0, 1) := by decide +kernel
theorem dX3_draw_27 : decode cX3_draw 27 = .ok (.getfield 37, 3) := by decide +kernel
theorem dX3_draw_30 : decode cX3_draw 30 = .ok (.ldc 56, 2) := by decide +kernel
theorem dX3_draw_32 : decode cX3_draw 32 = .ok (.idiv, 1) := by decide +kernel
theorem dX3_draw_33 : decode cX3_draw 33 = .ok (.iload_n 1, 1) := by decide +kernel
theorem dX3_draw_34 : decode cX3_draw 34 = .ok (.irem, 1) := by decide +kernel
theorem dX3_draw_35 : decode cX3_draw 35 = .ok (.goto 4, 3) := by decide +kernel
theorem dX3_draw_38 : decode cX3_draw 38 = .ok (.iconst 0, 1) := by decide +kernel
theorem dX3_draw_39 : decode cX3_draw 39 = .ok (.ireturn, 1) := by decide +kernel
theorem dX3_isLostOn_0 : decode cX3_isLostOn 0 = .ok (.aload_n 0, 1) := by decide +kernel
theorem dX3_isLostOn_1 : decode cX3_isLostOn 1 = .ok (.bipush 100, 2) := by decide +kernel
theorem dX3_isLostOn_3 : decode cX3_isLostOn 3 = .ok (.invokevirtual 57, 3) := by decide +kernel
theorem dX3_isLostOn_6 : decode cX3_isLostOn 6 = .ok (.istore_n 2, 1) := by decide +kernel
theorem dX3_isLostOn_7 : decode cX3_isLostOn 7 = .ok (.iload_n 1, 1) := by decide +kernel
theorem dX3_isLostOn_8 : decode cX3_isLostOn 8 = .ok (.ifCond .lt 26, 3) := by decide +kernel
theorem dX3_isLostOn_11 : decode cX3_isLostOn 11 = .ok (.iload_n 1, 1) := by decide +kernel
theorem dX3_isLostOn_12 : decode cX3_isLostOn 12 = .ok (.aload_n 0, 1) := by decide +kernel
theorem dX3_isLostOn_13 : decode cX3_isLostOn 13 = .ok (.getfield 15, 3) := by decide +kernel
theorem dX3_isLostOn_16 : decode cX3_isLostOn 16 = .ok (.arraylength, 1) := by decide +kernel
theorem dX3_isLostOn_17 : decode cX3_isLostOn 17 = .ok (.if_icmp .ge 17, 3) := by decide +kernel
theorem dX3_isLostOn_20 : decode cX3_isLostOn 20 = .ok (.iload_n 2, 1) := by decide +kernel
theorem dX3_isLostOn_21 : decode cX3_isLostOn 21 = .ok (.aload_n 0, 1) := by decide +kernel
theorem dX3_isLostOn_22 : decode cX3_isLostOn 22 = .ok (.getfield 15, 3) := by decide +kernel
theorem dX3_isLostOn_25 : decode cX3_isLostOn 25 = .ok (.iload_n 1, 1) := by decide +kernel
theorem dX3_isLostOn_26 : decode cX3_isLostOn 26 = .ok (.iaload, 1) := by decide +kernel
theorem dX3_isLostOn_27 : decode cX3_isLostOn 27 = .ok (.if_icmp .ge 7, 3) := by decide +kernel
theorem dX3_isLostOn_30 : decode cX3_isLostOn 30 = .ok (.iconst 1, 1) := by decide +kernel
theorem dX3_isLostOn_31 : decode cX3_isLostOn 31 = .ok (.goto 4, 3) := by decide +kernel
theorem dX3_isLostOn_34 : decode cX3_isLostOn 34 = .ok (.iconst 0, 1) := by decide +kernel
theorem dX3_isLostOn_35 : decode cX3_isLostOn 35 = .ok (.ireturn, 1) := by decide +kernel
theorem dX3_weightSum_0 : decode cX3_weightSum 0 = .ok (.iconst 0, 1) := by decide +kernel
theorem dX3_weightSum_1 : decode cX3_weightSum 1 = .ok (.istore_n 1, 1) := by decide +kernel
theorem dX3_weightSum_2 : decode cX3_weightSum 2 = .ok (.iconst 1, 1) := by decide +kernel
theorem dX3_weightSum_3 : decode cX3_weightSum 3 = .ok (.istore_n 2, 1) := by decide +kernel
theorem dX3_weightSum_4 : decode cX3_weightSum 4 = .ok (.iload_n 2, 1) := by decide +kernel
theorem dX3_weightSum_5 : decode cX3_weightSum 5 = .ok (.aload_n 0, 1) := by decide +kernel
theorem dX3_weightSum_6 : decode cX3_weightSum 6 = .ok (.getfield 18, 3) := by decide +kernel
theorem dX3_weightSum_9 : decode cX3_weightSum 9 = .ok (.arraylength, 1) := by decide +kernel
theorem dX3_weightSum_10 : decode cX3_weightSum 10 = .ok (.if_icmp .ge 18, 3) := by decide +kernel
theorem dX3_weightSum_13 : decode cX3_weightSum 13 = .ok (.iload_n 1, 1) := by decide +kernel
theorem dX3_weightSum_14 : decode cX3_weightSum 14 = .ok (.aload_n 0, 1) := by decide +kernel
theorem dX3_weightSum_15 : decode cX3_weightSum 15 = .ok (.getfield 18, 3) := by decide +kernel
theorem dX3_weightSum_18 : decode cX3_weightSum 18 = .ok (.iload_n 2, 1) := by decide +kernel
theorem dX3_weightSum_19 : decode cX3_weightSum 19 = .ok (.iaload, 1) := by decide +kernel
theorem dX3_weightSum_20 : decode cX3_weightSum 20 = .ok (.iadd, 1) := by decide +kernel
theorem dX3_weightSum_21 : decode cX3_weightSum 21 = .ok (.istore_n 1, 1) := by decide +kernel
theorem dX3_weightSum_22 : decode cX3_weightSum 22 = .ok (.iinc 2 1, 3) := by decide +kernel
theorem dX3_weightSum_25 : decode cX3_weightSum 25 = .ok (.goto (-21), 3) := by decide +kernel
theorem dX3_weightSum_28 : decode cX3_weightSum 28 = .ok (.iload_n 1, 1) := by decide +kernel
theorem dX3_weightSum_29 : decode cX3_weightSum 29 = .ok (.ireturn, 1) := by decide +kernel
theorem dX3_drawDegree_0 : decode cX3_drawDegree 0 = .ok (.aload_n 0, 1) := by decide +kernel
theorem dX3_drawDegree_1 : decode cX3_drawDegree 1 = .ok (.aload_n 0, 1) := by decide +kernel
theorem dX3_drawDegree_2 : decode cX3_drawDegree 2 = .ok (.invokevirtual 61, 3) := by decide +kernel
theorem dX3_drawDegree_5 : decode cX3_drawDegree 5 = .ok (.invokevirtual 57, 3) := by decide +kernel
theorem dX3_drawDegree_8 : decode cX3_drawDegree 8 = .ok (.istore_n 1, 1) := by decide +kernel
theorem dX3_drawDegree_9 : decode cX3_drawDegree 9 = .ok (.iconst 0, 1) := by decide +kernel
theorem dX3_drawDegree_10 : decode cX3_drawDegree 10 = .ok (.istore_n 2, 1) := by decide +kernel
theorem dX3_drawDegree_11 : decode cX3_drawDegree 11 = .ok (.iconst 1, 1) := by decide +kernel
theorem dX3_drawDegree_12 : decode cX3_drawDegree 12 = .ok (.istore_n 3, 1) := by decide +kernel
theorem dX3_drawDegree_13 : decode cX3_drawDegree 13 = .ok (.iload_n 3, 1) := by decide +kernel
theorem dX3_drawDegree_14 : decode cX3_drawDegree 14 = .ok (.aload_n 0, 1) := by decide +kernel
theorem dX3_drawDegree_15 : decode cX3_drawDegree 15 = .ok (.getfield 18, 3) := by decide +kernel
theorem dX3_drawDegree_18 : decode cX3_drawDegree 18 = .ok (.arraylength, 1) := by decide +kernel
theorem dX3_drawDegree_19 : decode cX3_drawDegree 19 = .ok (.if_icmp .ge 32, 3) := by decide +kernel
theorem dX3_drawDegree_22 : decode cX3_drawDegree 22 = .ok (.iload_n 2, 1) := by decide +kernel
theorem dX3_drawDegree_23 : decode cX3_drawDegree 23 = .ok (.aload_n 0, 1) := by decide +kernel
theorem dX3_drawDegree_24 : decode cX3_drawDegree 24 = .ok (.getfield 18, 3) := by decide +kernel
theorem dX3_drawDegree_27 : decode cX3_drawDegree 27 = .ok (.iload_n 3, 1) := by decide +kernel
theorem dX3_drawDegree_28 : decode cX3_drawDegree 28 = .ok (.iaload, 1) := by decide +kernel
theorem dX3_drawDegree_29 : decode cX3_drawDegree 29 = .ok (.iadd, 1) := by decide +kernel
theorem dX3_drawDegree_30 : decode cX3_drawDegree 30 = .ok (.istore_n 2, 1) := by decide +kernel
theorem dX3_drawDegree_31 : decode cX3_drawDegree 31 = .ok (.iload_n 2, 1) := by decide +kernel
theorem dX3_drawDegree_32 : decode cX3_drawDegree 32 = .ok (.iload_n 1, 1) := by decide +kernel
theorem dX3_drawDegree_33 : decode cX3_drawDegree 33 = .ok (.if_icmp .le 12, 3) := by decide +kernel
theorem dX3_drawDegree_36 : decode cX3_drawDegree 36 = .ok (.iload_n 3, 1) := by decide +kernel
theorem dX3_drawDegree_37 : decode cX3_drawDegree 37 = .ok (.aload_n 0, 1) := by decide +kernel
theorem dX3_drawDegree_38 : decode cX3_drawDegree 38 = .ok (.getfield 21, 3) := by decide +kernel
theorem dX3_drawDegree_41 : decode cX3_drawDegree 41 = .ok (.invokestatic 65, 3) := by decide +kernel
theorem dX3_drawDegree_44 : decode cX3_drawDegree 44 = .ok (.ireturn, 1) := by decide +kernel
theorem dX3_drawDegree_45 : decode cX3_drawDegree 45 = .ok (.iinc 3 1, 3) := by decide +kernel
theorem dX3_drawDegree_48 : decode cX3_drawDegree 48 = .ok (.goto (-35), 3) := by decide +kernel
theorem dX3_drawDegree_51 : decode cX3_drawDegree 51 = .ok (.aload_n 0, 1) := by decide +kernel
theorem dX3_drawDegree_52 : decode cX3_drawDegree 52 = .ok (.getfield 21, 3) := by decide +kernel
theorem dX3_drawDegree_55 : decode cX3_drawDegree 55 = .ok (.ireturn, 1) := by decide +kernel
theorem dX3_drawPacket_0 : decode cX3_drawPacket 0 = .ok (.aload_n 0, 1) := by decide +kernel
theorem dX3_drawPacket_1 : decode cX3_drawPacket 1 = .ok (.invokevirtual 71, 3) := by decide +kernel
theorem dX3_drawPacket_4 : decode cX3_drawPacket 4 = .ok (.istore_n 1, 1) := by decide +kernel
theorem dX3_drawPacket_5 : decode cX3_drawPacket 5 = .ok (.iconst 0, 1) := by decide +kernel
theorem dX3_drawPacket_6 : decode cX3_drawPacket 6 = .ok (.istore_n 2, 1) := by decide +kernel
theorem dX3_drawPacket_7 : decode cX3_drawPacket 7 = .ok (.iconst 0, 1) := by decide +kernel
theorem dX3_drawPacket_8 : decode cX3_drawPacket 8 = .ok (.istore_n 3, 1) := by decide +kernel
theorem dX3_drawPacket_9 : decode cX3_drawPacket 9 = .ok (.iload_n 3, 1) := by decide +kernel
theorem dX3_drawPacket_10 : decode cX3_drawPacket 10 = .ok (.aload_n 0, 1) := by decide +kernel
theorem dX3_drawPacket_11 : decode cX3_drawPacket 11 = .ok (.getfield 21, 3) := by decide +kernel
theorem dX3_drawPacket_14 : decode cX3_drawPacket 14 = .ok (.if_icmp .ge 32, 3) := by decide +kernel
theorem dX3_drawPacket_17 : decode cX3_drawPacket 17 = .ok (.aload_n 0, 1) := by decide +kernel
theorem dX3_drawPacket_18 : decode cX3_drawPacket 18 = .ok (.aload_n 0, 1) := by decide +kernel
theorem dX3_drawPacket_19 : decode cX3_drawPacket 19 = .ok (.getfield 21, 3) := by decide +kernel
theorem dX3_drawPacket_22 : decode cX3_drawPacket 22 = .ok (.iload_n 3, 1) := by decide +kernel
theorem dX3_drawPacket_23 : decode cX3_drawPacket 23 = .ok (.isub, 1) := by decide +kernel
theorem dX3_drawPacket_24 : decode cX3_drawPacket 24 = .ok (.invokevirtual 57, 3) := by decide +kernel
theorem dX3_drawPacket_27 : decode cX3_drawPacket 27 = .ok (.iload_n 1, 1) := by decide +kernel
theorem dX3_drawPacket_28 : decode cX3_drawPacket 28 = .ok (.if_icmp .ge 12, 3) := by decide +kernel
theorem dX3_drawPacket_31 : decode cX3_drawPacket 31 = .ok (.iload_n 2, 1) := by decide +kernel
theorem dX3_drawPacket_32 : decode cX3_drawPacket 32 = .ok (.iconst 1, 1) := by decide +kernel
theorem dX3_drawPacket_33 : decode cX3_drawPacket 33 = .ok (.iload_n 3, 1) := by decide +kernel
theorem dX3_drawPacket_34 : decode cX3_drawPacket 34 = .ok (.ishl, 1) := by decide +kernel
theorem dX3_drawPacket_35 : decode cX3_drawPacket 35 = .ok (.ior, 1) := by decide +kernel
theorem dX3_drawPacket_36 : decode cX3_drawPacket 36 = .ok (.istore_n 2, 1) := by decide +kernel
theorem dX3_drawPacket_37 : decode cX3_drawPacket 37 = .ok (.iinc 1 (-1), 3) := by decide +kernel
theorem dX3_drawPacket_40 : decode cX3_drawPacket 40 = .ok (.iinc 3 1, 3) := by decide +kernel
theorem dX3_drawPacket_43 : decode cX3_drawPacket 43 = .ok (.goto (-34), 3) := by decide +kernel
theorem dX3_drawPacket_46 : decode cX3_drawPacket 46 = .ok (.aload_n 0, 1) := by decide +kernel
theorem dX3_drawPacket_47 : decode cX3_drawPacket 47 = .ok (.iload_n 2, 1) := by decide +kernel
theorem dX3_drawPacket_48 : decode cX3_drawPacket 48 = .ok (.invokevirtual 74, 3) := by decide +kernel
theorem dX3_drawPacket_51 : decode cX3_drawPacket 51 = .ok (.ireturn, 1) := by decide +kernel
theorem dX3_packetOf_0 : decode cX3_packetOf 0 = .ok (.iconst 0, 1) := by decide +kernel
theorem dX3_packetOf_1 : decode cX3_packetOf 1 = .ok (.istore_n 2, 1) := by decide +kernel
theorem dX3_packetOf_2 : decode cX3_packetOf 2 = .ok (.iconst 0, 1) := by decide +kernel
theorem dX3_packetOf_3 : decode cX3_packetOf 3 = .ok (.istore_n 3, 1) := by decide +kernel
theorem dX3_packetOf_4 : decode cX3_packetOf 4 = .ok (.iload_n 3, 1) := by decide +kernel
theorem dX3_packetOf_5 : decode cX3_packetOf 5 = .ok (.aload_n 0, 1) := by decide +kernel
theorem dX3_packetOf_6 : decode cX3_packetOf 6 = .ok (.getfield 21, 3) := by decide +kernel
theorem dX3_packetOf_9 : decode cX3_packetOf 9 = .ok (.if_icmp .ge 39, 3) := by decide +kernel
theorem dX3_packetOf_12 : decode cX3_packetOf 12 = .ok (.iload_n 3, 1) := by decide +kernel
theorem dX3_packetOf_13 : decode cX3_packetOf 13 = .ok (.aload_n 0, 1) := by decide +kernel
theorem dX3_packetOf_14 : decode cX3_packetOf 14 = .ok (.getfield 9, 3) := by decide +kernel
theorem dX3_packetOf_17 : decode cX3_packetOf 17 = .ok (.arraylength, 1) := by decide +kernel
theorem dX3_packetOf_18 : decode cX3_packetOf 18 = .ok (.if_icmp .ge 30, 3) := by decide +kernel
theorem dX3_packetOf_21 : decode cX3_packetOf 21 = .ok (.iload_n 1, 1) := by decide +kernel
theorem dX3_packetOf_22 : decode cX3_packetOf 22 = .ok (.iload_n 3, 1) := by decide +kernel
theorem dX3_packetOf_23 : decode cX3_packetOf 23 = .ok (.ishr, 1) := by decide +kernel
theorem dX3_packetOf_24 : decode cX3_packetOf 24 = .ok (.iconst 1, 1) := by decide +kernel
theorem dX3_packetOf_25 : decode cX3_packetOf 25 = .ok (.iand, 1) := by decide +kernel
theorem dX3_packetOf_26 : decode cX3_packetOf 26 = .ok (.ifCond .eq 16, 3) := by decide +kernel
theorem dX3_packetOf_29 : decode cX3_packetOf 29 = .ok (.iload_n 2, 1) := by decide +kernel
theorem dX3_packetOf_30 : decode cX3_packetOf 30 = .ok (.iload_n 3, 1) := by decide +kernel
theorem dX3_packetOf_31 : decode cX3_packetOf 31 = .ok (.aload_n 0, 1) := by decide +kernel
theorem dX3_packetOf_32 : decode cX3_packetOf 32 = .ok (.getfield 9, 3) := by decide +kernel
theorem dX3_packetOf_35 : decode cX3_packetOf 35 = .ok (.iload_n 3, 1) := by decide +kernel
theorem dX3_packetOf_36 : decode cX3_packetOf 36 = .ok (.iaload, 1) := by decide +kernel
theorem dX3_packetOf_37 : decode cX3_packetOf 37 = .ok (.invokestatic 77, 3) := by decide +kernel
theorem dX3_packetOf_40 : decode cX3_packetOf 40 = .ok (.ixor, 1) := by decide +kernel
theorem dX3_packetOf_41 : decode cX3_packetOf 41 = .ok (.istore_n 2, 1) := by decide +kernel
theorem dX3_packetOf_42 : decode cX3_packetOf 42 = .ok (.iinc 3 1, 3) := by decide +kernel
theorem dX3_packetOf_45 : decode cX3_packetOf 45 = .ok (.goto (-41), 3) := by decide +kernel
theorem dX3_packetOf_48 : decode cX3_packetOf 48 = .ok (.iload_n 2, 1) := by decide +kernel
theorem dX3_packetOf_49 : decode cX3_packetOf 49 = .ok (.ireturn, 1) := by decide +kernel
theorem dX3_copyFrom_0 : decode cX3_copyFrom 0 = .ok (.aload_n 1, 1) := by decide +kernel
theorem dX3_copyFrom_1 : decode cX3_copyFrom 1 = .ok (.getfield 9, 3) := by decide +kernel
theorem dX3_copyFrom_4 : decode cX3_copyFrom 4 = .ok (.aload_n 0, 1) := by decide +kernel
theorem dX3_copyFrom_5 : decode cX3_copyFrom 5 = .ok (.getfield 9, 3) := by decide +kernel
theorem dX3_copyFrom_8 : decode cX3_copyFrom 8 = .ok (.invokestatic 43, 3) := by decide +kernel
theorem dX3_copyFrom_11 : decode cX3_copyFrom 11 = .ok (.aload_n 1, 1) := by decide +kernel
theorem dX3_copyFrom_12 : decode cX3_copyFrom 12 = .ok (.getfield 15, 3) := by decide +kernel
theorem dX3_copyFrom_15 : decode cX3_copyFrom 15 = .ok (.aload_n 0, 1) := by decide +kernel
theorem dX3_copyFrom_16 : decode cX3_copyFrom 16 = .ok (.getfield 15, 3) := by decide +kernel
theorem dX3_copyFrom_19 : decode cX3_copyFrom 19 = .ok (.invokestatic 43, 3) := by decide +kernel
theorem dX3_copyFrom_22 : decode cX3_copyFrom 22 = .ok (.aload_n 1, 1) := by decide +kernel
theorem dX3_copyFrom_23 : decode cX3_copyFrom 23 = .ok (.getfield 18, 3) := by decide +kernel
theorem dX3_copyFrom_26 : decode cX3_copyFrom 26 = .ok (.aload_n 0, 1) := by decide +kernel
theorem dX3_copyFrom_27 : decode cX3_copyFrom 27 = .ok (.getfield 18, 3) := by decide +kernel
theorem dX3_copyFrom_30 : decode cX3_copyFrom 30 = .ok (.invokestatic 43, 3) := by decide +kernel
theorem dX3_copyFrom_33 : decode cX3_copyFrom 33 = .ok (.aload_n 0, 1) := by decide +kernel
theorem dX3_copyFrom_34 : decode cX3_copyFrom 34 = .ok (.aload_n 1, 1) := by decide +kernel
theorem dX3_copyFrom_35 : decode cX3_copyFrom 35 = .ok (.getfield 21, 3) := by decide +kernel
theorem dX3_copyFrom_38 : decode cX3_copyFrom 38 = .ok (.putfield 21, 3) := by decide +kernel
theorem dX3_copyFrom_41 : decode cX3_copyFrom 41 = .ok (.aload_n 0, 1) := by decide +kernel
theorem dX3_copyFrom_42 : decode cX3_copyFrom 42 = .ok (.aload_n 1, 1) := by decide +kernel
theorem dX3_copyFrom_43 : decode cX3_copyFrom 43 = .ok (.getfield 25, 3) := by decide +kernel
theorem dX3_copyFrom_46 : decode cX3_copyFrom 46 = .ok (.putfield 25, 3) := by decide +kernel
theorem dX3_copyFrom_49 : decode cX3_copyFrom 49 = .ok (.aload_n 0, 1) := by decide +kernel
theorem dX3_copyFrom_50 : decode cX3_copyFrom 50 = .ok (.aload_n 1, 1) := by decide +kernel
theorem dX3_copyFrom_51 : decode cX3_copyFrom 51 = .ok (.getfield 28, 3) := by decide +kernel
theorem dX3_copyFrom_54 : decode cX3_copyFrom 54 = .ok (.putfield 28, 3) := by decide +kernel
theorem dX3_copyFrom_57 : decode cX3_copyFrom 57 = .ok (.aload_n 0, 1) := by decide +kernel
theorem dX3_copyFrom_58 : decode cX3_copyFrom 58 = .ok (.aload_n 1, 1) := by decide +kernel
theorem dX3_copyFrom_59 : decode cX3_copyFrom 59 = .ok (.getfield 31, 3) := by decide +kernel
theorem dX3_copyFrom_62 : decode cX3_copyFrom 62 = .ok (.putfield 31, 3) := by decide +kernel
theorem dX3_copyFrom_65 : decode cX3_copyFrom 65 = .ok (.aload_n 0, 1) := by decide +kernel
theorem dX3_copyFrom_66 : decode cX3_copyFrom 66 = .ok (.aload_n 1, 1) := by decide +kernel
theorem dX3_copyFrom_67 : decode cX3_copyFrom 67 = .ok (.getfield 34, 3) := by decide +kernel
theorem dX3_copyFrom_70 : decode cX3_copyFrom 70 = .ok (.putfield 34, 3) := by decide +kernel
theorem dX3_copyFrom_73 : decode cX3_copyFrom 73 = .ok (.aload_n 0, 1) := by decide +kernel
theorem dX3_copyFrom_74 : decode cX3_copyFrom 74 = .ok (.aload_n 1, 1) := by decide +kernel
theorem dX3_copyFrom_75 : decode cX3_copyFrom 75 = .ok (.getfield 37, 3) := by decide +kernel
theorem dX3_copyFrom_78 : decode cX3_copyFrom 78 = .ok (.putfield 37, 3) := by decide +kernel
theorem dX3_copyFrom_81 : decode cX3_copyFrom 81 = .ok (.return_, 1) := by decide +kernel
theorem dX4_init_0 : decode cX4_init 0 = .ok (.aload_n 0, 1) := by decide +kernel
theorem dX4_init_1 : decode cX4_init 1 = .ok (.invokespecial 3, 3) := by decide +kernel
theorem dX4_init_4 : decode cX4_init 4 = .ok (.aload_n 0, 1) := by decide +kernel
theorem dX4_init_5 : decode cX4_init 5 = .ok (.bipush 12, 2) := by decide +kernel
theorem dX4_init_7 : decode cX4_init 7 = .ok (.newarray .int, 2) := by decide +kernel
theorem dX4_init_9 : decode cX4_init 9 = .ok (.putfield 9, 3) := by decide +kernel
theorem dX4_init_12 : decode cX4_init 12 = .ok (.aload_n 0, 1) := by decide +kernel
theorem dX4_init_13 : decode cX4_init 13 = .ok (.iconst 0, 1) := by decide +kernel
theorem dX4_init_14 : decode cX4_init 14 = .ok (.putfield 15, 3) := by decide +kernel
theorem dX4_init_17 : decode cX4_init 17 = .ok (.return_, 1) := by decide +kernel
theorem dX4_take_0 : decode cX4_take 0 = .ok (.iload_n 1, 1) := by decide +kernel
theorem dX4_take_1 : decode cX4_take 1 = .ok (.istore_n 2, 1) := by decide +kernel
theorem dX4_take_2 : decode cX4_take 2 = .ok (.aload_n 0, 1) := by decide +kernel
theorem dX4_take_3 : decode cX4_take 3 = .ok (.getfield 9, 3) := by decide +kernel
theorem dX4_take_6 : decode cX4_take 6 = .ok (.arraylength, 1) := by decide +kernel
theorem dX4_take_7 : decode cX4_take 7 = .ok (.iconst 1, 1) := by decide +kernel
theorem dX4_take_8 : decode cX4_take 8 = .ok (.isub, 1) := by decide +kernel
theorem dX4_take_9 : decode cX4_take 9 = .ok (.istore_n 3, 1) := by decide +kernel
theorem dX4_take_10 : decode cX4_take 10 = .ok (.iload_n 3, 1) := by decide +kernel
theorem dX4_take_11 : decode cX4_take 11 = .ok (.ifCond .lt 64, 3) := by decide +kernel
theorem dX4_take_14 : decode cX4_take 14 = .ok (.iconst 1, 1) := by decide +kernel
theorem dX4_take_15 : decode cX4_take 15 = .ok (.bipush 8, 2) := by decide +kernel
theorem dX4_take_17 : decode cX4_take 17 = .ok (.iload_n 3, 1) := by decide +kernel
theorem dX4_take_18 : decode cX4_take 18 = .ok (.iadd, 1) := by decide +kernel
theorem dX4_take_19 : decode cX4_take 19 = .ok (.ishl, 1) := by decide +kernel
theorem dX4_take_20 : decode cX4_take 20 = .ok (.istore 4, 2) := by decide +kernel
theorem dX4_take_22 : decode cX4_take 22 = .ok (.iload_n 2, 1) := by decide +kernel
theorem dX4_take_23 : decode cX4_take 23 = .ok (.iload 4, 2) := by decide +kernel
theorem dX4_take_25 : decode cX4_take 25 = .ok (.iand, 1) := by decide +kernel
theorem dX4_take_26 : decode cX4_take 26 = .ok (.ifCond .ne 6, 3) := by decide +kernel
theorem dX4_take_29 : decode cX4_take 29 = .ok (.goto 40, 3) := by decide +kernel
theorem dX4_take_32 : decode cX4_take 32 = .ok (.aload_n 0, 1) := by decide +kernel
theorem dX4_take_33 : decode cX4_take 33 = .ok (.getfield 9, 3) := by decide +kernel
theorem dX4_take_36 : decode cX4_take 36 = .ok (.iload_n 3, 1) := by decide +kernel
theorem dX4_take_37 : decode cX4_take 37 = .ok (.iaload, 1) := by decide +kernel
theorem dX4_take_38 : decode cX4_take 38 = .ok (.ifCond .ne 22, 3) := by decide +kernel
theorem dX4_take_41 : decode cX4_take 41 = .ok (.aload_n 0, 1) := by decide +kernel
theorem dX4_take_42 : decode cX4_take 42 = .ok (.getfield 9, 3) := by decide +kernel
theorem dX4_take_45 : decode cX4_take 45 = .ok (.iload_n 3, 1) := by decide +kernel
theorem dX4_take_46 : decode cX4_take 46 = .ok (.iload_n 2, 1) := by decide +kernel
theorem dX4_take_47 : decode cX4_take 47 = .ok (.iastore, 1) := by decide +kernel
theorem dX4_take_48 : decode cX4_take 48 = .ok (.aload_n 0, 1) := by decide +kernel
theorem dX4_take_49 : decode cX4_take 49 = .ok (.dup, 1) := by decide +kernel
theorem dX4_take_50 : decode cX4_take 50 = .ok (.getfield 15, 3) := by decide +kernel
theorem dX4_take_53 : decode cX4_take 53 = .ok (.iconst 1, 1) := by decide +kernel
theorem dX4_take_54 : decode cX4_take 54 = .ok (.iadd, 1) := by decide +kernel
theorem dX4_take_55 : decode cX4_take 55 = .ok (.putfield 15, 3) := by decide +kernel
theorem dX4_take_58 : decode cX4_take 58 = .ok (.iconst 1, 1) := by decide +kernel
theorem dX4_take_59 : decode cX4_take 59 = .ok (.ireturn, 1) := by decide +kernel
theorem dX4_take_60 : decode cX4_take 60 = .ok (.iload_n 2, 1) := by decide +kernel
theorem dX4_take_61 : decode cX4_take 61 = .ok (.aload_n 0, 1) := by decide +kernel
theorem dX4_take_62 : decode cX4_take 62 = .ok (.getfield 9, 3) := by decide +kernel
theorem dX4_take_65 : decode cX4_take 65 = .ok (.iload_n 3, 1) := by decide +kernel
theorem dX4_take_66 : decode cX4_take 66 = .ok (.iaload, 1) := by decide +kernel
theorem dX4_take_67 : decode cX4_take 67 = .ok (.ixor, 1) := by decide +kernel
theorem dX4_take_68 : decode cX4_take 68 = .ok (.istore_n 2, 1) := by decide +kernel
theorem dX4_take_69 : decode cX4_take 69 = .ok (.iinc 3 (-1), 3) := by decide +kernel
theorem dX4_take_72 : decode cX4_take 72 = .ok (.goto (-62), 3) := by decide +kernel
theorem dX4_take_75 : decode cX4_take 75 = .ok (.iconst 0, 1) := by decide +kernel
theorem dX4_take_76 : decode cX4_take 76 = .ok (.ireturn, 1) := by decide +kernel
theorem dX4_reduce_0 : decode cX4_reduce 0 = .ok (.iload_n 1, 1) := by decide +kernel
theorem dX4_reduce_1 : decode cX4_reduce 1 = .ok (.istore_n 2, 1) := by decide +kernel
theorem dX4_reduce_2 : decode cX4_reduce 2 = .ok (.aload_n 0, 1) := by decide +kernel
theorem dX4_reduce_3 : decode cX4_reduce 3 = .ok (.getfield 9, 3) := by decide +kernel
theorem dX4_reduce_6 : decode cX4_reduce 6 = .ok (.arraylength, 1) := by decide +kernel
theorem dX4_reduce_7 : decode cX4_reduce 7 = .ok (.iconst 1, 1) := by decide +kernel
theorem dX4_reduce_8 : decode cX4_reduce 8 = .ok (.isub, 1) := by decide +kernel
theorem dX4_reduce_9 : decode cX4_reduce 9 = .ok (.istore_n 3, 1) := by decide +kernel
theorem dX4_reduce_10 : decode cX4_reduce 10 = .ok (.iload_n 3, 1) := by decide +kernel
theorem dX4_reduce_11 : decode cX4_reduce 11 = .ok (.ifCond .lt 33, 3) := by decide +kernel
theorem dX4_reduce_14 : decode cX4_reduce 14 = .ok (.iconst 1, 1) := by decide +kernel
theorem dX4_reduce_15 : decode cX4_reduce 15 = .ok (.bipush 8, 2) := by decide +kernel
theorem dX4_reduce_17 : decode cX4_reduce 17 = .ok (.iload_n 3, 1) := by decide +kernel
theorem dX4_reduce_18 : decode cX4_reduce 18 = .ok (.iadd, 1) := by decide +kernel
theorem dX4_reduce_19 : decode cX4_reduce 19 = .ok (.ishl, 1) := by decide +kernel
theorem dX4_reduce_20 : decode cX4_reduce 20 = .ok (.istore 4, 2) := by decide +kernel
theorem dX4_reduce_22 : decode cX4_reduce 22 = .ok (.iload_n 2, 1) := by decide +kernel
theorem dX4_reduce_23 : decode cX4_reduce 23 = .ok (.iload 4, 2) := by decide +kernel
theorem dX4_reduce_25 : decode cX4_reduce 25 = .ok (.iand, 1) := by decide +kernel
theorem dX4_reduce_26 : decode cX4_reduce 26 = .ok (.ifCond .eq 12, 3) := by decide +kernel
theorem dX4_reduce_29 : decode cX4_reduce 29 = .ok (.iload_n 2, 1) := by decide +kernel
theorem dX4_reduce_30 : decode cX4_reduce 30 = .ok (.aload_n 0, 1) := by decide +kernel
theorem dX4_reduce_31 : decode cX4_reduce 31 = .ok (.getfield 9, 3) := by decide +kernel
theorem dX4_reduce_34 : decode cX4_reduce 34 = .ok (.iload_n 3, 1) := by decide +kernel
theorem dX4_reduce_35 : decode cX4_reduce 35 = .ok (.iaload, 1) := by decide +kernel
theorem dX4_reduce_36 : decode cX4_reduce 36 = .ok (.ixor, 1) := by decide +kernel
theorem dX4_reduce_37 : decode cX4_reduce 37 = .ok (.istore_n 2, 1) := by decide +kernel
theorem dX4_reduce_38 : decode cX4_reduce 38 = .ok (.iinc 3 (-1), 3) := by decide +kernel
theorem dX4_reduce_41 : decode cX4_reduce 41 = .ok (.goto (-31), 3) := by decide +kernel
theorem dX4_reduce_44 : decode cX4_reduce 44 = .ok (.iload_n 2, 1) := by decide +kernel
theorem dX4_reduce_45 : decode cX4_reduce 45 = .ok (.ireturn, 1) := by decide +kernel
theorem dX4_clear_0 : decode cX4_clear 0 = .ok (.iconst 0, 1) := by decide +kernel
theorem dX4_clear_1 : decode cX4_clear 1 = .ok (.istore_n 1, 1) := by decide +kernel
theorem dX4_clear_2 : decode cX4_clear 2 = .ok (.iload_n 1, 1) := by decide +kernel
theorem dX4_clear_3 : decode cX4_clear 3 = .ok (.aload_n 0, 1) := by decide +kernel
theorem dX4_clear_4 : decode cX4_clear 4 = .ok (.getfield 9, 3) := by decide +kernel
theorem dX4_clear_7 : decode cX4_clear 7 = .ok (.arraylength, 1) := by decide +kernel
theorem dX4_clear_8 : decode cX4_clear 8 = .ok (.if_icmp .ge 16, 3) := by decide +kernel
theorem dX4_clear_11 : decode cX4_clear 11 = .ok (.aload_n 0, 1) := by decide +kernel
theorem dX4_clear_12 : decode cX4_clear 12 = .ok (.getfield 9, 3) := by decide +kernel
theorem dX4_clear_15 : decode cX4_clear 15 = .ok (.iload_n 1, 1) := by decide +kernel
theorem dX4_clear_16 : decode cX4_clear 16 = .ok (.iconst 0, 1) := by decide +kernel
theorem dX4_clear_17 : decode cX4_clear 17 = .ok (.iastore, 1) := by decide +kernel
theorem dX4_clear_18 : decode cX4_clear 18 = .ok (.iinc 1 1, 3) := by decide +kernel
theorem dX4_clear_21 : decode cX4_clear 21 = .ok (.goto (-19), 3) := by decide +kernel
theorem dX4_clear_24 : decode cX4_clear 24 = .ok (.aload_n 0, 1) := by decide +kernel
theorem dX4_clear_25 : decode cX4_clear 25 = .ok (.iconst 0, 1) := by decide +kernel
theorem dX4_clear_26 : decode cX4_clear 26 = .ok (.putfield 15, 3) := by decide +kernel
theorem dX4_clear_29 : decode cX4_clear 29 = .ok (.return_, 1) := by decide +kernel
theorem dX4_copyFrom_0 : decode cX4_copyFrom 0 = .ok (.aload_n 1, 1) := by decide +kernel
theorem dX4_copyFrom_1 : decode cX4_copyFrom 1 = .ok (.getfield 9, 3) := by decide +kernel
theorem dX4_copyFrom_4 : decode cX4_copyFrom 4 = .ok (.aload_n 0, 1) := by decide +kernel
theorem dX4_copyFrom_5 : decode cX4_copyFrom 5 = .ok (.getfield 9, 3) := by decide +kernel
theorem dX4_copyFrom_8 : decode cX4_copyFrom 8 = .ok (.invokestatic 19, 3) := by decide +kernel
theorem dX4_copyFrom_11 : decode cX4_copyFrom 11 = .ok (.aload_n 0, 1) := by decide +kernel
theorem dX4_copyFrom_12 : decode cX4_copyFrom 12 = .ok (.aload_n 1, 1) := by decide +kernel
theorem dX4_copyFrom_13 : decode cX4_copyFrom 13 = .ok (.getfield 15, 3) := by decide +kernel
theorem dX4_copyFrom_16 : decode cX4_copyFrom 16 = .ok (.putfield 15, 3) := by decide +kernel
theorem dX4_copyFrom_19 : decode cX4_copyFrom 19 = .ok (.return_, 1) := by decide +kernel
theorem dX5_init_0 : decode cX5_init 0 = .ok (.aload_n 0, 1) := by decide +kernel
theorem dX5_init_1 : decode cX5_init 1 = .ok (.invokespecial 3, 3) := by decide +kernel
theorem dX5_init_4 : decode cX5_init 4 = .ok (.aload_n 0, 1) := by decide +kernel
theorem dX5_init_5 : decode cX5_init 5 = .ok (.new 9, 3) := by decide +kernel
theorem dX5_init_8 : decode cX5_init 8 = .ok (.dup, 1) := by decide +kernel
theorem dX5_init_9 : decode cX5_init 9 = .ok (.invokespecial 11, 3) := by decide +kernel
theorem dX5_init_12 : decode cX5_init 12 = .ok (.putfield 12, 3) := by decide +kernel
theorem dX5_init_15 : decode cX5_init 15 = .ok (.aload_n 0, 1) := by decide +kernel
theorem dX5_init_16 : decode cX5_init 16 = .ok (.iconst 3, 1) := by decide +kernel
theorem dX5_init_17 : decode cX5_init 17 = .ok (.anewarray 18, 3) := by decide +kernel
theorem dX5_init_20 : decode cX5_init 20 = .ok (.putfield 20, 3) := by decide +kernel
theorem dX5_init_23 : decode cX5_init 23 = .ok (.aload_n 0, 1) := by decide +kernel
theorem dX5_init_24 : decode cX5_init 24 = .ok (.new 24, 3) := by decide +kernel
theorem dX5_init_27 : decode cX5_init 27 = .ok (.dup, 1) := by decide +kernel
theorem dX5_init_28 : decode cX5_init 28 = .ok (.invokespecial 26, 3) := by decide +kernel
theorem dX5_init_31 : decode cX5_init 31 = .ok (.putfield 27, 3) := by decide +kernel
theorem dX5_init_34 : decode cX5_init 34 = .ok (.aload_n 0, 1) := by decide +kernel
theorem dX5_init_35 : decode cX5_init 35 = .ok (.iconst 0, 1) := by decide +kernel
theorem dX5_init_36 : decode cX5_init 36 = .ok (.putfield 31, 3) := by decide +kernel
theorem dX5_init_39 : decode cX5_init 39 = .ok (.aload_n 0, 1) := by decide +kernel
theorem dX5_init_40 : decode cX5_init 40 = .ok (.iconst 0, 1) := by decide +kernel
theorem dX5_init_41 : decode cX5_init 41 = .ok (.putfield 35, 3) := by decide +kernel
theorem dX5_init_44 : decode cX5_init 44 = .ok (.aload_n 0, 1) := by decide +kernel
theorem dX5_init_45 : decode cX5_init 45 = .ok (.iconst 0, 1) := by decide +kernel
theorem dX5_init_46 : decode cX5_init 46 = .ok (.putfield 38, 3) := by decide +kernel
theorem dX5_init_49 : decode cX5_init 49 = .ok (.aload_n 0, 1) := by decide +kernel
theorem dX5_init_50 : decode cX5_init 50 = .ok (.iconst 4, 1) := by decide +kernel
theorem dX5_init_51 : decode cX5_init 51 = .ok (.newarray .int, 2) := by decide +kernel
theorem dX5_init_53 : decode cX5_init 53 = .ok (.putfield 41, 3) := by decide +kernel
theorem dX5_init_56 : decode cX5_init 56 = .ok (.aload_n 0, 1) := by decide +kernel
theorem dX5_init_57 : decode cX5_init 57 = .ok (.new 45, 3) := by decide +kernel
theorem dX5_init_60 : decode cX5_init 60 = .ok (.dup, 1) := by decide +kernel
theorem dX5_init_61 : decode cX5_init 61 = .ok (.invokespecial 47, 3) := by decide +kernel
theorem dX5_init_64 : decode cX5_init 64 = .ok (.putfield 48, 3) := by decide +kernel
theorem dX5_init_67 : decode cX5_init 67 = .ok (.iconst 0, 1) := by decide +kernel
theorem dX5_init_68 : decode cX5_init 68 = .ok (.istore_n 1, 1) := by decide +kernel
theorem dX5_init_69 : decode cX5_init 69 = .ok (.iload_n 1, 1) := by decide +kernel
theorem dX5_init_70 : decode cX5_init 70 = .ok (.aload_n 0, 1) := by decide +kernel
theorem dX5_init_71 : decode cX5_init 71 = .ok (.getfield 20, 3) := by decide +kernel
theorem dX5_init_74 : decode cX5_init 74 = .ok (.arraylength, 1) := by decide +kernel
theorem dX5_init_75 : decode cX5_init 75 = .ok (.if_icmp .ge 23, 3) := by decide +kernel
theorem dX5_init_78 : decode cX5_init 78 = .ok (.aload_n 0, 1) := by decide +kernel
theorem dX5_init_79 : decode cX5_init 79 = .ok (.getfield 20, 3) := by decide +kernel
theorem dX5_init_82 : decode cX5_init 82 = .ok (.iload_n 1, 1) := by decide +kernel
theorem dX5_init_83 : decode cX5_init 83 = .ok (.new 18, 3) := by decide +kernel
theorem dX5_init_86 : decode cX5_init 86 = .ok (.dup, 1) := by decide +kernel
theorem dX5_init_87 : decode cX5_init 87 = .ok (.iconst 4, 1) := by decide +kernel
theorem dX5_init_88 : decode cX5_init 88 = .ok (.invokespecial 52, 3) := by decide +kernel
theorem dX5_init_91 : decode cX5_init 91 = .ok (.aastore, 1) := by decide +kernel
theorem dX5_init_92 : decode cX5_init 92 = .ok (.iinc 1 1, 3) := by decide +kernel
theorem dX5_init_95 : decode cX5_init 95 = .ok (.goto (-26), 3) := by decide +kernel
theorem dX5_init_98 : decode cX5_init 98 = .ok (.return_, 1) := by decide +kernel
theorem dX5_restart_0 : decode cX5_restart 0 = .ok (.aload_n 0, 1) := by decide +kernel
theorem dX5_restart_1 : decode cX5_restart 1 = .ok (.getfield 12, 3) := by decide +kernel
theorem dX5_restart_4 : decode cX5_restart 4 = .ok (.iload_n 1, 1) := by decide +kernel
theorem dX5_restart_5 : decode cX5_restart 5 = .ok (.iload_n 2, 1) := by decide +kernel
theorem dX5_restart_6 : decode cX5_restart 6 = .ok (.invokevirtual 55, 3) := by decide +kernel
theorem dX5_restart_9 : decode cX5_restart 9 = .ok (.aload_n 0, 1) := by decide +kernel
theorem dX5_restart_10 : decode cX5_restart 10 = .ok (.getfield 20, 3) := by decide +kernel
theorem dX5_restart_13 : decode cX5_restart 13 = .ok (.astore_n 3, 1) := by decide +kernel
theorem dX5_restart_14 : decode cX5_restart 14 = .ok (.aload_n 3, 1) := by decide +kernel
theorem dX5_restart_15 : decode cX5_restart 15 = .ok (.arraylength, 1) := by decide +kernel
theorem dX5_restart_16 : decode cX5_restart 16 = .ok (.istore 4, 2) := by decide +kernel
theorem dX5_restart_18 : decode cX5_restart 18 = .ok (.iconst 0, 1) := by decide +kernel
theorem dX5_restart_19 : decode cX5_restart 19 = .ok (.istore 5, 2) := by decide +kernel
theorem dX5_restart_21 : decode cX5_restart 21 = .ok (.iload 5, 2) := by decide +kernel
theorem dX5_restart_23 : decode cX5_restart 23 = .ok (.iload 4, 2) := by decide +kernel
theorem dX5_restart_25 : decode cX5_restart 25 = .ok (.if_icmp .ge 20, 3) := by decide +kernel
theorem dX5_restart_28 : decode cX5_restart 28 = .ok (.aload_n 3, 1) := by decide +kernel
theorem dX5_restart_29 : decode cX5_restart 29 = .ok (.iload 5, 2) := by decide +kernel
theorem dX5_restart_31 : decode cX5_restart 31 = .ok (.aaload, 1) := by decide +kernel
theorem dX5_restart_32 : decode cX5_restart 32 = .ok (.astore 6, 2) := by decide +kernel
theorem dX5_restart_34 : decode cX5_restart 34 = .ok (.aload 6, 2) := by decide +kernel
theorem dX5_restart_36 : decode cX5_restart 36 = .ok (.invokevirtual 59, 3) := by decide +kernel
theorem dX5_restart_39 : decode cX5_restart 39 = .ok (.iinc 5 1, 3) := by decide +kernel
theorem dX5_restart_42 : decode cX5_restart 42 = .ok (.goto (-21), 3) := by decide +kernel
theorem dX5_restart_45 : decode cX5_restart 45 = .ok (.aload_n 0, 1) := by decide +kernel
theorem dX5_restart_46 : decode cX5_restart 46 = .ok (.getfield 27, 3) := by decide +kernel
theorem dX5_restart_49 : decode cX5_restart 49 = .ok (.invokevirtual 62, 3) := by decide +kernel
theorem dX5_restart_52 : decode cX5_restart 52 = .ok (.aload_n 0, 1) := by decide +kernel
theorem dX5_restart_53 : decode cX5_restart 53 = .ok (.iconst 0, 1) := by decide +kernel
theorem dX5_restart_54 : decode cX5_restart 54 = .ok (.putfield 31, 3) := by decide +kernel
theorem dX5_restart_57 : decode cX5_restart 57 = .ok (.aload_n 0, 1) := by decide +kernel
theorem dX5_restart_58 : decode cX5_restart 58 = .ok (.iconst 0, 1) := by decide +kernel
theorem dX5_restart_59 : decode cX5_restart 59 = .ok (.putfield 35, 3) := by decide +kernel
theorem dX5_restart_62 : decode cX5_restart 62 = .ok (.aload_n 0, 1) := by decide +kernel
theorem dX5_restart_63 : decode cX5_restart 63 = .ok (.iconst 0, 1) := by decide +kernel
theorem dX5_restart_64 : decode cX5_restart 64 = .ok (.putfield 38, 3) := by decide +kernel
theorem dX5_restart_67 : decode cX5_restart 67 = .ok (.return_, 1) := by decide +kernel
theorem dX5_changeRoom_0 : decode cX5_changeRoom 0 = .ok (.aload_n 0, 1) := by decide +kernel
theorem dX5_changeRoom_1 : decode cX5_changeRoom 1 = .ok (.getfield 12, 3) := by decide +kernel
theorem dX5_changeRoom_4 : decode cX5_changeRoom 4 = .ok (.getfield 63, 3) := by decide +kernel
theorem dX5_changeRoom_7 : decode cX5_changeRoom 7 = .ok (.istore_n 2, 1) := by decide +kernel
theorem dX5_changeRoom_8 : decode cX5_changeRoom 8 = .ok (.aload_n 0, 1) := by decide +kernel
theorem dX5_changeRoom_9 : decode cX5_changeRoom 9 = .ok (.getfield 12, 3) := by decide +kernel
theorem dX5_changeRoom_12 : decode cX5_changeRoom 12 = .ok (.iload_n 1, 1) := by decide +kernel
theorem dX5_changeRoom_13 : decode cX5_changeRoom 13 = .ok (.putfield 63, 3) := by decide +kernel
theorem dX5_changeRoom_16 : decode cX5_changeRoom 16 = .ok (.aload_n 0, 1) := by decide +kernel
theorem dX5_changeRoom_17 : decode cX5_changeRoom 17 = .ok (.getfield 20, 3) := by decide +kernel
theorem dX5_changeRoom_20 : decode cX5_changeRoom 20 = .ok (.astore_n 3, 1) := by decide +kernel
theorem dX5_changeRoom_21 : decode cX5_changeRoom 21 = .ok (.aload_n 3, 1) := by decide +kernel
theorem dX5_changeRoom_22 : decode cX5_changeRoom 22 = .ok (.arraylength, 1) := by decide +kernel
theorem dX5_changeRoom_23 : decode cX5_changeRoom 23 = .ok (.istore 4, 2) := by decide +kernel
theorem dX5_changeRoom_25 : decode cX5_changeRoom 25 = .ok (.iconst 0, 1) := by decide +kernel
theorem dX5_changeRoom_26 : decode cX5_changeRoom 26 = .ok (.istore 5, 2) := by decide +kernel
theorem dX5_changeRoom_28 : decode cX5_changeRoom 28 = .ok (.iload 5, 2) := by decide +kernel
theorem dX5_changeRoom_30 : decode cX5_changeRoom 30 = .ok (.iload 4, 2) := by decide +kernel
theorem dX5_changeRoom_32 : decode cX5_changeRoom 32 = .ok (.if_icmp .ge 21, 3) := by decide +kernel
theorem dX5_changeRoom_35 : decode cX5_changeRoom 35 = .ok (.aload_n 3, 1) := by decide +kernel
theorem dX5_changeRoom_36 : decode cX5_changeRoom 36 = .ok (.iload 5, 2) := by decide +kernel
theorem dX5_changeRoom_38 : decode cX5_changeRoom 38 = .ok (.aaload, 1) := by decide +kernel
theorem dX5_changeRoom_39 : decode cX5_changeRoom 39 = .ok (.astore 6, 2) := by decide +kernel
theorem dX5_changeRoom_41 : decode cX5_changeRoom 41 = .ok (.aload 6, 2) := by decide +kernel
theorem dX5_changeRoom_43 : decode cX5_changeRoom 43 = .ok (.iload_n 1, 1) := by decide +kernel
theorem dX5_changeRoom_44 : decode cX5_changeRoom 44 = .ok (.invokevirtual 66, 3) := by decide +kernel
theorem dX5_changeRoom_47 : decode cX5_changeRoom 47 = .ok (.iinc 5 1, 3) := by decide +kernel
theorem dX5_changeRoom_50 : decode cX5_changeRoom 50 = .ok (.goto (-22), 3) := by decide +kernel
theorem dX5_changeRoom_53 : decode cX5_changeRoom 53 = .ok (.iload_n 2, 1) := by decide +kernel
theorem dX5_changeRoom_54 : decode cX5_changeRoom 54 = .ok (.ireturn, 1) := by decide +kernel
theorem dX5_isComplete_0 : decode cX5_isComplete 0 = .ok (.iload_n 1, 1) := by decide +kernel
theorem dX5_isComplete_1 : decode cX5_isComplete 1 = .ok (.ifCond .ne 13, 3) := by decide +kernel
theorem dX5_isComplete_4 : decode cX5_isComplete 4 = .ok (.aload_n 0, 1) := by decide +kernel
theorem dX5_isComplete_5 : decode cX5_isComplete 5 = .ok (.getfield 27, 3) := by decide +kernel
theorem dX5_isComplete_8 : decode cX5_isComplete 8 = .ok (.getfield 69, 3) := by decide +kernel
theorem dX5_isComplete_11 : decode cX5_isComplete 11 = .ok (.goto 10, 3) := by decide +kernel
theorem dX5_isComplete_14 : decode cX5_isComplete 14 = .ok (.aload_n 0, 1) := by decide +kernel
theorem dX5_isComplete_15 : decode cX5_isComplete 15 = .ok (.getfield 27, 3) := by decide +kernel
theorem dX5_isComplete_18 : decode cX5_isComplete 18 = .ok (.getfield 73, 3) := by decide +kernel
theorem dX5_isComplete_21 : decode cX5_isComplete 21 = .ok (.astore_n 2, 1) := by decide +kernel
theorem dX5_isComplete_22 : decode cX5_isComplete 22 = .ok (.aload_n 2, 1) := by decide +kernel
theorem dX5_isComplete_23 : decode cX5_isComplete 23 = .ok (.getfield 76, 3) := by decide +kernel
theorem dX5_isComplete_26 : decode cX5_isComplete 26 = .ok (.aload_n 0, 1) := by decide +kernel
theorem dX5_isComplete_27 : decode cX5_isComplete 27 = .ok (.getfield 12, 3) := by decide +kernel
theorem dX5_isComplete_30 : decode cX5_isComplete 30 = .ok (.getfield 81, 3) := by decide +kernel
theorem dX5_isComplete_33 : decode cX5_isComplete 33 = .ok (.if_icmp .ne 7, 3) := by decide +kernel
theorem dX5_isComplete_36 : decode cX5_isComplete 36 = .ok (.iconst 1, 1) := by decide +kernel
theorem dX5_isComplete_37 : decode cX5_isComplete 37 = .ok (.goto 4, 3) := by decide +kernel
theorem dX5_isComplete_40 : decode cX5_isComplete 40 = .ok (.iconst 0, 1) := by decide +kernel
theorem dX5_isComplete_41 : decode cX5_isComplete 41 = .ok (.ireturn, 1) := by decide +kernel
theorem dX5_listOf_0 : decode cX5_listOf 0 = .ok (.iload_n 1, 1) := by decide +kernel
theorem dX5_listOf_1 : decode cX5_listOf 1 = .ok (.aload_n 0, 1) := by decide +kernel
theorem dX5_listOf_2 : decode cX5_listOf 2 = .ok (.getfield 12, 3) := by decide +kernel
theorem dX5_listOf_5 : decode cX5_listOf 5 = .ok (.getfield 84, 3) := by decide +kernel
theorem dX5_listOf_8 : decode cX5_listOf 8 = .ok (.iconst 1, 1) := by decide +kernel
theorem dX5_listOf_9 : decode cX5_listOf 9 = .ok (.iadd, 1) := by decide +kernel
theorem dX5_listOf_10 : decode cX5_listOf 10 = .ok (.if_icmp .ne 11, 3) := by decide +kernel
theorem dX5_listOf_13 : decode cX5_listOf 13 = .ok (.aload_n 0, 1) := by decide +kernel
theorem dX5_listOf_14 : decode cX5_listOf 14 = .ok (.getfield 27, 3) := by decide +kernel
theorem dX5_listOf_17 : decode cX5_listOf 17 = .ok (.getfield 87, 3) := by decide +kernel
theorem dX5_listOf_20 : decode cX5_listOf 20 = .ok (.areturn, 1) := by decide +kernel
theorem dX5_listOf_21 : decode cX5_listOf 21 = .ok (.iload_n 1, 1) := by decide +kernel
theorem dX5_listOf_22 : decode cX5_listOf 22 = .ok (.iconst 1, 1) := by decide +kernel
theorem dX5_listOf_23 : decode cX5_listOf 23 = .ok (.if_icmp .lt 34, 3) := by decide +kernel
theorem dX5_listOf_26 : decode cX5_listOf 26 = .ok (.iload_n 1, 1) := by decide +kernel
theorem dX5_listOf_27 : decode cX5_listOf 27 = .ok (.aload_n 0, 1) := by decide +kernel
theorem dX5_listOf_28 : decode cX5_listOf 28 = .ok (.getfield 12, 3) := by decide +kernel
theorem dX5_listOf_31 : decode cX5_listOf 31 = .ok (.getfield 84, 3) := by decide +kernel
theorem dX5_listOf_34 : decode cX5_listOf 34 = .ok (.if_icmp .gt 23, 3) := by decide +kernel
theorem dX5_listOf_37 : decode cX5_listOf 37 = .ok (.iload_n 1, 1) := by decide +kernel
theorem dX5_listOf_38 : decode cX5_listOf 38 = .ok (.aload_n 0, 1) := by decide +kernel
theorem dX5_listOf_39 : decode cX5_listOf 39 = .ok (.getfield 20, 3) := by decide +kernel
theorem dX5_listOf_42 : decode cX5_listOf 42 = .ok (.arraylength, 1) := by decide +kernel
theorem dX5_listOf_43 : decode cX5_listOf 43 = .ok (.if_icmp .gt 14, 3) := by decide +kernel
theorem dX5_listOf_46 : decode cX5_listOf 46 = .ok (.aload_n 0, 1) := by decide +kernel
theorem dX5_listOf_47 : decode cX5_listOf 47 = .ok (.getfield 20, 3) := by decide +kernel
theorem dX5_listOf_50 : decode cX5_listOf 50 = .ok (.iload_n 1, 1) := by decide +kernel
theorem dX5_listOf_51 : decode cX5_listOf 51 = .ok (.iconst 1, 1) := by decide +kernel
theorem dX5_listOf_52 : decode cX5_listOf 52 = .ok (.isub, 1) := by decide +kernel
theorem dX5_listOf_53 : decode cX5_listOf 53 = .ok (.aaload, 1) := by decide +kernel
theorem dX5_listOf_54 : decode cX5_listOf 54 = .ok (.goto 4, 3) := by decide +kernel
theorem dX5_listOf_57 : decode cX5_listOf 57 = .ok (.aconst_null, 1) := by decide +kernel
theorem dX5_listOf_58 : decode cX5_listOf 58 = .ok (.areturn, 1) := by decide +kernel
theorem dX5_rankOf_0 : decode cX5_rankOf 0 = .ok (.aload_n 0, 1) := by decide +kernel
theorem dX5_rankOf_1 : decode cX5_rankOf 1 = .ok (.getfield 48, 3) := by decide +kernel
theorem dX5_rankOf_4 : decode cX5_rankOf 4 = .ok (.invokevirtual 91, 3) := by decide +kernel
theorem dX5_rankOf_7 : decode cX5_rankOf 7 = .ok (.iconst 0, 1) := by decide +kernel
theorem dX5_rankOf_8 : decode cX5_rankOf 8 = .ok (.istore_n 2, 1) := by decide +kernel
theorem dX5_rankOf_9 : decode cX5_rankOf 9 = .ok (.iload_n 2, 1) := by decide +kernel
theorem dX5_rankOf_10 : decode cX5_rankOf 10 = .ok (.aload_n 1, 1) := by decide +kernel
theorem dX5_rankOf_11 : decode cX5_rankOf 11 = .ok (.getfield 92, 3) := by decide +kernel
theorem dX5_rankOf_14 : decode cX5_rankOf 14 = .ok (.if_icmp .ge 22, 3) := by decide +kernel
theorem dX5_rankOf_17 : decode cX5_rankOf 17 = .ok (.aload_n 0, 1) := by decide +kernel
theorem dX5_rankOf_18 : decode cX5_rankOf 18 = .ok (.getfield 48, 3) := by decide +kernel
theorem dX5_rankOf_21 : decode cX5_rankOf 21 = .ok (.aload_n 1, 1) := by decide +kernel
theorem dX5_rankOf_22 : decode cX5_rankOf 22 = .ok (.iload_n 2, 1) := by decide +kernel
theorem dX5_rankOf_23 : decode cX5_rankOf 23 = .ok (.invokevirtual 95, 3) := by decide +kernel
theorem dX5_rankOf_26 : decode cX5_rankOf 26 = .ok (.invokevirtual 99, 3) := by decide +kernel
theorem dX5_rankOf_29 : decode cX5_rankOf 29 = .ok (.pop, 1) := by decide +kernel
theorem dX5_rankOf_30 : decode cX5_rankOf 30 = .ok (.iinc 2 1, 3) := by decide +kernel
theorem dX5_rankOf_33 : decode cX5_rankOf 33 = .ok (.goto (-24), 3) := by decide +kernel
theorem dX5_rankOf_36 : decode cX5_rankOf 36 = .ok (.aload_n 0, 1) := by decide +kernel
theorem dX5_rankOf_37 : decode cX5_rankOf 37 = .ok (.getfield 48, 3) := by decide +kernel
theorem dX5_rankOf_40 : decode cX5_rankOf 40 = .ok (.getfield 103, 3) := by decide +kernel
theorem dX5_rankOf_43 : decode cX5_rankOf 43 = .ok (.ireturn, 1) := by decide +kernel
theorem dX5_isNovelFor_0 : decode cX5_isNovelFor 0 = .ok (.aload_n 0, 1) := by decide +kernel
theorem dX5_isNovelFor_1 : decode cX5_isNovelFor 1 = .ok (.aload_n 1, 1) := by decide +kernel
theorem dX5_isNovelFor_2 : decode cX5_isNovelFor 2 = .ok (.invokevirtual 106, 3) := by decide +kernel
theorem dX5_isNovelFor_5 : decode cX5_isNovelFor 5 = .ok (.pop, 1) := by decide +kernel
theorem dX5_isNovelFor_6 : decode cX5_isNovelFor 6 = .ok (.aload_n 0, 1) := by decide +kernel
theorem dX5_isNovelFor_7 : decode cX5_isNovelFor 7 = .ok (.getfield 48, 3) := by decide +kernel
theorem dX5_isNovelFor_10 : decode cX5_isNovelFor 10 = .ok (.iload_n 2, 1) := by decide +kernel
theorem dX5_isNovelFor_11 : decode cX5_isNovelFor 11 = .ok (.invokevirtual 110, 3) := by decide +kernel
theorem dX5_isNovelFor_14 : decode cX5_isNovelFor 14 = .ok (.invokestatic 113, 3) := by decide +kernel
theorem dX5_isNovelFor_17 : decode cX5_isNovelFor 17 = .ok (.ifCond .eq 7, 3) := by decide +kernel
theorem dX5_isNovelFor_20 : decode cX5_isNovelFor 20 = .ok (.iconst 1, 1) := by decide +kernel
theorem dX5_isNovelFor_21 : decode cX5_isNovelFor 21 = .ok (.goto 4, 3) := by decide +kernel
theorem dX5_isNovelFor_24 : decode cX5_isNovelFor 24 = .ok (.iconst 0, 1) := by decide +kernel
theorem dX5_isNovelFor_25 : decode cX5_isNovelFor 25 = .ok (.ireturn, 1) := by decide +kernel
theorem dX5_tick_0 : decode cX5_tick 0 = .ok (.aload_n 0, 1) := by decide +kernel
theorem dX5_tick_1 : decode cX5_tick 1 = .ok (.dup, 1) := by decide +kernel
theorem dX5_tick_2 : decode cX5_tick 2 = .ok (.getfield 31, 3) := by decide +kernel
theorem dX5_tick_5 : decode cX5_tick 5 = .ok (.iconst 1, 1) := by decide +kernel
theorem dX5_tick_6 : decode cX5_tick 6 = .ok (.iadd, 1) := by decide +kernel
theorem dX5_tick_7 : decode cX5_tick 7 = .ok (.putfield 31, 3) := by decide +kernel
theorem dX5_tick_10 : decode cX5_tick 10 = .ok (.iconst 0, 1) := by decide +kernel
theorem dX5_tick_11 : decode cX5_tick 11 = .ok (.istore_n 1, 1) := by decide +kernel
theorem dX5_tick_12 : decode cX5_tick 12 = .ok (.iload_n 1, 1) := by decide +kernel
theorem dX5_tick_13 : decode cX5_tick 13 = .ok (.aload_n 0, 1) := by decide +kernel
theorem dX5_tick_14 : decode cX5_tick 14 = .ok (.getfield 12, 3) := by decide +kernel
theorem dX5_tick_17 : decode cX5_tick 17 = .ok (.getfield 84, 3) := by decide +kernel
theorem dX5_tick_20 : decode cX5_tick 20 = .ok (.if_icmp .gt 66, 3) := by decide +kernel
theorem dX5_tick_23 : decode cX5_tick 23 = .ok (.iload_n 1, 1) := by decide +kernel
theorem dX5_tick_24 : decode cX5_tick 24 = .ok (.aload_n 0, 1) := by decide +kernel
theorem dX5_tick_25 : decode cX5_tick 25 = .ok (.getfield 41, 3) := by decide +kernel
theorem dX5_tick_28 : decode cX5_tick 28 = .ok (.arraylength, 1) := by decide +kernel
theorem dX5_tick_29 : decode cX5_tick 29 = .ok (.if_icmp .ge 57, 3) := by decide +kernel
theorem dX5_tick_32 : decode cX5_tick 32 = .ok (.aload_n 0, 1) := by decide +kernel
theorem dX5_tick_33 : decode cX5_tick 33 = .ok (.getfield 41, 3) := by decide +kernel
theorem dX5_tick_36 : decode cX5_tick 36 = .ok (.iload_n 1, 1) := by decide +kernel
theorem dX5_tick_37 : decode cX5_tick 37 = .ok (.aload_n 0, 1) := by decide +kernel
theorem dX5_tick_38 : decode cX5_tick 38 = .ok (.iload_n 1, 1) := by decide +kernel
theorem dX5_tick_39 : decode cX5_tick 39 = .ok (.invokevirtual 116, 3) := by decide +kernel
theorem dX5_tick_42 : decode cX5_tick 42 = .ok (.iastore, 1) := by decide +kernel
theorem dX5_tick_43 : decode cX5_tick 43 = .ok (.aload_n 0, 1) := by decide +kernel
theorem dX5_tick_44 : decode cX5_tick 44 = .ok (.getfield 41, 3) := by decide +kernel
theorem dX5_tick_47 : decode cX5_tick 47 = .ok (.iload_n 1, 1) := by decide +kernel
theorem dX5_tick_48 : decode cX5_tick 48 = .ok (.iaload, 1) := by decide +kernel
theorem dX5_tick_49 : decode cX5_tick 49 = .ok (.ifCond .eq 31, 3) := by decide +kernel
theorem dX5_tick_52 : decode cX5_tick 52 = .ok (.aload_n 0, 1) := by decide +kernel
theorem dX5_tick_53 : decode cX5_tick 53 = .ok (.getfield 12, 3) := by decide +kernel
theorem dX5_tick_56 : decode cX5_tick 56 = .ok (.iload_n 1, 1) := by decide +kernel
theorem dX5_tick_57 : decode cX5_tick 57 = .ok (.invokevirtual 119, 3) := by decide +kernel
theorem dX5_tick_60 : decode cX5_tick 60 = .ok (.ifCond .eq 20, 3) := by decide +kernel
theorem dX5_tick_63 : decode cX5_tick 63 = .ok (.aload_n 0, 1) := by decide +kernel
theorem dX5_tick_64 : decode cX5_tick 64 = .ok (.getfield 41, 3) := by decide +kernel
theorem dX5_tick_67 : decode cX5_tick 67 = .ok (.iload_n 1, 1) := by decide +kernel
theorem dX5_tick_68 : decode cX5_tick 68 = .ok (.iconst 0, 1) := by decide +kernel
theorem dX5_tick_69 : decode cX5_tick 69 = .ok (.iastore, 1) := by decide +kernel
theorem dX5_tick_70 : decode cX5_tick 70 = .ok (.aload_n 0, 1) := by decide +kernel
theorem dX5_tick_71 : decode cX5_tick 71 = .ok (.dup, 1) := by decide +kernel
theorem dX5_tick_72 : decode cX5_tick 72 = .ok (.getfield 38, 3) := by decide +kernel
theorem dX5_tick_75 : decode cX5_tick 75 = .ok (.iconst 1, 1) := by decide +kernel
theorem dX5_tick_76 : decode cX5_tick 76 = .ok (.iadd, 1) := by decide +kernel
theorem dX5_tick_77 : decode cX5_tick 77 = .ok (.putfield 38, 3) := by decide +kernel
theorem dX5_tick_80 : decode cX5_tick 80 = .ok (.iinc 1 1, 3) := by decide +kernel
theorem dX5_tick_83 : decode cX5_tick 83 = .ok (.goto (-71), 3) := by decide +kernel
theorem dX5_tick_86 : decode cX5_tick 86 = .ok (.iconst 0, 1) := by decide +kernel
theorem dX5_tick_87 : decode cX5_tick 87 = .ok (.istore_n 1, 1) := by decide +kernel
theorem dX5_tick_88 : decode cX5_tick 88 = .ok (.iload_n 1, 1) := by decide +kernel
theorem dX5_tick_89 : decode cX5_tick 89 = .ok (.aload_n 0, 1) := by decide +kernel
theorem dX5_tick_90 : decode cX5_tick 90 = .ok (.getfield 12, 3) := by decide +kernel
theorem dX5_tick_93 : decode cX5_tick 93 = .ok (.getfield 84, 3) := by decide +kernel
theorem dX5_tick_96 : decode cX5_tick 96 = .ok (.if_icmp .gt 79, 3) := by decide +kernel
theorem dX5_tick_99 : decode cX5_tick 99 = .ok (.iload_n 1, 1) := by decide +kernel
theorem dX5_tick_100 : decode cX5_tick 100 = .ok (.aload_n 0, 1) := by decide +kernel
theorem dX5_tick_101 : decode cX5_tick 101 = .ok (.getfield 41, 3) := by decide +kernel
theorem dX5_tick_104 : decode cX5_tick 104 = .ok (.arraylength, 1) := by decide +kernel
theorem dX5_tick_105 : decode cX5_tick 105 = .ok (.if_icmp .ge 70, 3) := by decide +kernel
theorem dX5_tick_108 : decode cX5_tick 108 = .ok (.aload_n 0, 1) := by decide +kernel
theorem dX5_tick_109 : decode cX5_tick 109 = .ok (.getfield 41, 3) := by decide +kernel
theorem dX5_tick_112 : decode cX5_tick 112 = .ok (.iload_n 1, 1) := by decide +kernel
theorem dX5_tick_113 : decode cX5_tick 113 = .ok (.iaload, 1) := by decide +kernel
theorem dX5_tick_114 : decode cX5_tick 114 = .ok (.ifCond .ne 6, 3) := by decide +kernel
theorem dX5_tick_117 : decode cX5_tick 117 = .ok (.goto 52, 3) := by decide +kernel
theorem dX5_tick_120 : decode cX5_tick 120 = .ok (.iload_n 1, 1) := by decide +kernel
theorem dX5_tick_121 : decode cX5_tick 121 = .ok (.aload_n 0, 1) := by decide +kernel
theorem dX5_tick_122 : decode cX5_tick 122 = .ok (.getfield 12, 3) := by decide +kernel
theorem dX5_tick_125 : decode cX5_tick 125 = .ok (.getfield 84, 3) := by decide +kernel
theorem dX5_tick_128 : decode cX5_tick 128 = .ok (.if_icmp .ne 24, 3) := by decide +kernel
theorem dX5_tick_131 : decode cX5_tick 131 = .ok (.aload_n 0, 1) := by decide +kernel
theorem dX5_tick_132 : decode cX5_tick 132 = .ok (.getfield 27, 3) := by decide +kernel
theorem dX5_tick_135 : decode cX5_tick 135 = .ok (.aload_n 0, 1) := by decide +kernel
theorem dX5_tick_136 : decode cX5_tick 136 = .ok (.getfield 41, 3) := by decide +kernel
theorem dX5_tick_139 : decode cX5_tick 139 = .ok (.iload_n 1, 1) := by decide +kernel
theorem dX5_tick_140 : decode cX5_tick 140 = .ok (.iaload, 1) := by decide +kernel
theorem dX5_tick_141 : decode cX5_tick 141 = .ok (.aload_n 0, 1) := by decide +kernel
theorem dX5_tick_142 : decode cX5_tick 142 = .ok (.getfield 31, 3) := by decide +kernel
theorem dX5_tick_145 : decode cX5_tick 145 = .ok (.invokevirtual 122, 3) := by decide +kernel
theorem dX5_tick_148 : decode cX5_tick 148 = .ok (.pop, 1) := by decide +kernel
theorem dX5_tick_149 : decode cX5_tick 149 = .ok (.goto 20, 3) := by decide +kernel
theorem dX5_tick_152 : decode cX5_tick 152 = .ok (.aload_n 0, 1) := by decide +kernel
theorem dX5_tick_153 : decode cX5_tick 153 = .ok (.aload_n 0, 1) := by decide +kernel
theorem dX5_tick_154 : decode cX5_tick 154 = .ok (.iload_n 1, 1) := by decide +kernel
theorem dX5_tick_155 : decode cX5_tick 155 = .ok (.iconst 1, 1) := by decide +kernel
theorem dX5_tick_156 : decode cX5_tick 156 = .ok (.iadd, 1) := by decide +kernel
theorem dX5_tick_157 : decode cX5_tick 157 = .ok (.invokevirtual 126, 3) := by decide +kernel
theorem dX5_tick_160 : decode cX5_tick 160 = .ok (.aload_n 0, 1) := by decide +kernel
theorem dX5_tick_161 : decode cX5_tick 161 = .ok (.getfield 41, 3) := by decide +kernel
theorem dX5_tick_164 : decode cX5_tick 164 = .ok (.iload_n 1, 1) := by decide +kernel
theorem dX5_tick_165 : decode cX5_tick 165 = .ok (.iaload, 1) := by decide +kernel
theorem dX5_tick_166 : decode cX5_tick 166 = .ok (.invokevirtual 130, 3) := by decide +kernel
theorem dX5_tick_169 : decode cX5_tick 169 = .ok (.iinc 1 1, 3) := by decide +kernel
theorem dX5_tick_172 : decode cX5_tick 172 = .ok (.goto (-84), 3) := by decide +kernel
theorem dX5_tick_175 : decode cX5_tick 175 = .ok (.return_, 1) := by decide +kernel
theorem dX5_make_0 : decode cX5_make 0 = .ok (.iload_n 1, 1) := by decide +kernel
theorem dX5_make_1 : decode cX5_make 1 = .ok (.ifCond .ne 21, 3) := by decide +kernel
theorem dX5_make_4 : decode cX5_make 4 = .ok (.aload_n 0, 1) := by decide +kernel
theorem dX5_make_5 : decode cX5_make 5 = .ok (.dup, 1) := by decide +kernel
theorem dX5_make_6 : decode cX5_make 6 = .ok (.getfield 35, 3) := by decide +kernel
theorem dX5_make_9 : decode cX5_make 9 = .ok (.iconst 1, 1) := by decide +kernel
theorem dX5_make_10 : decode cX5_make 10 = .ok (.iadd, 1) := by decide +kernel
theorem dX5_make_11 : decode cX5_make 11 = .ok (.putfield 35, 3) := by decide +kernel
theorem dX5_make_14 : decode cX5_make 14 = .ok (.aload_n 0, 1) := by decide +kernel
theorem dX5_make_15 : decode cX5_make 15 = .ok (.getfield 12, 3) := by decide +kernel
theorem dX5_make_18 : decode cX5_make 18 = .ok (.invokevirtual 134, 3) := by decide +kernel
theorem dX5_make_21 : decode cX5_make 21 = .ok (.ireturn, 1) := by decide +kernel
theorem dX5_make_22 : decode cX5_make 22 = .ok (.aload_n 0, 1) := by decide +kernel
theorem dX5_make_23 : decode cX5_make 23 = .ok (.iload_n 1, 1) := by decide +kernel
theorem dX5_make_24 : decode cX5_make 24 = .ok (.invokevirtual 126, 3) := by decide +kernel
theorem dX5_make_27 : decode cX5_make 27 = .ok (.astore_n 2, 1) := by decide +kernel
theorem dX5_make_28 : decode cX5_make 28 = .ok (.aload_n 2, 1) := by decide +kernel
theorem dX5_make_29 : decode cX5_make 29 = .ok (.ifnull 10, 3) := by decide +kernel
theorem dX5_make_32 : decode cX5_make 32 = .ok (.aload_n 2, 1) := by decide +kernel
theorem dX5_make_33 : decode cX5_make 33 = .ok (.getfield 92, 3) := by decide +kernel
theorem dX5_make_36 : decode cX5_make 36 = .ok (.ifCond .ne 5, 3) := by decide +kernel
theorem dX5_make_39 : decode cX5_make 39 = .ok (.iconst 0, 1) := by decide +kernel
theorem dX5_make_40 : decode cX5_make 40 = .ok (.ireturn, 1) := by decide +kernel
theorem dX5_make_41 : decode cX5_make 41 = .ok (.aload_n 0, 1) := by decide +kernel
theorem dX5_make_42 : decode cX5_make 42 = .ok (.getfield 12, 3) := by decide +kernel
theorem dX5_make_45 : decode cX5_make 45 = .ok (.getfield 138, 3) := by decide +kernel
theorem dX5_make_48 : decode cX5_make 48 = .ok (.iconst 1, 1) := by decide +kernel
theorem dX5_make_49 : decode cX5_make 49 = .ok (.if_icmp .ne 11, 3) := by decide +kernel
theorem dX5_make_52 : decode cX5_make 52 = .ok (.aload_n 0, 1) := by decide +kernel
theorem dX5_make_53 : decode cX5_make 53 = .ok (.aload_n 2, 1) := by decide +kernel
theorem dX5_make_54 : decode cX5_make 54 = .ok (.invokevirtual 141, 3) := by decide +kernel
theorem dX5_make_57 : decode cX5_make 57 = .ok (.goto 8, 3) := by decide +kernel
theorem dX5_make_60 : decode cX5_make 60 = .ok (.aload_n 0, 1) := by decide +kernel
theorem dX5_make_61 : decode cX5_make 61 = .ok (.aload_n 2, 1) := by decide +kernel
theorem dX5_make_62 : decode cX5_make 62 = .ok (.invokevirtual 144, 3) := by decide +kernel
theorem dX5_make_65 : decode cX5_make 65 = .ok (.ireturn, 1) := by decide +kernel
theorem dX5_forward_0 : decode cX5_forward 0 = .ok (.aload_n 1, 1) := by decide +kernel
theorem dX5_forward_1 : decode cX5_forward 1 = .ok (.iconst 0, 1) := by decide +kernel
theorem dX5_forward_2 : decode cX5_forward 2 = .ok (.invokevirtual 147, 3) := by decide +kernel
theorem dX5_forward_5 : decode cX5_forward 5 = .ok (.istore_n 2, 1) := by decide +kernel
theorem dX5_forward_6 : decode cX5_forward 6 = .ok (.aload_n 1, 1) := by decide +kernel
theorem dX5_forward_7 : decode cX5_forward 7 = .ok (.iload_n 2, 1) := by decide +kernel
theorem dX5_forward_8 : decode cX5_forward 8 = .ok (.invokevirtual 150, 3) := by decide +kernel
theorem dX5_forward_11 : decode cX5_forward 11 = .ok (.iload_n 2, 1) := by decide +kernel
theorem dX5_forward_12 : decode cX5_forward 12 = .ok (.ireturn, 1) := by decide +kernel
theorem dX5_recode_0 : decode cX5_recode 0 = .ok (.iconst 0, 1) := by decide +kernel
theorem dX5_recode_1 : decode cX5_recode 1 = .ok (.istore_n 2, 1) := by decide +kernel
theorem dX5_recode_2 : decode cX5_recode 2 = .ok (.iconst 0, 1) := by decide +kernel
theorem dX5_recode_3 : decode cX5_recode 3 = .ok (.istore_n 3, 1) := by decide +kernel
theorem dX5_recode_4 : decode cX5_recode 4 = .ok (.iconst 0, 1) := by decide +kernel
theorem dX5_recode_5 : decode cX5_recode 5 = .ok (.istore 4, 2) := by decide +kernel
theorem dX5_recode_7 : decode cX5_recode 7 = .ok (.iload 4, 2) := by decide +kernel
theorem dX5_recode_9 : decode cX5_recode 9 = .ok (.aload_n 1, 1) := by decide +kernel
theorem dX5_recode_10 : decode cX5_recode 10 = .ok (.getfield 92, 3) := by decide +kernel
theorem dX5_recode_13 : decode cX5_recode 13 = .ok (.if_icmp .ge 32, 3) := by decide +kernel
theorem dX5_recode_16 : decode cX5_recode 16 = .ok (.aload_n 0, 1) := by decide +kernel
theorem dX5_recode_17 : decode cX5_recode 17 = .ok (.getfield 12, 3) := by decide +kernel
theorem dX5_recode_20 : decode cX5_recode 20 = .ok (.iconst 2, 1) := by decide +kernel
theorem dX5_recode_21 : decode cX5_recode 21 = .ok (.invokevirtual 153, 3) := by decide +kernel
theorem dX5_recode_24 : decode cX5_recode 24 = .ok (.iconst 1, 1) := by decide +kernel
theorem dX5_recode_25 : decode cX5_recode 25 = .ok (.if_icmp .ne 14, 3) := by decide +kernel
theorem dX5_recode_28 : decode cX5_recode 28 = .ok (.iload_n 2, 1) := by decide +kernel
theorem dX5_recode_29 : decode cX5_recode 29 = .ok (.aload_n 1, 1) := by decide +kernel
theorem dX5_recode_30 : decode cX5_recode 30 = .ok (.iload 4, 2) := by decide +kernel
theorem dX5_recode_32 : decode cX5_recode 32 = .ok (.invokevirtual 95, 3) := by decide +kernel
theorem dX5_recode_35 : decode cX5_recode 35 = .ok (.ixor, 1) := by decide +kernel
theorem dX5_recode_36 : decode cX5_recode 36 = .ok (.istore_n 2, 1) := by decide +kernel
theorem dX5_recode_37 : decode cX5_recode 37 = .ok (.iconst 1, 1) := by decide +kernel
theorem dX5_recode_38 : decode cX5_recode 38 = .ok (.istore_n 3, 1) := by decide +kernel
theorem dX5_recode_39 : decode cX5_recode 39 = .ok (.iinc 4 1, 3) := by decide +kernel
theorem dX5_recode_42 : decode cX5_recode 42 = .ok (.goto (-35), 3) := by decide +kernel
theorem dX5_recode_45 : decode cX5_recode 45 = .ok (.iload_n 3, 1) := by decide +kernel
theorem dX5_recode_46 : decode cX5_recode 46 = .ok (.ifCond .ne 9, 3) := by decide +kernel
theorem dX5_recode_49 : decode cX5_recode 49 = .ok (.aload_n 1, 1) := by decide +kernel
theorem dX5_recode_50 : decode cX5_recode 50 = .ok (.iconst 0, 1) := by decide +kernel
theorem dX5_recode_51 : decode cX5_recode 51 = .ok (.invokevirtual 95, 3) := by decide +kernel
theorem dX5_recode_54 : decode cX5_recode 54 = .ok (.ireturn, 1) := by decide +kernel
theorem dX5_recode_55 : decode cX5_recode 55 = .ok (.iload_n 2, 1) := by decide +kernel
theorem dX5_recode_56 : decode cX5_recode 56 = .ok (.invokestatic 113, 3) := by decide +kernel
theorem dX5_recode_59 : decode cX5_recode 59 = .ok (.ifCond .ne 7, 3) := by decide +kernel
theorem dX5_recode_62 : decode cX5_recode 62 = .ok (.iconst 0, 1) := by decide +kernel
theorem dX5_recode_63 : decode cX5_recode 63 = .ok (.goto 4, 3) := by decide +kernel
theorem dX5_recode_66 : decode cX5_recode 66 = .ok (.iload_n 2, 1) := by decide +kernel
theorem dX5_recode_67 : decode cX5_recode 67 = .ok (.ireturn, 1) := by decide +kernel
theorem dX5_store_0 : decode cX5_store 0 = .ok (.aload_n 1, 1) := by decide +kernel
theorem dX5_store_1 : decode cX5_store 1 = .ok (.ifnull 23, 3) := by decide +kernel
theorem dX5_store_4 : decode cX5_store 4 = .ok (.aload_n 0, 1) := by decide +kernel
theorem dX5_store_5 : decode cX5_store 5 = .ok (.getfield 12, 3) := by decide +kernel
theorem dX5_store_8 : decode cX5_store 8 = .ok (.getfield 156, 3) := by decide +kernel
theorem dX5_store_11 : decode cX5_store 11 = .ok (.iconst 2, 1) := by decide +kernel
theorem dX5_store_12 : decode cX5_store 12 = .ok (.if_icmp .ne 13, 3) := by decide +kernel
theorem dX5_store_15 : decode cX5_store 15 = .ok (.aload_n 0, 1) := by decide +kernel
theorem dX5_store_16 : decode cX5_store 16 = .ok (.aload_n 1, 1) := by decide +kernel
theorem dX5_store_17 : decode cX5_store 17 = .ok (.iload_n 2, 1) := by decide +kernel
theorem dX5_store_18 : decode cX5_store 18 = .ok (.invokevirtual 159, 3) := by decide +kernel
theorem dX5_store_21 : decode cX5_store 21 = .ok (.ifCond .ne 4, 3) := by decide +kernel
theorem dX5_store_24 : decode cX5_store 24 = .ok (.return_, 1) := by decide +kernel
theorem dX5_store_25 : decode cX5_store 25 = .ok (.aload_n 1, 1) := by decide +kernel
theorem dX5_store_26 : decode cX5_store 26 = .ok (.getfield 92, 3) := by decide +kernel
theorem dX5_store_29 : decode cX5_store 29 = .ok (.aload_n 0, 1) := by decide +kernel
theorem dX5_store_30 : decode cX5_store 30 = .ok (.getfield 12, 3) := by decide +kernel
theorem dX5_store_33 : decode cX5_store 33 = .ok (.getfield 63, 3) := by decide +kernel
theorem dX5_store_36 : decode cX5_store 36 = .ok (.if_icmp .ge 9, 3) := by decide +kernel
theorem dX5_store_39 : decode cX5_store 39 = .ok (.aload_n 1, 1) := by decide +kernel
theorem dX5_store_40 : decode cX5_store 40 = .ok (.iload_n 2, 1) := by decide +kernel
theorem dX5_store_41 : decode cX5_store 41 = .ok (.invokevirtual 150, 3) := by decide +kernel
theorem dX5_store_44 : decode cX5_store 44 = .ok (.return_, 1) := by decide +kernel
theorem dX5_store_45 : decode cX5_store 45 = .ok (.aload_n 0, 1) := by decide +kernel
theorem dX5_store_46 : decode cX5_store 46 = .ok (.getfield 12, 3) := by decide +kernel
theorem dX5_store_49 : decode cX5_store 49 = .ok (.getfield 156, 3) := by decide +kernel
theorem dX5_store_52 : decode cX5_store 52 = .ok (.tableswitch 66 1 3 #[28, 29, 45], 28) := by decide +kernel
theorem dX5_store_80 : decode cX5_store 80 = .ok (.return_, 1) := by decide +kernel
theorem dX5_store_81 : decode cX5_store 81 = .ok (.aload_n 1, 1) := by decide +kernel
theorem dX5_store_82 : decode cX5_store 82 = .ok (.aload_n 1, 1) := by decide +kernel
theorem dX5_store_83 : decode cX5_store 83 = .ok (.iload_n 2, 1) := by decide +kernel
theorem dX5_store_84 : decode cX5_store 84 = .ok (.invokevirtual 163, 3) := by decide +kernel
theorem dX5_store_87 : decode cX5_store 87 = .ok (.invokevirtual 147, 3) := by decide +kernel
theorem dX5_store_90 : decode cX5_store 90 = .ok (.pop, 1) := by decide +kernel
theorem dX5_store_91 : decode cX5_store 91 = .ok (.aload_n 1, 1) := by decide +kernel
theorem dX5_store_92 : decode cX5_store 92 = .ok (.iload_n 2, 1) := by decide +kernel
theorem dX5_store_93 : decode cX5_store 93 = .ok (.invokevirtual 150, 3) := by decide +kernel
theorem dX5_store_96 : decode cX5_store 96 = .ok (.return_, 1) := by decide +kernel
theorem dX5_store_97 : decode cX5_store 97 = .ok (.aload_n 1, 1) := by decide +kernel
theorem dX5_store_98 : decode cX5_store 98 = .ok (.iconst 0, 1) := by decide +kernel
theorem dX5_store_99 : decode cX5_store 99 = .ok (.invokevirtual 147, 3) := by decide +kernel
theorem dX5_store_102 : decode cX5_store 102 = .ok (.iload_n 2, 1) := by decide +kernel
theorem dX5_store_103 : decode cX5_store 103 = .ok (.ixor, 1) := by decide +kernel
theorem dX5_store_104 : decode cX5_store 104 = .ok (.istore_n 3, 1) := by decide +kernel
theorem dX5_store_105 : decode cX5_store 105 = .ok (.iload_n 3, 1) := by decide +kernel
theorem dX5_store_106 : decode cX5_store 106 = .ok (.invokestatic 113, 3) := by decide +kernel
theorem dX5_store_109 : decode cX5_store 109 = .ok (.ifCond .eq 8, 3) := by decide +kernel
theorem dX5_store_112 : decode cX5_store 112 = .ok (.aload_n 1, 1) := by decide +kernel
theorem dX5_store_113 : decode cX5_store 113 = .ok (.iload_n 3, 1) := by decide +kernel
theorem dX5_store_114 : decode cX5_store 114 = .ok (.invokevirtual 150, 3) := by decide +kernel
theorem dX5_store_117 : decode cX5_store 117 = .ok (.return_, 1) := by decide +kernel
theorem dX5_store_118 : decode cX5_store 118 = .ok (.aload_n 1, 1) := by decide +kernel
theorem dX5_store_119 : decode cX5_store 119 = .ok (.iconst 0, 1) := by decide +kernel
theorem dX5_store_120 : decode cX5_store 120 = .ok (.invokevirtual 147, 3) := by decide +kernel
theorem dX5_store_123 : decode cX5_store 123 = .ok (.pop, 1) := by decide +kernel
theorem dX5_store_124 : decode cX5_store 124 = .ok (.aload_n 1, 1) := by decide +kernel
theorem dX5_store_125 : decode cX5_store 125 = .ok (.iload_n 2, 1) := by decide +kernel
theorem dX5_store_126 : decode cX5_store 126 = .ok (.invokevirtual 150, 3) := by decide +kernel
theorem dX5_store_129 : decode cX5_store 129 = .ok (.return_, 1) := by decide +kernel
theorem dX5_copyFrom_0 : decode cX5_copyFrom 0 = .ok (.aload_n 0, 1) := by decide +kernel
theorem dX5_copyFrom_1 : decode cX5_copyFrom 1 = .ok (.getfield 12, 3) := by decide +kernel
theorem dX5_copyFrom_4 : decode cX5_copyFrom 4 = .ok (.aload_n 1, 1) := by decide +kernel
theorem dX5_copyFrom_5 : decode cX5_copyFrom 5 = .ok (.getfield 12, 3) := by decide +kernel
theorem dX5_copyFrom_8 : decode cX5_copyFrom 8 = .ok (.invokevirtual 166, 3) := by decide +kernel
theorem dX5_copyFrom_11 : decode cX5_copyFrom 11 = .ok (.iconst 0, 1) := by decide +kernel
theorem dX5_copyFrom_12 : decode cX5_copyFrom 12 = .ok (.istore_n 2, 1) := by decide +kernel
theorem dX5_copyFrom_13 : decode cX5_copyFrom 13 = .ok (.iload_n 2, 1) := by decide +kernel
theorem dX5_copyFrom_14 : decode cX5_copyFrom 14 = .ok (.aload_n 0, 1) := by decide +kernel
theorem dX5_copyFrom_15 : decode cX5_copyFrom 15 = .ok (.getfield 20, 3) := by decide +kernel
theorem dX5_copyFrom_18 : decode cX5_copyFrom 18 = .ok (.arraylength, 1) := by decide +kernel
theorem dX5_copyFrom_19 : decode cX5_copyFrom 19 = .ok (.if_icmp .ge 33, 3) := by decide +kernel
theorem dX5_copyFrom_22 : decode cX5_copyFrom 22 = .ok (.iload_n 2, 1) := by decide +kernel
theorem dX5_copyFrom_23 : decode cX5_copyFrom 23 = .ok (.aload_n 1, 1) := by decide +kernel
theorem dX5_copyFrom_24 : decode cX5_copyFrom 24 = .ok (.getfield 20, 3) := by decide +kernel
theorem dX5_copyFrom_27 : decode cX5_copyFrom 27 = .ok (.arraylength, 1) := by decide +kernel
theorem dX5_copyFrom_28 : decode cX5_copyFrom 28 = .ok (.if_icmp .ge 24, 3) := by decide +kernel
theorem dX5_copyFrom_31 : decode cX5_copyFrom 31 = .ok (.aload_n 0, 1) := by decide +kernel
theorem dX5_copyFrom_32 : decode cX5_copyFrom 32 = .ok (.getfield 20, 3) := by decide +kernel
theorem dX5_copyFrom_35 : decode cX5_copyFrom 35 = .ok (.iload_n 2, 1) := by decide +kernel
theorem dX5_copyFrom_36 : decode cX5_copyFrom 36 = .ok (.aaload, 1) := by decide +kernel
theorem dX5_copyFrom_37 : decode cX5_copyFrom 37 = .ok (.aload_n 1, 1) := by decide +kernel
theorem dX5_copyFrom_38 : decode cX5_copyFrom 38 = .ok (.getfield 20, 3) := by decide +kernel
theorem dX5_copyFrom_41 : decode cX5_copyFrom 41 = .ok (.iload_n 2, 1) := by decide +kernel
theorem dX5_copyFrom_42 : decode cX5_copyFrom 42 = .ok (.aaload, 1) := by decide +kernel
theorem dX5_copyFrom_43 : decode cX5_copyFrom 43 = .ok (.invokevirtual 170, 3) := by decide +kernel
theorem dX5_copyFrom_46 : decode cX5_copyFrom 46 = .ok (.iinc 2 1, 3) := by decide +kernel
theorem dX5_copyFrom_49 : decode cX5_copyFrom 49 = .ok (.goto (-36), 3) := by decide +kernel
theorem dX5_copyFrom_52 : decode cX5_copyFrom 52 = .ok (.aload_n 0, 1) := by decide +kernel
theorem dX5_copyFrom_53 : decode cX5_copyFrom 53 = .ok (.getfield 27, 3) := by decide +kernel
theorem dX5_copyFrom_56 : decode cX5_copyFrom 56 = .ok (.aload_n 1, 1) := by decide +kernel
theorem dX5_copyFrom_57 : decode cX5_copyFrom 57 = .ok (.getfield 27, 3) := by decide +kernel
theorem dX5_copyFrom_60 : decode cX5_copyFrom 60 = .ok (.invokevirtual 173, 3) := by decide +kernel
theorem dX5_copyFrom_63 : decode cX5_copyFrom 63 = .ok (.aload_n 0, 1) := by decide +kernel
theorem dX5_copyFrom_64 : decode cX5_copyFrom 64 = .ok (.aload_n 1, 1) := by decide +kernel
theorem dX5_copyFrom_65 : decode cX5_copyFrom 65 = .ok (.getfield 31, 3) := by decide +kernel
theorem dX5_copyFrom_68 : decode cX5_copyFrom 68 = .ok (.putfield 31, 3) := by decide +kernel
theorem dX5_copyFrom_71 : decode cX5_copyFrom 71 = .ok (.aload_n 0, 1) := by decide +kernel
theorem dX5_copyFrom_72 : decode cX5_copyFrom 72 = .ok (.aload_n 1, 1) := by decide +kernel
theorem dX5_copyFrom_73 : decode cX5_copyFrom 73 = .ok (.getfield 35, 3) := by decide +kernel
theorem dX5_copyFrom_76 : decode cX5_copyFrom 76 = .ok (.putfield 35, 3) := by decide +kernel
theorem dX5_copyFrom_79 : decode cX5_copyFrom 79 = .ok (.aload_n 0, 1) := by decide +kernel
theorem dX5_copyFrom_80 : decode cX5_copyFrom 80 = .ok (.aload_n 1, 1) := by decide +kernel
theorem dX5_copyFrom_81 : decode cX5_copyFrom 81 = .ok (.getfield 38, 3) := by decide +kernel
theorem dX5_copyFrom_84 : decode cX5_copyFrom 84 = .ok (.putfield 38, 3) := by decide +kernel
theorem dX5_copyFrom_87 : decode cX5_copyFrom 87 = .ok (.return_, 1) := by decide +kernel
