theorem dX6_init_0 : decode cX6_init 0 = .ok (.aload_n 0, 1) := by decide +kernel
theorem dX6_init_1 : decode cX6_init 1 = .ok (.invokespecial 1, 3) := by decide +kernel
theorem dX6_init_4 : decode cX6_init 4 = .ok (.aload_n 0, 1) := by decide +kernel
theorem dX6_init_5 : decode cX6_init 5 = .ok (.new 7, 3) := by decide +kernel
theorem dX6_init_8 : decode cX6_init 8 = .ok (.dup, 1) := by decide +kernel
theorem dX6_init_9 : decode cX6_init 9 = .ok (.invokespecial 9, 3) := by decide +kernel
theorem dX6_init_12 : decode cX6_init 12 = .ok (.putfield 10, 3) := by decide +kernel
theorem dX6_init_15 : decode cX6_init 15 = .ok (.aload_n 0, 1) := by decide +kernel
theorem dX6_init_16 : decode cX6_init 16 = .ok (.new 7, 3) := by decide +kernel
theorem dX6_init_19 : decode cX6_init 19 = .ok (.dup, 1) := by decide +kernel
theorem dX6_init_20 : decode cX6_init 20 = .ok (.invokespecial 9, 3) := by decide +kernel
theorem dX6_init_23 : decode cX6_init 23 = .ok (.putfield 16, 3) := by decide +kernel
theorem dX6_init_26 : decode cX6_init 26 = .ok (.aload_n 0, 1) := by decide +kernel
theorem dX6_init_27 : decode cX6_init 27 = .ok (.bipush 8, 2) := by decide +kernel
theorem dX6_init_29 : decode cX6_init 29 = .ok (.anewarray 7, 3) := by decide +kernel
theorem dX6_init_32 : decode cX6_init 32 = .ok (.putfield 19, 3) := by decide +kernel
theorem dX6_init_35 : decode cX6_init 35 = .ok (.aload_n 0, 1) := by decide +kernel
theorem dX6_init_36 : decode cX6_init 36 = .ok (.iconst 2, 1) := by decide +kernel
theorem dX6_init_37 : decode cX6_init 37 = .ok (.anewarray 7, 3) := by decide +kernel
theorem dX6_init_40 : decode cX6_init 40 = .ok (.putfield 23, 3) := by decide +kernel
theorem dX6_init_43 : decode cX6_init 43 = .ok (.aload_n 0, 1) := by decide +kernel
theorem dX6_init_44 : decode cX6_init 44 = .ok (.iconst 2, 1) := by decide +kernel
theorem dX6_init_45 : decode cX6_init 45 = .ok (.newarray .boolean, 2) := by decide +kernel
theorem dX6_init_47 : decode cX6_init 47 = .ok (.putfield 26, 3) := by decide +kernel
theorem dX6_init_50 : decode cX6_init 50 = .ok (.aload_n 0, 1) := by decide +kernel
theorem dX6_init_51 : decode cX6_init 51 = .ok (.iconst 0, 1) := by decide +kernel
theorem dX6_init_52 : decode cX6_init 52 = .ok (.putfield 30, 3) := by decide +kernel
theorem dX6_init_55 : decode cX6_init 55 = .ok (.iconst 0, 1) := by decide +kernel
theorem dX6_init_56 : decode cX6_init 56 = .ok (.istore_n 1, 1) := by decide +kernel
theorem dX6_init_57 : decode cX6_init 57 = .ok (.iload_n 1, 1) := by decide +kernel
theorem dX6_init_58 : decode cX6_init 58 = .ok (.aload_n 0, 1) := by decide +kernel
theorem dX6_init_59 : decode cX6_init 59 = .ok (.getfield 19, 3) := by decide +kernel
theorem dX6_init_62 : decode cX6_init 62 = .ok (.arraylength, 1) := by decide +kernel
theorem dX6_init_63 : decode cX6_init 63 = .ok (.if_icmp .ge 22, 3) := by decide +kernel
theorem dX6_init_66 : decode cX6_init 66 = .ok (.aload_n 0, 1) := by decide +kernel
theorem dX6_init_67 : decode cX6_init 67 = .ok (.getfield 19, 3) := by decide +kernel
theorem dX6_init_70 : decode cX6_init 70 = .ok (.iload_n 1, 1) := by decide +kernel
theorem dX6_init_71 : decode cX6_init 71 = .ok (.new 7, 3) := by decide +kernel
theorem dX6_init_74 : decode cX6_init 74 = .ok (.dup, 1) := by decide +kernel
theorem dX6_init_75 : decode cX6_init 75 = .ok (.invokespecial 9, 3) := by decide +kernel
theorem dX6_init_78 : decode cX6_init 78 = .ok (.aastore, 1) := by decide +kernel
theorem dX6_init_79 : decode cX6_init 79 = .ok (.iinc 1 1, 3) := by decide +kernel
theorem dX6_init_82 : decode cX6_init 82 = .ok (.goto (-25), 3) := by decide +kernel
theorem dX6_init_85 : decode cX6_init 85 = .ok (.iconst 0, 1) := by decide +kernel
theorem dX6_init_86 : decode cX6_init 86 = .ok (.istore_n 1, 1) := by decide +kernel
theorem dX6_init_87 : decode cX6_init 87 = .ok (.iload_n 1, 1) := by decide +kernel
theorem dX6_init_88 : decode cX6_init 88 = .ok (.aload_n 0, 1) := by decide +kernel
theorem dX6_init_89 : decode cX6_init 89 = .ok (.getfield 23, 3) := by decide +kernel
theorem dX6_init_92 : decode cX6_init 92 = .ok (.arraylength, 1) := by decide +kernel
theorem dX6_init_93 : decode cX6_init 93 = .ok (.if_icmp .ge 22, 3) := by decide +kernel
theorem dX6_init_96 : decode cX6_init 96 = .ok (.aload_n 0, 1) := by decide +kernel
theorem dX6_init_97 : decode cX6_init 97 = .ok (.getfield 23, 3) := by decide +kernel
theorem dX6_init_100 : decode cX6_init 100 = .ok (.iload_n 1, 1) := by decide +kernel
theorem dX6_init_101 : decode cX6_init 101 = .ok (.new 7, 3) := by decide +kernel
theorem dX6_init_104 : decode cX6_init 104 = .ok (.dup, 1) := by decide +kernel
theorem dX6_init_105 : decode cX6_init 105 = .ok (.invokespecial 9, 3) := by decide +kernel
theorem dX6_init_108 : decode cX6_init 108 = .ok (.aastore, 1) := by decide +kernel
theorem dX6_init_109 : decode cX6_init 109 = .ok (.iinc 1 1, 3) := by decide +kernel
theorem dX6_init_112 : decode cX6_init 112 = .ok (.goto (-25), 3) := by decide +kernel
theorem dX6_init_115 : decode cX6_init 115 = .ok (.return_, 1) := by decide +kernel
theorem dX6_begin_0 : decode cX6_begin 0 = .ok (.iload_n 1, 1) := by decide +kernel
theorem dX6_begin_1 : decode cX6_begin 1 = .ok (.iconst 2, 1) := by decide +kernel
theorem dX6_begin_2 : decode cX6_begin 2 = .ok (.bipush 12, 2) := by decide +kernel
theorem dX6_begin_4 : decode cX6_begin 4 = .ok (.invokestatic 34, 3) := by decide +kernel
theorem dX6_begin_7 : decode cX6_begin 7 = .ok (.ifCond .eq 12, 3) := by decide +kernel
theorem dX6_begin_10 : decode cX6_begin 10 = .ok (.iload_n 2, 1) := by decide +kernel
theorem dX6_begin_11 : decode cX6_begin 11 = .ok (.iconst 0, 1) := by decide +kernel
theorem dX6_begin_12 : decode cX6_begin 12 = .ok (.iconst 3, 1) := by decide +kernel
theorem dX6_begin_13 : decode cX6_begin 13 = .ok (.invokestatic 34, 3) := by decide +kernel
theorem dX6_begin_16 : decode cX6_begin 16 = .ok (.ifCond .ne 5, 3) := by decide +kernel
theorem dX6_begin_19 : decode cX6_begin 19 = .ok (.iconst (-1), 1) := by decide +kernel
theorem dX6_begin_20 : decode cX6_begin 20 = .ok (.ireturn, 1) := by decide +kernel
theorem dX6_begin_21 : decode cX6_begin 21 = .ok (.aload_n 0, 1) := by decide +kernel
theorem dX6_begin_22 : decode cX6_begin 22 = .ok (.invokevirtual 38, 3) := by decide +kernel
theorem dX6_begin_25 : decode cX6_begin 25 = .ok (.aload_n 0, 1) := by decide +kernel
theorem dX6_begin_26 : decode cX6_begin 26 = .ok (.getfield 10, 3) := by decide +kernel
theorem dX6_begin_29 : decode cX6_begin 29 = .ok (.getfield 41, 3) := by decide +kernel
theorem dX6_begin_32 : decode cX6_begin 32 = .ok (.istore_n 3, 1) := by decide +kernel
theorem dX6_begin_33 : decode cX6_begin 33 = .ok (.aload_n 0, 1) := by decide +kernel
theorem dX6_begin_34 : decode cX6_begin 34 = .ok (.getfield 10, 3) := by decide +kernel
theorem dX6_begin_37 : decode cX6_begin 37 = .ok (.iload_n 1, 1) := by decide +kernel
theorem dX6_begin_38 : decode cX6_begin 38 = .ok (.iload_n 2, 1) := by decide +kernel
theorem dX6_begin_39 : decode cX6_begin 39 = .ok (.invokevirtual 44, 3) := by decide +kernel
theorem dX6_begin_42 : decode cX6_begin 42 = .ok (.iload_n 3, 1) := by decide +kernel
theorem dX6_begin_43 : decode cX6_begin 43 = .ok (.ireturn, 1) := by decide +kernel
theorem dX6_setBlock_0 : decode cX6_setBlock 0 = .ok (.aload_n 0, 1) := by decide +kernel
theorem dX6_setBlock_1 : decode cX6_setBlock 1 = .ok (.iload_n 1, 1) := by decide +kernel
theorem dX6_setBlock_2 : decode cX6_setBlock 2 = .ok (.invokevirtual 48, 3) := by decide +kernel
theorem dX6_setBlock_5 : decode cX6_setBlock 5 = .ok (.ifCond .eq 14, 3) := by decide +kernel
theorem dX6_setBlock_8 : decode cX6_setBlock 8 = .ok (.iload_n 2, 1) := by decide +kernel
theorem dX6_setBlock_9 : decode cX6_setBlock 9 = .ok (.iconst 0, 1) := by decide +kernel
theorem dX6_setBlock_10 : decode cX6_setBlock 10 = .ok (.sipush 255, 3) := by decide +kernel
theorem dX6_setBlock_13 : decode cX6_setBlock 13 = .ok (.invokestatic 34, 3) := by decide +kernel
theorem dX6_setBlock_16 : decode cX6_setBlock 16 = .ok (.ifCond .ne 5, 3) := by decide +kernel
theorem dX6_setBlock_19 : decode cX6_setBlock 19 = .ok (.iconst (-1), 1) := by decide +kernel
theorem dX6_setBlock_20 : decode cX6_setBlock 20 = .ok (.ireturn, 1) := by decide +kernel
theorem dX6_setBlock_21 : decode cX6_setBlock 21 = .ok (.aload_n 0, 1) := by decide +kernel
theorem dX6_setBlock_22 : decode cX6_setBlock 22 = .ok (.getfield 10, 3) := by decide +kernel
theorem dX6_setBlock_25 : decode cX6_setBlock 25 = .ok (.getfield 41, 3) := by decide +kernel
theorem dX6_setBlock_28 : decode cX6_setBlock 28 = .ok (.ifCond .ne 16, 3) := by decide +kernel
theorem dX6_setBlock_31 : decode cX6_setBlock 31 = .ok (.aload_n 0, 1) := by decide +kernel
theorem dX6_setBlock_32 : decode cX6_setBlock 32 = .ok (.getfield 10, 3) := by decide +kernel
theorem dX6_setBlock_35 : decode cX6_setBlock 35 = .ok (.getfield 52, 3) := by decide +kernel
theorem dX6_setBlock_38 : decode cX6_setBlock 38 = .ok (.getfield 56, 3) := by decide +kernel
theorem dX6_setBlock_41 : decode cX6_setBlock 41 = .ok (.ifCond .eq 6, 3) := by decide +kernel
theorem dX6_setBlock_44 : decode cX6_setBlock 44 = .ok (.bipush (-2), 2) := by decide +kernel
theorem dX6_setBlock_46 : decode cX6_setBlock 46 = .ok (.ireturn, 1) := by decide +kernel
theorem dX6_setBlock_47 : decode cX6_setBlock 47 = .ok (.aload_n 0, 1) := by decide +kernel
theorem dX6_setBlock_48 : decode cX6_setBlock 48 = .ok (.invokevirtual 38, 3) := by decide +kernel
theorem dX6_setBlock_51 : decode cX6_setBlock 51 = .ok (.aload_n 0, 1) := by decide +kernel
theorem dX6_setBlock_52 : decode cX6_setBlock 52 = .ok (.getfield 10, 3) := by decide +kernel
theorem dX6_setBlock_55 : decode cX6_setBlock 55 = .ok (.getfield 61, 3) := by decide +kernel
theorem dX6_setBlock_58 : decode cX6_setBlock 58 = .ok (.getfield 65, 3) := by decide +kernel
theorem dX6_setBlock_61 : decode cX6_setBlock 61 = .ok (.iload_n 1, 1) := by decide +kernel
theorem dX6_setBlock_62 : decode cX6_setBlock 62 = .ok (.iaload, 1) := by decide +kernel
theorem dX6_setBlock_63 : decode cX6_setBlock 63 = .ok (.istore_n 3, 1) := by decide +kernel
theorem dX6_setBlock_64 : decode cX6_setBlock 64 = .ok (.aload_n 0, 1) := by decide +kernel
theorem dX6_setBlock_65 : decode cX6_setBlock 65 = .ok (.getfield 10, 3) := by decide +kernel
theorem dX6_setBlock_68 : decode cX6_setBlock 68 = .ok (.getfield 61, 3) := by decide +kernel
theorem dX6_setBlock_71 : decode cX6_setBlock 71 = .ok (.getfield 65, 3) := by decide +kernel
theorem dX6_setBlock_74 : decode cX6_setBlock 74 = .ok (.iload_n 1, 1) := by decide +kernel
theorem dX6_setBlock_75 : decode cX6_setBlock 75 = .ok (.iload_n 2, 1) := by decide +kernel
theorem dX6_setBlock_76 : decode cX6_setBlock 76 = .ok (.iastore, 1) := by decide +kernel
theorem dX6_setBlock_77 : decode cX6_setBlock 77 = .ok (.iload_n 3, 1) := by decide +kernel
theorem dX6_setBlock_78 : decode cX6_setBlock 78 = .ok (.ireturn, 1) := by decide +kernel
theorem dX6_setLoss_0 : decode cX6_setLoss 0 = .ok (.aload_n 0, 1) := by decide +kernel
theorem dX6_setLoss_1 : decode cX6_setLoss 1 = .ok (.iload_n 1, 1) := by decide +kernel
theorem dX6_setLoss_2 : decode cX6_setLoss 2 = .ok (.invokevirtual 71, 3) := by decide +kernel
theorem dX6_setLoss_5 : decode cX6_setLoss 5 = .ok (.ifCond .eq 13, 3) := by decide +kernel
theorem dX6_setLoss_8 : decode cX6_setLoss 8 = .ok (.iload_n 2, 1) := by decide +kernel
theorem dX6_setLoss_9 : decode cX6_setLoss 9 = .ok (.iconst 0, 1) := by decide +kernel
theorem dX6_setLoss_10 : decode cX6_setLoss 10 = .ok (.bipush 99, 2) := by decide +kernel
theorem dX6_setLoss_12 : decode cX6_setLoss 12 = .ok (.invokestatic 34, 3) := by decide +kernel
theorem dX6_setLoss_15 : decode cX6_setLoss 15 = .ok (.ifCond .ne 5, 3) := by decide +kernel
theorem dX6_setLoss_18 : decode cX6_setLoss 18 = .ok (.iconst (-1), 1) := by decide +kernel
theorem dX6_setLoss_19 : decode cX6_setLoss 19 = .ok (.ireturn, 1) := by decide +kernel
theorem dX6_setLoss_20 : decode cX6_setLoss 20 = .ok (.aload_n 0, 1) := by decide +kernel
theorem dX6_setLoss_21 : decode cX6_setLoss 21 = .ok (.invokevirtual 38, 3) := by decide +kernel
theorem dX6_setLoss_24 : decode cX6_setLoss 24 = .ok (.aload_n 0, 1) := by decide +kernel
theorem dX6_setLoss_25 : decode cX6_setLoss 25 = .ok (.getfield 10, 3) := by decide +kernel
theorem dX6_setLoss_28 : decode cX6_setLoss 28 = .ok (.getfield 61, 3) := by decide +kernel
theorem dX6_setLoss_31 : decode cX6_setLoss 31 = .ok (.getfield 74, 3) := by decide +kernel
theorem dX6_setLoss_34 : decode cX6_setLoss 34 = .ok (.iload_n 1, 1) := by decide +kernel
theorem dX6_setLoss_35 : decode cX6_setLoss 35 = .ok (.iaload, 1) := by decide +kernel
theorem dX6_setLoss_36 : decode cX6_setLoss 36 = .ok (.istore_n 3, 1) := by decide +kernel
theorem dX6_setLoss_37 : decode cX6_setLoss 37 = .ok (.aload_n 0, 1) := by decide +kernel
theorem dX6_setLoss_38 : decode cX6_setLoss 38 = .ok (.getfield 10, 3) := by decide +kernel
theorem dX6_setLoss_41 : decode cX6_setLoss 41 = .ok (.getfield 61, 3) := by decide +kernel
theorem dX6_setLoss_44 : decode cX6_setLoss 44 = .ok (.getfield 74, 3) := by decide +kernel
theorem dX6_setLoss_47 : decode cX6_setLoss 47 = .ok (.iload_n 1, 1) := by decide +kernel
theorem dX6_setLoss_48 : decode cX6_setLoss 48 = .ok (.iload_n 2, 1) := by decide +kernel
theorem dX6_setLoss_49 : decode cX6_setLoss 49 = .ok (.iastore, 1) := by decide +kernel
theorem dX6_setLoss_50 : decode cX6_setLoss 50 = .ok (.iload_n 3, 1) := by decide +kernel
theorem dX6_setLoss_51 : decode cX6_setLoss 51 = .ok (.ireturn, 1) := by decide +kernel
theorem dX6_setWeight_0 : decode cX6_setWeight 0 = .ok (.iload_n 1, 1) := by decide +kernel
theorem dX6_setWeight_1 : decode cX6_setWeight 1 = .ok (.iconst 1, 1) := by decide +kernel
theorem dX6_setWeight_2 : decode cX6_setWeight 2 = .ok (.bipush 6, 2) := by decide +kernel
theorem dX6_setWeight_4 : decode cX6_setWeight 4 = .ok (.invokestatic 34, 3) := by decide +kernel
theorem dX6_setWeight_7 : decode cX6_setWeight 7 = .ok (.ifCond .eq 13, 3) := by decide +kernel
theorem dX6_setWeight_10 : decode cX6_setWeight 10 = .ok (.iload_n 2, 1) := by decide +kernel
theorem dX6_setWeight_11 : decode cX6_setWeight 11 = .ok (.iconst 0, 1) := by decide +kernel
theorem dX6_setWeight_12 : decode cX6_setWeight 12 = .ok (.bipush 9, 2) := by decide +kernel
theorem dX6_setWeight_14 : decode cX6_setWeight 14 = .ok (.invokestatic 34, 3) := by decide +kernel
theorem dX6_setWeight_17 : decode cX6_setWeight 17 = .ok (.ifCond .ne 5, 3) := by decide +kernel
theorem dX6_setWeight_20 : decode cX6_setWeight 20 = .ok (.iconst (-1), 1) := by decide +kernel
theorem dX6_setWeight_21 : decode cX6_setWeight 21 = .ok (.ireturn, 1) := by decide +kernel
theorem dX6_setWeight_22 : decode cX6_setWeight 22 = .ok (.aload_n 0, 1) := by decide +kernel
theorem dX6_setWeight_23 : decode cX6_setWeight 23 = .ok (.getfield 10, 3) := by decide +kernel
theorem dX6_setWeight_26 : decode cX6_setWeight 26 = .ok (.getfield 61, 3) := by decide +kernel
theorem dX6_setWeight_29 : decode cX6_setWeight 29 = .ok (.getfield 77, 3) := by decide +kernel
theorem dX6_setWeight_32 : decode cX6_setWeight 32 = .ok (.iload_n 1, 1) := by decide +kernel
theorem dX6_setWeight_33 : decode cX6_setWeight 33 = .ok (.iaload, 1) := by decide +kernel
theorem dX6_setWeight_34 : decode cX6_setWeight 34 = .ok (.istore_n 3, 1) := by decide +kernel
theorem dX6_setWeight_35 : decode cX6_setWeight 35 = .ok (.aload_n 0, 1) := by decide +kernel
theorem dX6_setWeight_36 : decode cX6_setWeight 36 = .ok (.getfield 10, 3) := by decide +kernel
theorem dX6_setWeight_39 : decode cX6_setWeight 39 = .ok (.getfield 61, 3) := by decide +kernel
theorem dX6_setWeight_42 : decode cX6_setWeight 42 = .ok (.invokevirtual 80, 3) := by decide +kernel
theorem dX6_setWeight_45 : decode cX6_setWeight 45 = .ok (.iload_n 3, 1) := by decide +kernel
theorem dX6_setWeight_46 : decode cX6_setWeight 46 = .ok (.isub, 1) := by decide +kernel
theorem dX6_setWeight_47 : decode cX6_setWeight 47 = .ok (.iload_n 2, 1) := by decide +kernel
theorem dX6_setWeight_48 : decode cX6_setWeight 48 = .ok (.iadd, 1) := by decide +kernel
theorem dX6_setWeight_49 : decode cX6_setWeight 49 = .ok (.ifCond .ne 6, 3) := by decide +kernel
theorem dX6_setWeight_52 : decode cX6_setWeight 52 = .ok (.bipush (-2), 2) := by decide +kernel
theorem dX6_setWeight_54 : decode cX6_setWeight 54 = .ok (.ireturn, 1) := by decide +kernel
theorem dX6_setWeight_55 : decode cX6_setWeight 55 = .ok (.aload_n 0, 1) := by decide +kernel
theorem dX6_setWeight_56 : decode cX6_setWeight 56 = .ok (.invokevirtual 38, 3) := by decide +kernel
theorem dX6_setWeight_59 : decode cX6_setWeight 59 = .ok (.aload_n 0, 1) := by decide +kernel
theorem dX6_setWeight_60 : decode cX6_setWeight 60 = .ok (.getfield 10, 3) := by decide +kernel
theorem dX6_setWeight_63 : decode cX6_setWeight 63 = .ok (.getfield 61, 3) := by decide +kernel
theorem dX6_setWeight_66 : decode cX6_setWeight 66 = .ok (.getfield 77, 3) := by decide +kernel
theorem dX6_setWeight_69 : decode cX6_setWeight 69 = .ok (.iload_n 1, 1) := by decide +kernel
theorem dX6_setWeight_70 : decode cX6_setWeight 70 = .ok (.iload_n 2, 1) := by decide +kernel
theorem dX6_setWeight_71 : decode cX6_setWeight 71 = .ok (.iastore, 1) := by decide +kernel
theorem dX6_setWeight_72 : decode cX6_setWeight 72 = .ok (.iload_n 3, 1) := by decide +kernel
theorem dX6_setWeight_73 : decode cX6_setWeight 73 = .ok (.ireturn, 1) := by decide +kernel
theorem dX6_set_0 : decode cX6_set 0 = .ok (.iload_n 1, 1) := by decide +kernel
theorem dX6_set_1 : decode cX6_set 1 = .ok (.iload_n 2, 1) := by decide +kernel
theorem dX6_set_2 : decode cX6_set 2 = .ok (.invokestatic 84, 3) := by decide +kernel
theorem dX6_set_5 : decode cX6_set 5 = .ok (.ifCond .ne 5, 3) := by decide +kernel
theorem dX6_set_8 : decode cX6_set 8 = .ok (.iconst (-1), 1) := by decide +kernel
theorem dX6_set_9 : decode cX6_set 9 = .ok (.ireturn, 1) := by decide +kernel
theorem dX6_set_10 : decode cX6_set 10 = .ok (.aload_n 0, 1) := by decide +kernel
theorem dX6_set_11 : decode cX6_set 11 = .ok (.invokevirtual 38, 3) := by decide +kernel
theorem dX6_set_14 : decode cX6_set 14 = .ok (.iload_n 1, 1) := by decide +kernel
theorem dX6_set_15 : decode cX6_set 15 = .ok (.tableswitch 58 0 2 #[25, 34, 46], 25) := by decide +kernel
theorem dX6_set_40 : decode cX6_set 40 = .ok (.aload_n 0, 1) := by decide +kernel
theorem dX6_set_41 : decode cX6_set 41 = .ok (.getfield 10, 3) := by decide +kernel
theorem dX6_set_44 : decode cX6_set 44 = .ok (.iload_n 2, 1) := by decide +kernel
theorem dX6_set_45 : decode cX6_set 45 = .ok (.invokevirtual 88, 3) := by decide +kernel
theorem dX6_set_48 : decode cX6_set 48 = .ok (.ireturn, 1) := by decide +kernel
theorem dX6_set_49 : decode cX6_set 49 = .ok (.aload_n 0, 1) := by decide +kernel
theorem dX6_set_50 : decode cX6_set 50 = .ok (.getfield 10, 3) := by decide +kernel
theorem dX6_set_53 : decode cX6_set 53 = .ok (.getfield 61, 3) := by decide +kernel
theorem dX6_set_56 : decode cX6_set 56 = .ok (.iload_n 2, 1) := by decide +kernel
theorem dX6_set_57 : decode cX6_set 57 = .ok (.invokevirtual 92, 3) := by decide +kernel
theorem dX6_set_60 : decode cX6_set 60 = .ok (.ireturn, 1) := by decide +kernel
theorem dX6_set_61 : decode cX6_set 61 = .ok (.aload_n 0, 1) := by decide +kernel
theorem dX6_set_62 : decode cX6_set 62 = .ok (.getfield 10, 3) := by decide +kernel
theorem dX6_set_65 : decode cX6_set 65 = .ok (.getfield 61, 3) := by decide +kernel
theorem dX6_set_68 : decode cX6_set 68 = .ok (.iload_n 2, 1) := by decide +kernel
theorem dX6_set_69 : decode cX6_set 69 = .ok (.invokevirtual 95, 3) := by decide +kernel
theorem dX6_set_72 : decode cX6_set 72 = .ok (.ireturn, 1) := by decide +kernel
theorem dX6_set_73 : decode cX6_set 73 = .ok (.aload_n 0, 1) := by decide +kernel
theorem dX6_set_74 : decode cX6_set 74 = .ok (.getfield 10, 3) := by decide +kernel
theorem dX6_set_77 : decode cX6_set 77 = .ok (.getfield 61, 3) := by decide +kernel
theorem dX6_set_80 : decode cX6_set 80 = .ok (.iload_n 2, 1) := by decide +kernel
theorem dX6_set_81 : decode cX6_set 81 = .ok (.invokevirtual 98, 3) := by decide +kernel
theorem dX6_set_84 : decode cX6_set 84 = .ok (.ireturn, 1) := by decide +kernel
theorem dX6_run_0 : decode cX6_run 0 = .ok (.iload_n 1, 1) := by decide +kernel
theorem dX6_run_1 : decode cX6_run 1 = .ok (.iconst 1, 1) := by decide +kernel
theorem dX6_run_2 : decode cX6_run 2 = .ok (.bipush 100, 2) := by decide +kernel
theorem dX6_run_4 : decode cX6_run 4 = .ok (.invokestatic 34, 3) := by decide +kernel
theorem dX6_run_7 : decode cX6_run 7 = .ok (.ifCond .ne 5, 3) := by decide +kernel
theorem dX6_run_10 : decode cX6_run 10 = .ok (.iconst (-1), 1) := by decide +kernel
theorem dX6_run_11 : decode cX6_run 11 = .ok (.ireturn, 1) := by decide +kernel
theorem dX6_run_12 : decode cX6_run 12 = .ok (.aload_n 0, 1) := by decide +kernel
theorem dX6_run_13 : decode cX6_run 13 = .ok (.invokevirtual 38, 3) := by decide +kernel
theorem dX6_run_16 : decode cX6_run 16 = .ok (.iconst 0, 1) := by decide +kernel
theorem dX6_run_17 : decode cX6_run 17 = .ok (.istore_n 2, 1) := by decide +kernel
theorem dX6_run_18 : decode cX6_run 18 = .ok (.iload_n 2, 1) := by decide +kernel
theorem dX6_run_19 : decode cX6_run 19 = .ok (.iload_n 1, 1) := by decide +kernel
theorem dX6_run_20 : decode cX6_run 20 = .ok (.if_icmp .ge 16, 3) := by decide +kernel
theorem dX6_run_23 : decode cX6_run 23 = .ok (.aload_n 0, 1) := by decide +kernel
theorem dX6_run_24 : decode cX6_run 24 = .ok (.getfield 10, 3) := by decide +kernel
theorem dX6_run_27 : decode cX6_run 27 = .ok (.invokevirtual 101, 3) := by decide +kernel
theorem dX6_run_30 : decode cX6_run 30 = .ok (.iinc 2 1, 3) := by decide +kernel
theorem dX6_run_33 : decode cX6_run 33 = .ok (.goto (-15), 3) := by decide +kernel
theorem dX6_run_36 : decode cX6_run 36 = .ok (.aload_n 0, 1) := by decide +kernel
theorem dX6_run_37 : decode cX6_run 37 = .ok (.getfield 10, 3) := by decide +kernel
theorem dX6_run_40 : decode cX6_run 40 = .ok (.getfield 52, 3) := by decide +kernel
theorem dX6_run_43 : decode cX6_run 43 = .ok (.getfield 104, 3) := by decide +kernel
theorem dX6_run_46 : decode cX6_run 46 = .ok (.getfield 108, 3) := by decide +kernel
theorem dX6_run_49 : decode cX6_run 49 = .ok (.ireturn, 1) := by decide +kernel
theorem dX6_inject_0 : decode cX6_inject 0 = .ok (.aload_n 0, 1) := by decide +kernel
theorem dX6_inject_1 : decode cX6_inject 1 = .ok (.iload_n 1, 1) := by decide +kernel
theorem dX6_inject_2 : decode cX6_inject 2 = .ok (.invokevirtual 113, 3) := by decide +kernel
theorem dX6_inject_5 : decode cX6_inject 5 = .ok (.ifCond .ne 5, 3) := by decide +kernel
theorem dX6_inject_8 : decode cX6_inject 8 = .ok (.iconst (-1), 1) := by decide +kernel
theorem dX6_inject_9 : decode cX6_inject 9 = .ok (.ireturn, 1) := by decide +kernel
theorem dX6_inject_10 : decode cX6_inject 10 = .ok (.aload_n 0, 1) := by decide +kernel
theorem dX6_inject_11 : decode cX6_inject 11 = .ok (.invokevirtual 38, 3) := by decide +kernel
theorem dX6_inject_14 : decode cX6_inject 14 = .ok (.aload_n 0, 1) := by decide +kernel
theorem dX6_inject_15 : decode cX6_inject 15 = .ok (.getfield 10, 3) := by decide +kernel
theorem dX6_inject_18 : decode cX6_inject 18 = .ok (.getfield 52, 3) := by decide +kernel
theorem dX6_inject_21 : decode cX6_inject 21 = .ok (.aload_n 0, 1) := by decide +kernel
theorem dX6_inject_22 : decode cX6_inject 22 = .ok (.getfield 10, 3) := by decide +kernel
theorem dX6_inject_25 : decode cX6_inject 25 = .ok (.getfield 61, 3) := by decide +kernel
theorem dX6_inject_28 : decode cX6_inject 28 = .ok (.iload_n 1, 1) := by decide +kernel
theorem dX6_inject_29 : decode cX6_inject 29 = .ok (.invokevirtual 116, 3) := by decide +kernel
theorem dX6_inject_32 : decode cX6_inject 32 = .ok (.aload_n 0, 1) := by decide +kernel
theorem dX6_inject_33 : decode cX6_inject 33 = .ok (.getfield 10, 3) := by decide +kernel
theorem dX6_inject_36 : decode cX6_inject 36 = .ok (.getfield 41, 3) := by decide +kernel
theorem dX6_inject_39 : decode cX6_inject 39 = .ok (.invokevirtual 119, 3) := by decide +kernel
theorem dX6_inject_42 : decode cX6_inject 42 = .ok (.ifCond .eq 7, 3) := by decide +kernel
theorem dX6_inject_45 : decode cX6_inject 45 = .ok (.iconst 1, 1) := by decide +kernel
theorem dX6_inject_46 : decode cX6_inject 46 = .ok (.goto 4, 3) := by decide +kernel
theorem dX6_inject_49 : decode cX6_inject 49 = .ok (.iconst 0, 1) := by decide +kernel
theorem dX6_inject_50 : decode cX6_inject 50 = .ok (.ireturn, 1) := by decide +kernel
theorem dX6_undo_0 : decode cX6_undo 0 = .ok (.aload_n 0, 1) := by decide +kernel
theorem dX6_undo_1 : decode cX6_undo 1 = .ok (.getfield 30, 3) := by decide +kernel
theorem dX6_undo_4 : decode cX6_undo 4 = .ok (.iconst 1, 1) := by decide +kernel
theorem dX6_undo_5 : decode cX6_undo 5 = .ok (.bipush 8, 2) := by decide +kernel
theorem dX6_undo_7 : decode cX6_undo 7 = .ok (.invokestatic 34, 3) := by decide +kernel
theorem dX6_undo_10 : decode cX6_undo 10 = .ok (.ifCond .ne 6, 3) := by decide +kernel
theorem dX6_undo_13 : decode cX6_undo 13 = .ok (.bipush (-2), 2) := by decide +kernel
theorem dX6_undo_15 : decode cX6_undo 15 = .ok (.ireturn, 1) := by decide +kernel
theorem dX6_undo_16 : decode cX6_undo 16 = .ok (.aload_n 0, 1) := by decide +kernel
theorem dX6_undo_17 : decode cX6_undo 17 = .ok (.dup, 1) := by decide +kernel
theorem dX6_undo_18 : decode cX6_undo 18 = .ok (.getfield 30, 3) := by decide +kernel
theorem dX6_undo_21 : decode cX6_undo 21 = .ok (.iconst 1, 1) := by decide +kernel
theorem dX6_undo_22 : decode cX6_undo 22 = .ok (.isub, 1) := by decide +kernel
theorem dX6_undo_23 : decode cX6_undo 23 = .ok (.putfield 30, 3) := by decide +kernel
theorem dX6_undo_26 : decode cX6_undo 26 = .ok (.aload_n 0, 1) := by decide +kernel
theorem dX6_undo_27 : decode cX6_undo 27 = .ok (.getfield 10, 3) := by decide +kernel
theorem dX6_undo_30 : decode cX6_undo 30 = .ok (.aload_n 0, 1) := by decide +kernel
theorem dX6_undo_31 : decode cX6_undo 31 = .ok (.getfield 19, 3) := by decide +kernel
theorem dX6_undo_34 : decode cX6_undo 34 = .ok (.aload_n 0, 1) := by decide +kernel
theorem dX6_undo_35 : decode cX6_undo 35 = .ok (.getfield 30, 3) := by decide +kernel
theorem dX6_undo_38 : decode cX6_undo 38 = .ok (.aaload, 1) := by decide +kernel
theorem dX6_undo_39 : decode cX6_undo 39 = .ok (.invokevirtual 122, 3) := by decide +kernel
theorem dX6_undo_42 : decode cX6_undo 42 = .ok (.aload_n 0, 1) := by decide +kernel
theorem dX6_undo_43 : decode cX6_undo 43 = .ok (.getfield 30, 3) := by decide +kernel
theorem dX6_undo_46 : decode cX6_undo 46 = .ok (.ireturn, 1) := by decide +kernel
theorem dX6_told_0 : decode cX6_told 0 = .ok (.aload_n 0, 1) := by decide +kernel
theorem dX6_told_1 : decode cX6_told 1 = .ok (.getfield 10, 3) := by decide +kernel
theorem dX6_told_4 : decode cX6_told 4 = .ok (.getfield 61, 3) := by decide +kernel
theorem dX6_told_7 : decode cX6_told 7 = .ok (.astore_n 2, 1) := by decide +kernel
theorem dX6_told_8 : decode cX6_told 8 = .ok (.aload_n 0, 1) := by decide +kernel
theorem dX6_told_9 : decode cX6_told 9 = .ok (.getfield 10, 3) := by decide +kernel
theorem dX6_told_12 : decode cX6_told 12 = .ok (.getfield 52, 3) := by decide +kernel
theorem dX6_told_15 : decode cX6_told 15 = .ok (.astore_n 3, 1) := by decide +kernel
theorem dX6_told_16 : decode cX6_told 16 = .ok (.iload_n 1, 1) := by decide +kernel
theorem dX6_told_17 : decode cX6_told 17 = .ok (.tableswitch 189 0 16 #[83, 88, 93, 101, 106, 111, 116, 121, 129, 137, 142, 147, 155, 163, 171, 179, 184], 83) := by decide +kernel
theorem dX6_told_100 : decode cX6_told 100 = .ok (.aload_n 2, 1) := by decide +kernel
theorem dX6_told_101 : decode cX6_told 101 = .ok (.getfield 126, 3) := by decide +kernel
theorem dX6_told_104 : decode cX6_told 104 = .ok (.ireturn, 1) := by decide +kernel
theorem dX6_told_105 : decode cX6_told 105 = .ok (.aload_n 2, 1) := by decide +kernel
theorem dX6_told_106 : decode cX6_told 106 = .ok (.getfield 129, 3) := by decide +kernel
theorem dX6_told_109 : decode cX6_told 109 = .ok (.ireturn, 1) := by decide +kernel
theorem dX6_told_110 : decode cX6_told 110 = .ok (.aload_n 0, 1) := by decide +kernel
theorem dX6_told_111 : decode cX6_told 111 = .ok (.getfield 10, 3) := by decide +kernel
theorem dX6_told_114 : decode cX6_told 114 = .ok (.getfield 41, 3) := by decide +kernel
theorem dX6_told_117 : decode cX6_told 117 = .ok (.ireturn, 1) := by decide +kernel
theorem dX6_told_118 : decode cX6_told 118 = .ok (.aload_n 2, 1) := by decide +kernel
theorem dX6_told_119 : decode cX6_told 119 = .ok (.getfield 132, 3) := by decide +kernel
theorem dX6_told_122 : decode cX6_told 122 = .ok (.ireturn, 1) := by decide +kernel
theorem dX6_told_123 : decode cX6_told 123 = .ok (.aload_n 2, 1) := by decide +kernel
theorem dX6_told_124 : decode cX6_told 124 = .ok (.getfield 135, 3) := by decide +kernel
theorem dX6_told_127 : decode cX6_told 127 = .ok (.ireturn, 1) := by decide +kernel
theorem dX6_told_128 : decode cX6_told 128 = .ok (.aload_n 2, 1) := by decide +kernel
theorem dX6_told_129 : decode cX6_told 129 = .ok (.getfield 138, 3) := by decide +kernel
theorem dX6_told_132 : decode cX6_told 132 = .ok (.ireturn, 1) := by decide +kernel
theorem dX6_told_133 : decode cX6_told 133 = .ok (.aload_n 2, 1) := by decide +kernel
theorem dX6_told_134 : decode cX6_told 134 = .ok (.getfield 141, 3) := by decide +kernel
theorem dX6_told_137 : decode cX6_told 137 = .ok (.ireturn, 1) := by decide +kernel
theorem dX6_told_138 : decode cX6_told 138 = .ok (.aload_n 0, 1) := by decide +kernel
theorem dX6_told_139 : decode cX6_told 139 = .ok (.getfield 10, 3) := by decide +kernel
theorem dX6_told_142 : decode cX6_told 142 = .ok (.getfield 144, 3) := by decide +kernel
theorem dX6_told_145 : decode cX6_told 145 = .ok (.ireturn, 1) := by decide +kernel
theorem dX6_told_146 : decode cX6_told 146 = .ok (.aload_n 0, 1) := by decide +kernel
theorem dX6_told_147 : decode cX6_told 147 = .ok (.getfield 10, 3) := by decide +kernel
theorem dX6_told_150 : decode cX6_told 150 = .ok (.getfield 147, 3) := by decide +kernel
theorem dX6_told_153 : decode cX6_told 153 = .ok (.ireturn, 1) := by decide +kernel
theorem dX6_told_154 : decode cX6_told 154 = .ok (.aload_n 3, 1) := by decide +kernel
theorem dX6_told_155 : decode cX6_told 155 = .ok (.getfield 56, 3) := by decide +kernel
theorem dX6_told_158 : decode cX6_told 158 = .ok (.ireturn, 1) := by decide +kernel
theorem dX6_told_159 : decode cX6_told 159 = .ok (.aload_n 3, 1) := by decide +kernel
theorem dX6_told_160 : decode cX6_told 160 = .ok (.getfield 150, 3) := by decide +kernel
theorem dX6_told_163 : decode cX6_told 163 = .ok (.ireturn, 1) := by decide +kernel
theorem dX6_told_164 : decode cX6_told 164 = .ok (.aload_n 3, 1) := by decide +kernel
theorem dX6_told_165 : decode cX6_told 165 = .ok (.getfield 104, 3) := by decide +kernel
theorem dX6_told_168 : decode cX6_told 168 = .ok (.getfield 108, 3) := by decide +kernel
theorem dX6_told_171 : decode cX6_told 171 = .ok (.ireturn, 1) := by decide +kernel
theorem dX6_told_172 : decode cX6_told 172 = .ok (.aload_n 3, 1) := by decide +kernel
theorem dX6_told_173 : decode cX6_told 173 = .ok (.getfield 153, 3) := by decide +kernel
theorem dX6_told_176 : decode cX6_told 176 = .ok (.getfield 157, 3) := by decide +kernel
theorem dX6_told_179 : decode cX6_told 179 = .ok (.ireturn, 1) := by decide +kernel
theorem dX6_told_180 : decode cX6_told 180 = .ok (.aload_n 3, 1) := by decide +kernel
theorem dX6_told_181 : decode cX6_told 181 = .ok (.getfield 162, 3) := by decide +kernel
theorem dX6_told_184 : decode cX6_told 184 = .ok (.getfield 108, 3) := by decide +kernel
theorem dX6_told_187 : decode cX6_told 187 = .ok (.ireturn, 1) := by decide +kernel
theorem dX6_told_188 : decode cX6_told 188 = .ok (.aload_n 3, 1) := by decide +kernel
theorem dX6_told_189 : decode cX6_told 189 = .ok (.getfield 165, 3) := by decide +kernel
theorem dX6_told_192 : decode cX6_told 192 = .ok (.getfield 157, 3) := by decide +kernel
theorem dX6_told_195 : decode cX6_told 195 = .ok (.ireturn, 1) := by decide +kernel
theorem dX6_told_196 : decode cX6_told 196 = .ok (.aload_n 3, 1) := by decide +kernel
theorem dX6_told_197 : decode cX6_told 197 = .ok (.getfield 168, 3) := by decide +kernel
theorem dX6_told_200 : decode cX6_told 200 = .ok (.ireturn, 1) := by decide +kernel
theorem dX6_told_201 : decode cX6_told 201 = .ok (.aload_n 0, 1) := by decide +kernel
theorem dX6_told_202 : decode cX6_told 202 = .ok (.getfield 30, 3) := by decide +kernel
theorem dX6_told_205 : decode cX6_told 205 = .ok (.ireturn, 1) := by decide +kernel
theorem dX6_told_206 : decode cX6_told 206 = .ok (.iconst (-1), 1) := by decide +kernel
theorem dX6_told_207 : decode cX6_told 207 = .ok (.ireturn, 1) := by decide +kernel
theorem dX6_block_0 : decode cX6_block 0 = .ok (.aload_n 0, 1) := by decide +kernel
theorem dX6_block_1 : decode cX6_block 1 = .ok (.iload_n 1, 1) := by decide +kernel
theorem dX6_block_2 : decode cX6_block 2 = .ok (.invokevirtual 48, 3) := by decide +kernel
theorem dX6_block_5 : decode cX6_block 5 = .ok (.ifCond .ne 5, 3) := by decide +kernel
theorem dX6_block_8 : decode cX6_block 8 = .ok (.iconst (-1), 1) := by decide +kernel
theorem dX6_block_9 : decode cX6_block 9 = .ok (.ireturn, 1) := by decide +kernel
theorem dX6_block_10 : decode cX6_block 10 = .ok (.iload_n 2, 1) := by decide +kernel
theorem dX6_block_11 : decode cX6_block 11 = .ok (.tableswitch 108 0 4 #[33, 46, 61, 76, 92], 33) := by decide +kernel
theorem dX6_block_44 : decode cX6_block 44 = .ok (.aload_n 0, 1) := by decide +kernel
theorem dX6_block_45 : decode cX6_block 45 = .ok (.getfield 10, 3) := by decide +kernel
theorem dX6_block_48 : decode cX6_block 48 = .ok (.getfield 61, 3) := by decide +kernel
theorem dX6_block_51 : decode cX6_block 51 = .ok (.getfield 65, 3) := by decide +kernel
theorem dX6_block_54 : decode cX6_block 54 = .ok (.iload_n 1, 1) := by decide +kernel
theorem dX6_block_55 : decode cX6_block 55 = .ok (.iaload, 1) := by decide +kernel
theorem dX6_block_56 : decode cX6_block 56 = .ok (.ireturn, 1) := by decide +kernel
theorem dX6_block_57 : decode cX6_block 57 = .ok (.aload_n 0, 1) := by decide +kernel
theorem dX6_block_58 : decode cX6_block 58 = .ok (.getfield 10, 3) := by decide +kernel
theorem dX6_block_61 : decode cX6_block 61 = .ok (.getfield 52, 3) := by decide +kernel
theorem dX6_block_64 : decode cX6_block 64 = .ok (.getfield 153, 3) := by decide +kernel
theorem dX6_block_67 : decode cX6_block 67 = .ok (.iload_n 1, 1) := by decide +kernel
theorem dX6_block_68 : decode cX6_block 68 = .ok (.invokevirtual 171, 3) := by decide +kernel
theorem dX6_block_71 : decode cX6_block 71 = .ok (.ireturn, 1) := by decide +kernel
theorem dX6_block_72 : decode cX6_block 72 = .ok (.aload_n 0, 1) := by decide +kernel
theorem dX6_block_73 : decode cX6_block 73 = .ok (.getfield 10, 3) := by decide +kernel
theorem dX6_block_76 : decode cX6_block 76 = .ok (.getfield 52, 3) := by decide +kernel
theorem dX6_block_79 : decode cX6_block 79 = .ok (.getfield 165, 3) := by decide +kernel
theorem dX6_block_82 : decode cX6_block 82 = .ok (.iload_n 1, 1) := by decide +kernel
theorem dX6_block_83 : decode cX6_block 83 = .ok (.invokevirtual 171, 3) := by decide +kernel
theorem dX6_block_86 : decode cX6_block 86 = .ok (.ireturn, 1) := by decide +kernel
theorem dX6_block_87 : decode cX6_block 87 = .ok (.aload_n 0, 1) := by decide +kernel
theorem dX6_block_88 : decode cX6_block 88 = .ok (.getfield 10, 3) := by decide +kernel
theorem dX6_block_91 : decode cX6_block 91 = .ok (.getfield 52, 3) := by decide +kernel
theorem dX6_block_94 : decode cX6_block 94 = .ok (.getfield 153, 3) := by decide +kernel
theorem dX6_block_97 : decode cX6_block 97 = .ok (.getfield 174, 3) := by decide +kernel
theorem dX6_block_100 : decode cX6_block 100 = .ok (.iload_n 1, 1) := by decide +kernel
theorem dX6_block_101 : decode cX6_block 101 = .ok (.iaload, 1) := by decide +kernel
theorem dX6_block_102 : decode cX6_block 102 = .ok (.ireturn, 1) := by decide +kernel
theorem dX6_block_103 : decode cX6_block 103 = .ok (.aload_n 0, 1) := by decide +kernel
theorem dX6_block_104 : decode cX6_block 104 = .ok (.getfield 10, 3) := by decide +kernel
theorem dX6_block_107 : decode cX6_block 107 = .ok (.getfield 52, 3) := by decide +kernel
theorem dX6_block_110 : decode cX6_block 110 = .ok (.getfield 165, 3) := by decide +kernel
theorem dX6_block_113 : decode cX6_block 113 = .ok (.getfield 174, 3) := by decide +kernel
theorem dX6_block_116 : decode cX6_block 116 = .ok (.iload_n 1, 1) := by decide +kernel
theorem dX6_block_117 : decode cX6_block 117 = .ok (.iaload, 1) := by decide +kernel
theorem dX6_block_118 : decode cX6_block 118 = .ok (.ireturn, 1) := by decide +kernel
theorem dX6_block_119 : decode cX6_block 119 = .ok (.iconst (-1), 1) := by decide +kernel
theorem dX6_block_120 : decode cX6_block 120 = .ok (.ireturn, 1) := by decide +kernel
theorem dX6_packet_0 : decode cX6_packet 0 = .ok (.aload_n 0, 1) := by decide +kernel
theorem dX6_packet_1 : decode cX6_packet 1 = .ok (.getfield 10, 3) := by decide +kernel
theorem dX6_packet_4 : decode cX6_packet 4 = .ok (.iload_n 1, 1) := by decide +kernel
theorem dX6_packet_5 : decode cX6_packet 5 = .ok (.invokevirtual 177, 3) := by decide +kernel
theorem dX6_packet_8 : decode cX6_packet 8 = .ok (.astore 4, 2) := by decide +kernel
theorem dX6_packet_10 : decode cX6_packet 10 = .ok (.aload 4, 2) := by decide +kernel
theorem dX6_packet_12 : decode cX6_packet 12 = .ok (.ifnonnull 7, 3) := by decide +kernel
theorem dX6_packet_15 : decode cX6_packet 15 = .ok (.iconst (-1), 1) := by decide +kernel
theorem dX6_packet_16 : decode cX6_packet 16 = .ok (.goto 10, 3) := by decide +kernel
theorem dX6_packet_19 : decode cX6_packet 19 = .ok (.aload 4, 2) := by decide +kernel
theorem dX6_packet_21 : decode cX6_packet 21 = .ok (.iload_n 2, 1) := by decide +kernel
theorem dX6_packet_22 : decode cX6_packet 22 = .ok (.iload_n 3, 1) := by decide +kernel
theorem dX6_packet_23 : decode cX6_packet 23 = .ok (.invokestatic 181, 3) := by decide +kernel
theorem dX6_packet_26 : decode cX6_packet 26 = .ok (.ireturn, 1) := by decide +kernel
theorem dX6_waiting_0 : decode cX6_waiting 0 = .ok (.aload_n 0, 1) := by decide +kernel
theorem dX6_waiting_1 : decode cX6_waiting 1 = .ok (.getfield 10, 3) := by decide +kernel
theorem dX6_waiting_4 : decode cX6_waiting 4 = .ok (.getfield 52, 3) := by decide +kernel
theorem dX6_waiting_7 : decode cX6_waiting 7 = .ok (.getfield 162, 3) := by decide +kernel
theorem dX6_waiting_10 : decode cX6_waiting 10 = .ok (.iload_n 1, 1) := by decide +kernel
theorem dX6_waiting_11 : decode cX6_waiting 11 = .ok (.iload_n 2, 1) := by decide +kernel
theorem dX6_waiting_12 : decode cX6_waiting 12 = .ok (.invokestatic 181, 3) := by decide +kernel
theorem dX6_waiting_15 : decode cX6_waiting 15 = .ok (.ireturn, 1) := by decide +kernel
theorem dX6_node_0 : decode cX6_node 0 = .ok (.iload_n 1, 1) := by decide +kernel
theorem dX6_node_1 : decode cX6_node 1 = .ok (.iconst 0, 1) := by decide +kernel
theorem dX6_node_2 : decode cX6_node 2 = .ok (.aload_n 0, 1) := by decide +kernel
theorem dX6_node_3 : decode cX6_node 3 = .ok (.getfield 10, 3) := by decide +kernel
theorem dX6_node_6 : decode cX6_node 6 = .ok (.getfield 61, 3) := by decide +kernel
theorem dX6_node_9 : decode cX6_node 9 = .ok (.getfield 129, 3) := by decide +kernel
theorem dX6_node_12 : decode cX6_node 12 = .ok (.iconst 1, 1) := by decide +kernel
theorem dX6_node_13 : decode cX6_node 13 = .ok (.iadd, 1) := by decide +kernel
theorem dX6_node_14 : decode cX6_node 14 = .ok (.invokestatic 34, 3) := by decide +kernel
theorem dX6_node_17 : decode cX6_node 17 = .ok (.ifCond .eq 12, 3) := by decide +kernel
theorem dX6_node_20 : decode cX6_node 20 = .ok (.iload_n 2, 1) := by decide +kernel
theorem dX6_node_21 : decode cX6_node 21 = .ok (.iconst 0, 1) := by decide +kernel
theorem dX6_node_22 : decode cX6_node 22 = .ok (.iconst 2, 1) := by decide +kernel
theorem dX6_node_23 : decode cX6_node 23 = .ok (.invokestatic 34, 3) := by decide +kernel
theorem dX6_node_26 : decode cX6_node 26 = .ok (.ifCond .ne 5, 3) := by decide +kernel
theorem dX6_node_29 : decode cX6_node 29 = .ok (.iconst (-1), 1) := by decide +kernel
theorem dX6_node_30 : decode cX6_node 30 = .ok (.ireturn, 1) := by decide +kernel
theorem dX6_node_31 : decode cX6_node 31 = .ok (.iload_n 2, 1) := by decide +kernel
theorem dX6_node_32 : decode cX6_node 32 = .ok (.iconst 2, 1) := by decide +kernel
theorem dX6_node_33 : decode cX6_node 33 = .ok (.if_icmp .ne 29, 3) := by decide +kernel
theorem dX6_node_36 : decode cX6_node 36 = .ok (.aload_n 0, 1) := by decide +kernel
theorem dX6_node_37 : decode cX6_node 37 = .ok (.iload_n 1, 1) := by decide +kernel
theorem dX6_node_38 : decode cX6_node 38 = .ok (.invokevirtual 71, 3) := by decide +kernel
theorem dX6_node_41 : decode cX6_node 41 = .ok (.ifCond .eq 18, 3) := by decide +kernel
theorem dX6_node_44 : decode cX6_node 44 = .ok (.aload_n 0, 1) := by decide +kernel
theorem dX6_node_45 : decode cX6_node 45 = .ok (.getfield 10, 3) := by decide +kernel
theorem dX6_node_48 : decode cX6_node 48 = .ok (.getfield 61, 3) := by decide +kernel
theorem dX6_node_51 : decode cX6_node 51 = .ok (.getfield 74, 3) := by decide +kernel
theorem dX6_node_54 : decode cX6_node 54 = .ok (.iload_n 1, 1) := by decide +kernel
theorem dX6_node_55 : decode cX6_node 55 = .ok (.iaload, 1) := by decide +kernel
theorem dX6_node_56 : decode cX6_node 56 = .ok (.goto 5, 3) := by decide +kernel
theorem dX6_node_59 : decode cX6_node 59 = .ok (.bipush (-9), 2) := by decide +kernel
theorem dX6_node_61 : decode cX6_node 61 = .ok (.ireturn, 1) := by decide +kernel
theorem dX6_node_62 : decode cX6_node 62 = .ok (.aload_n 0, 1) := by decide +kernel
theorem dX6_node_63 : decode cX6_node 63 = .ok (.getfield 10, 3) := by decide +kernel
theorem dX6_node_66 : decode cX6_node 66 = .ok (.iload_n 1, 1) := by decide +kernel
theorem dX6_node_67 : decode cX6_node 67 = .ok (.invokevirtual 177, 3) := by decide +kernel
theorem dX6_node_70 : decode cX6_node 70 = .ok (.astore_n 3, 1) := by decide +kernel
theorem dX6_node_71 : decode cX6_node 71 = .ok (.aload_n 3, 1) := by decide +kernel
theorem dX6_node_72 : decode cX6_node 72 = .ok (.ifnonnull 14, 3) := by decide +kernel
theorem dX6_node_75 : decode cX6_node 75 = .ok (.aload_n 0, 1) := by decide +kernel
theorem dX6_node_76 : decode cX6_node 76 = .ok (.getfield 10, 3) := by decide +kernel
theorem dX6_node_79 : decode cX6_node 79 = .ok (.getfield 61, 3) := by decide +kernel
theorem dX6_node_82 : decode cX6_node 82 = .ok (.getfield 126, 3) := by decide +kernel
theorem dX6_node_85 : decode cX6_node 85 = .ok (.ireturn, 1) := by decide +kernel
theorem dX6_node_86 : decode cX6_node 86 = .ok (.iload_n 2, 1) := by decide +kernel
theorem dX6_node_87 : decode cX6_node 87 = .ok (.ifCond .ne 10, 3) := by decide +kernel
theorem dX6_node_90 : decode cX6_node 90 = .ok (.aload_n 3, 1) := by decide +kernel
theorem dX6_node_91 : decode cX6_node 91 = .ok (.getfield 108, 3) := by decide +kernel
theorem dX6_node_94 : decode cX6_node 94 = .ok (.goto 11, 3) := by decide +kernel
theorem dX6_node_97 : decode cX6_node 97 = .ok (.aload_n 0, 1) := by decide +kernel
theorem dX6_node_98 : decode cX6_node 98 = .ok (.getfield 10, 3) := by decide +kernel
theorem dX6_node_101 : decode cX6_node 101 = .ok (.aload_n 3, 1) := by decide +kernel
theorem dX6_node_102 : decode cX6_node 102 = .ok (.invokevirtual 185, 3) := by decide +kernel
theorem dX6_node_105 : decode cX6_node 105 = .ok (.ireturn, 1) := by decide +kernel
theorem dX6_novel_0 : decode cX6_novel 0 = .ok (.aload_n 0, 1) := by decide +kernel
theorem dX6_novel_1 : decode cX6_novel 1 = .ok (.getfield 10, 3) := by decide +kernel
theorem dX6_novel_4 : decode cX6_novel 4 = .ok (.iload_n 1, 1) := by decide +kernel
theorem dX6_novel_5 : decode cX6_novel 5 = .ok (.invokevirtual 177, 3) := by decide +kernel
theorem dX6_novel_8 : decode cX6_novel 8 = .ok (.astore_n 3, 1) := by decide +kernel
theorem dX6_novel_9 : decode cX6_novel 9 = .ok (.aload_n 3, 1) := by decide +kernel
theorem dX6_novel_10 : decode cX6_novel 10 = .ok (.ifnull 11, 3) := by decide +kernel
theorem dX6_novel_13 : decode cX6_novel 13 = .ok (.aload_n 0, 1) := by decide +kernel
theorem dX6_novel_14 : decode cX6_novel 14 = .ok (.iload_n 2, 1) := by decide +kernel
theorem dX6_novel_15 : decode cX6_novel 15 = .ok (.invokevirtual 113, 3) := by decide +kernel
theorem dX6_novel_18 : decode cX6_novel 18 = .ok (.ifCond .ne 5, 3) := by decide +kernel
theorem dX6_novel_21 : decode cX6_novel 21 = .ok (.iconst (-1), 1) := by decide +kernel
theorem dX6_novel_22 : decode cX6_novel 22 = .ok (.ireturn, 1) := by decide +kernel
theorem dX6_novel_23 : decode cX6_novel 23 = .ok (.aload_n 0, 1) := by decide +kernel
theorem dX6_novel_24 : decode cX6_novel 24 = .ok (.getfield 10, 3) := by decide +kernel
theorem dX6_novel_27 : decode cX6_novel 27 = .ok (.aload_n 3, 1) := by decide +kernel
theorem dX6_novel_28 : decode cX6_novel 28 = .ok (.aload_n 0, 1) := by decide +kernel
theorem dX6_novel_29 : decode cX6_novel 29 = .ok (.getfield 10, 3) := by decide +kernel
theorem dX6_novel_32 : decode cX6_novel 32 = .ok (.getfield 61, 3) := by decide +kernel
theorem dX6_novel_35 : decode cX6_novel 35 = .ok (.iload_n 2, 1) := by decide +kernel
theorem dX6_novel_36 : decode cX6_novel 36 = .ok (.invokevirtual 116, 3) := by decide +kernel
theorem dX6_novel_39 : decode cX6_novel 39 = .ok (.invokevirtual 189, 3) := by decide +kernel
theorem dX6_novel_42 : decode cX6_novel 42 = .ok (.ifCond .eq 7, 3) := by decide +kernel
theorem dX6_novel_45 : decode cX6_novel 45 = .ok (.iconst 1, 1) := by decide +kernel
theorem dX6_novel_46 : decode cX6_novel 46 = .ok (.goto 4, 3) := by decide +kernel
theorem dX6_novel_49 : decode cX6_novel 49 = .ok (.iconst 0, 1) := by decide +kernel
theorem dX6_novel_50 : decode cX6_novel 50 = .ok (.ireturn, 1) := by decide +kernel
theorem dX6_overhead_0 : decode cX6_overhead 0 = .ok (.aload_n 0, 1) := by decide +kernel
theorem dX6_overhead_1 : decode cX6_overhead 1 = .ok (.getfield 10, 3) := by decide +kernel
theorem dX6_overhead_4 : decode cX6_overhead 4 = .ok (.getfield 52, 3) := by decide +kernel
theorem dX6_overhead_7 : decode cX6_overhead 7 = .ok (.getfield 104, 3) := by decide +kernel
theorem dX6_overhead_10 : decode cX6_overhead 10 = .ok (.getfield 108, 3) := by decide +kernel
theorem dX6_overhead_13 : decode cX6_overhead 13 = .ok (.istore_n 1, 1) := by decide +kernel
theorem dX6_overhead_14 : decode cX6_overhead 14 = .ok (.iload_n 1, 1) := by decide +kernel
theorem dX6_overhead_15 : decode cX6_overhead 15 = .ok (.ifCond .ne 7, 3) := by decide +kernel
theorem dX6_overhead_18 : decode cX6_overhead 18 = .ok (.fconst 0, 1) := by decide +kernel
theorem dX6_overhead_19 : decode cX6_overhead 19 = .ok (.goto 17, 3) := by decide +kernel
theorem dX6_overhead_22 : decode cX6_overhead 22 = .ok (.aload_n 0, 1) := by decide +kernel
theorem dX6_overhead_23 : decode cX6_overhead 23 = .ok (.getfield 10, 3) := by decide +kernel
theorem dX6_overhead_26 : decode cX6_overhead 26 = .ok (.getfield 52, 3) := by decide +kernel
theorem dX6_overhead_29 : decode cX6_overhead 29 = .ok (.getfield 56, 3) := by decide +kernel
theorem dX6_overhead_32 : decode cX6_overhead 32 = .ok (.i2f, 1) := by decide +kernel
theorem dX6_overhead_33 : decode cX6_overhead 33 = .ok (.iload_n 1, 1) := by decide +kernel
theorem dX6_overhead_34 : decode cX6_overhead 34 = .ok (.i2f, 1) := by decide +kernel
theorem dX6_overhead_35 : decode cX6_overhead 35 = .ok (.fdiv, 1) := by decide +kernel
theorem dX6_overhead_36 : decode cX6_overhead 36 = .ok (.freturn, 1) := by decide +kernel
theorem dX6_forecast_0 : decode cX6_forecast 0 = .ok (.iload_n 1, 1) := by decide +kernel
theorem dX6_forecast_1 : decode cX6_forecast 1 = .ok (.iconst 0, 1) := by decide +kernel
theorem dX6_forecast_2 : decode cX6_forecast 2 = .ok (.iconst 1, 1) := by decide +kernel
theorem dX6_forecast_3 : decode cX6_forecast 3 = .ok (.invokestatic 34, 3) := by decide +kernel
theorem dX6_forecast_6 : decode cX6_forecast 6 = .ok (.ifCond .ne 5, 3) := by decide +kernel
theorem dX6_forecast_9 : decode cX6_forecast 9 = .ok (.iconst (-1), 1) := by decide +kernel
theorem dX6_forecast_10 : decode cX6_forecast 10 = .ok (.ireturn, 1) := by decide +kernel
theorem dX6_forecast_11 : decode cX6_forecast 11 = .ok (.aload_n 0, 1) := by decide +kernel
theorem dX6_forecast_12 : decode cX6_forecast 12 = .ok (.getfield 16, 3) := by decide +kernel
theorem dX6_forecast_15 : decode cX6_forecast 15 = .ok (.aload_n 0, 1) := by decide +kernel
theorem dX6_forecast_16 : decode cX6_forecast 16 = .ok (.getfield 10, 3) := by decide +kernel
theorem dX6_forecast_19 : decode cX6_forecast 19 = .ok (.invokevirtual 122, 3) := by decide +kernel
theorem dX6_forecast_22 : decode cX6_forecast 22 = .ok (.aload_n 0, 1) := by decide +kernel
theorem dX6_forecast_23 : decode cX6_forecast 23 = .ok (.iload_n 1, 1) := by decide +kernel
theorem dX6_forecast_24 : decode cX6_forecast 24 = .ok (.sipush 300, 3) := by decide +kernel
theorem dX6_forecast_27 : decode cX6_forecast 27 = .ok (.invokevirtual 193, 3) := by decide +kernel
theorem dX6_forecast_30 : decode cX6_forecast 30 = .ok (.ireturn, 1) := by decide +kernel
theorem dX6_keep_0 : decode cX6_keep 0 = .ok (.iload_n 1, 1) := by decide +kernel
theorem dX6_keep_1 : decode cX6_keep 1 = .ok (.iconst 0, 1) := by decide +kernel
theorem dX6_keep_2 : decode cX6_keep 2 = .ok (.iconst 1, 1) := by decide +kernel
theorem dX6_keep_3 : decode cX6_keep 3 = .ok (.invokestatic 34, 3) := by decide +kernel
theorem dX6_keep_6 : decode cX6_keep 6 = .ok (.ifCond .ne 5, 3) := by decide +kernel
theorem dX6_keep_9 : decode cX6_keep 9 = .ok (.iconst (-1), 1) := by decide +kernel
theorem dX6_keep_10 : decode cX6_keep 10 = .ok (.ireturn, 1) := by decide +kernel
theorem dX6_keep_11 : decode cX6_keep 11 = .ok (.aload_n 0, 1) := by decide +kernel
theorem dX6_keep_12 : decode cX6_keep 12 = .ok (.getfield 23, 3) := by decide +kernel
theorem dX6_keep_15 : decode cX6_keep 15 = .ok (.iload_n 1, 1) := by decide +kernel
theorem dX6_keep_16 : decode cX6_keep 16 = .ok (.aaload, 1) := by decide +kernel
theorem dX6_keep_17 : decode cX6_keep 17 = .ok (.aload_n 0, 1) := by decide +kernel
theorem dX6_keep_18 : decode cX6_keep 18 = .ok (.getfield 10, 3) := by decide +kernel
theorem dX6_keep_21 : decode cX6_keep 21 = .ok (.invokevirtual 122, 3) := by decide +kernel
theorem dX6_keep_24 : decode cX6_keep 24 = .ok (.aload_n 0, 1) := by decide +kernel
theorem dX6_keep_25 : decode cX6_keep 25 = .ok (.getfield 26, 3) := by decide +kernel
theorem dX6_keep_28 : decode cX6_keep 28 = .ok (.iload_n 1, 1) := by decide +kernel
theorem dX6_keep_29 : decode cX6_keep 29 = .ok (.iconst 1, 1) := by decide +kernel
theorem dX6_keep_30 : decode cX6_keep 30 = .ok (.bastore, 1) := by decide +kernel
theorem dX6_keep_31 : decode cX6_keep 31 = .ok (.aload_n 0, 1) := by decide +kernel
theorem dX6_keep_32 : decode cX6_keep 32 = .ok (.getfield 10, 3) := by decide +kernel
theorem dX6_keep_35 : decode cX6_keep 35 = .ok (.getfield 41, 3) := by decide +kernel
theorem dX6_keep_38 : decode cX6_keep 38 = .ok (.ireturn, 1) := by decide +kernel
theorem dX6_back_0 : decode cX6_back 0 = .ok (.iload_n 1, 1) := by decide +kernel
theorem dX6_back_1 : decode cX6_back 1 = .ok (.iconst 0, 1) := by decide +kernel
theorem dX6_back_2 : decode cX6_back 2 = .ok (.iconst 1, 1) := by decide +kernel
theorem dX6_back_3 : decode cX6_back 3 = .ok (.invokestatic 34, 3) := by decide +kernel
theorem dX6_back_6 : decode cX6_back 6 = .ok (.ifCond .ne 5, 3) := by decide +kernel
theorem dX6_back_9 : decode cX6_back 9 = .ok (.iconst (-1), 1) := by decide +kernel
theorem dX6_back_10 : decode cX6_back 10 = .ok (.ireturn, 1) := by decide +kernel
theorem dX6_back_11 : decode cX6_back 11 = .ok (.aload_n 0, 1) := by decide +kernel
theorem dX6_back_12 : decode cX6_back 12 = .ok (.getfield 26, 3) := by decide +kernel
theorem dX6_back_15 : decode cX6_back 15 = .ok (.iload_n 1, 1) := by decide +kernel
theorem dX6_back_16 : decode cX6_back 16 = .ok (.baload, 1) := by decide +kernel
theorem dX6_back_17 : decode cX6_back 17 = .ok (.ifCond .ne 6, 3) := by decide +kernel
theorem dX6_back_20 : decode cX6_back 20 = .ok (.bipush (-2), 2) := by decide +kernel
theorem dX6_back_22 : decode cX6_back 22 = .ok (.ireturn, 1) := by decide +kernel
theorem dX6_back_23 : decode cX6_back 23 = .ok (.aload_n 0, 1) := by decide +kernel
theorem dX6_back_24 : decode cX6_back 24 = .ok (.invokevirtual 38, 3) := by decide +kernel
theorem dX6_back_27 : decode cX6_back 27 = .ok (.aload_n 0, 1) := by decide +kernel
theorem dX6_back_28 : decode cX6_back 28 = .ok (.getfield 10, 3) := by decide +kernel
theorem dX6_back_31 : decode cX6_back 31 = .ok (.aload_n 0, 1) := by decide +kernel
theorem dX6_back_32 : decode cX6_back 32 = .ok (.getfield 23, 3) := by decide +kernel
theorem dX6_back_35 : decode cX6_back 35 = .ok (.iload_n 1, 1) := by decide +kernel
theorem dX6_back_36 : decode cX6_back 36 = .ok (.aaload, 1) := by decide +kernel
theorem dX6_back_37 : decode cX6_back 37 = .ok (.invokevirtual 122, 3) := by decide +kernel
theorem dX6_back_40 : decode cX6_back 40 = .ok (.aload_n 0, 1) := by decide +kernel
theorem dX6_back_41 : decode cX6_back 41 = .ok (.getfield 10, 3) := by decide +kernel
theorem dX6_back_44 : decode cX6_back 44 = .ok (.getfield 41, 3) := by decide +kernel
theorem dX6_back_47 : decode cX6_back 47 = .ok (.ireturn, 1) := by decide +kernel
theorem dX6_remember_0 : decode cX6_remember 0 = .ok (.aload_n 0, 1) := by decide +kernel
theorem dX6_remember_1 : decode cX6_remember 1 = .ok (.getfield 30, 3) := by decide +kernel
theorem dX6_remember_4 : decode cX6_remember 4 = .ok (.bipush 8, 2) := by decide +kernel
theorem dX6_remember_6 : decode cX6_remember 6 = .ok (.if_icmp .lt 7, 3) := by decide +kernel
theorem dX6_remember_9 : decode cX6_remember 9 = .ok (.aload_n 0, 1) := by decide +kernel
theorem dX6_remember_10 : decode cX6_remember 10 = .ok (.invokevirtual 197, 3) := by decide +kernel
theorem dX6_remember_13 : decode cX6_remember 13 = .ok (.aload_n 0, 1) := by decide +kernel
theorem dX6_remember_14 : decode cX6_remember 14 = .ok (.getfield 19, 3) := by decide +kernel
theorem dX6_remember_17 : decode cX6_remember 17 = .ok (.aload_n 0, 1) := by decide +kernel
theorem dX6_remember_18 : decode cX6_remember 18 = .ok (.getfield 30, 3) := by decide +kernel
theorem dX6_remember_21 : decode cX6_remember 21 = .ok (.aaload, 1) := by decide +kernel
theorem dX6_remember_22 : decode cX6_remember 22 = .ok (.aload_n 0, 1) := by decide +kernel
theorem dX6_remember_23 : decode cX6_remember 23 = .ok (.getfield 10, 3) := by decide +kernel
theorem dX6_remember_26 : decode cX6_remember 26 = .ok (.invokevirtual 122, 3) := by decide +kernel
theorem dX6_remember_29 : decode cX6_remember 29 = .ok (.aload_n 0, 1) := by decide +kernel
theorem dX6_remember_30 : decode cX6_remember 30 = .ok (.dup, 1) := by decide +kernel
theorem dX6_remember_31 : decode cX6_remember 31 = .ok (.getfield 30, 3) := by decide +kernel
theorem dX6_remember_34 : decode cX6_remember 34 = .ok (.iconst 1, 1) := by decide +kernel
theorem dX6_remember_35 : decode cX6_remember 35 = .ok (.iadd, 1) := by decide +kernel
theorem dX6_remember_36 : decode cX6_remember 36 = .ok (.putfield 30, 3) := by decide +kernel
theorem dX6_remember_39 : decode cX6_remember 39 = .ok (.return_, 1) := by decide +kernel
theorem dX6_dropOldestRecord_0 : decode cX6_dropOldestRecord 0 = .ok (.aload_n 0, 1) := by decide +kernel
theorem dX6_dropOldestRecord_1 : decode cX6_dropOldestRecord 1 = .ok (.getfield 19, 3) := by decide +kernel
theorem dX6_dropOldestRecord_4 : decode cX6_dropOldestRecord 4 = .ok (.iconst 0, 1) := by decide +kernel
theorem dX6_dropOldestRecord_5 : decode cX6_dropOldestRecord 5 = .ok (.aaload, 1) := by decide +kernel
theorem dX6_dropOldestRecord_6 : decode cX6_dropOldestRecord 6 = .ok (.astore_n 1, 1) := by decide +kernel
theorem dX6_dropOldestRecord_7 : decode cX6_dropOldestRecord 7 = .ok (.iconst 1, 1) := by decide +kernel
theorem dX6_dropOldestRecord_8 : decode cX6_dropOldestRecord 8 = .ok (.istore_n 2, 1) := by decide +kernel
theorem dX6_dropOldestRecord_9 : decode cX6_dropOldestRecord 9 = .ok (.iload_n 2, 1) := by decide +kernel
theorem dX6_dropOldestRecord_10 : decode cX6_dropOldestRecord 10 = .ok (.aload_n 0, 1) := by decide +kernel
theorem dX6_dropOldestRecord_11 : decode cX6_dropOldestRecord 11 = .ok (.getfield 19, 3) := by decide +kernel
theorem dX6_dropOldestRecord_14 : decode cX6_dropOldestRecord 14 = .ok (.arraylength, 1) := by decide +kernel
theorem dX6_dropOldestRecord_15 : decode cX6_dropOldestRecord 15 = .ok (.if_icmp .ge 23, 3) := by decide +kernel
theorem dX6_dropOldestRecord_18 : decode cX6_dropOldestRecord 18 = .ok (.aload_n 0, 1) := by decide +kernel
theorem dX6_dropOldestRecord_19 : decode cX6_dropOldestRecord 19 = .ok (.getfield 19, 3) := by decide +kernel
theorem dX6_dropOldestRecord_22 : decode cX6_dropOldestRecord 22 = .ok (.iload_n 2, 1) := by decide +kernel
theorem dX6_dropOldestRecord_23 : decode cX6_dropOldestRecord 23 = .ok (.iconst 1, 1) := by decide +kernel
theorem dX6_dropOldestRecord_24 : decode cX6_dropOldestRecord 24 = .ok (.isub, 1) := by decide +kernel
theorem dX6_dropOldestRecord_25 : decode cX6_dropOldestRecord 25 = .ok (.aload_n 0, 1) := by decide +kernel
theorem dX6_dropOldestRecord_26 : decode cX6_dropOldestRecord 26 = .ok (.getfield 19, 3) := by decide +kernel
theorem dX6_dropOldestRecord_29 : decode cX6_dropOldestRecord 29 = .ok (.iload_n 2, 1) := by decide +kernel
theorem dX6_dropOldestRecord_30 : decode cX6_dropOldestRecord 30 = .ok (.aaload, 1) := by decide +kernel
theorem dX6_dropOldestRecord_31 : decode cX6_dropOldestRecord 31 = .ok (.aastore, 1) := by decide +kernel
theorem dX6_dropOldestRecord_32 : decode cX6_dropOldestRecord 32 = .ok (.iinc 2 1, 3) := by decide +kernel
theorem dX6_dropOldestRecord_35 : decode cX6_dropOldestRecord 35 = .ok (.goto (-26), 3) := by decide +kernel
theorem dX6_dropOldestRecord_38 : decode cX6_dropOldestRecord 38 = .ok (.aload_n 0, 1) := by decide +kernel
theorem dX6_dropOldestRecord_39 : decode cX6_dropOldestRecord 39 = .ok (.getfield 19, 3) := by decide +kernel
theorem dX6_dropOldestRecord_42 : decode cX6_dropOldestRecord 42 = .ok (.aload_n 0, 1) := by decide +kernel
theorem dX6_dropOldestRecord_43 : decode cX6_dropOldestRecord 43 = .ok (.getfield 19, 3) := by decide +kernel
theorem dX6_dropOldestRecord_46 : decode cX6_dropOldestRecord 46 = .ok (.arraylength, 1) := by decide +kernel
theorem dX6_dropOldestRecord_47 : decode cX6_dropOldestRecord 47 = .ok (.iconst 1, 1) := by decide +kernel
theorem dX6_dropOldestRecord_48 : decode cX6_dropOldestRecord 48 = .ok (.isub, 1) := by decide +kernel
theorem dX6_dropOldestRecord_49 : decode cX6_dropOldestRecord 49 = .ok (.aload_n 1, 1) := by decide +kernel
theorem dX6_dropOldestRecord_50 : decode cX6_dropOldestRecord 50 = .ok (.aastore, 1) := by decide +kernel
theorem dX6_dropOldestRecord_51 : decode cX6_dropOldestRecord 51 = .ok (.aload_n 0, 1) := by decide +kernel
theorem dX6_dropOldestRecord_52 : decode cX6_dropOldestRecord 52 = .ok (.aload_n 0, 1) := by decide +kernel
theorem dX6_dropOldestRecord_53 : decode cX6_dropOldestRecord 53 = .ok (.getfield 19, 3) := by decide +kernel
theorem dX6_dropOldestRecord_56 : decode cX6_dropOldestRecord 56 = .ok (.arraylength, 1) := by decide +kernel
theorem dX6_dropOldestRecord_57 : decode cX6_dropOldestRecord 57 = .ok (.iconst 1, 1) := by decide +kernel
theorem dX6_dropOldestRecord_58 : decode cX6_dropOldestRecord 58 = .ok (.isub, 1) := by decide +kernel
theorem dX6_dropOldestRecord_59 : decode cX6_dropOldestRecord 59 = .ok (.putfield 30, 3) := by decide +kernel
theorem dX6_dropOldestRecord_62 : decode cX6_dropOldestRecord 62 = .ok (.return_, 1) := by decide +kernel
theorem dX6_ticksOfTrial_0 : decode cX6_ticksOfTrial 0 = .ok (.iconst 0, 1) := by decide +kernel
theorem dX6_ticksOfTrial_1 : decode cX6_ticksOfTrial 1 = .ok (.istore_n 3, 1) := by decide +kernel
theorem dX6_ticksOfTrial_2 : decode cX6_ticksOfTrial 2 = .ok (.iload_n 3, 1) := by decide +kernel
theorem dX6_ticksOfTrial_3 : decode cX6_ticksOfTrial 3 = .ok (.iload_n 2, 1) := by decide +kernel
theorem dX6_ticksOfTrial_4 : decode cX6_ticksOfTrial 4 = .ok (.if_icmp .ge 27, 3) := by decide +kernel
theorem dX6_ticksOfTrial_7 : decode cX6_ticksOfTrial 7 = .ok (.aload_n 0, 1) := by decide +kernel
theorem dX6_ticksOfTrial_8 : decode cX6_ticksOfTrial 8 = .ok (.getfield 16, 3) := by decide +kernel
theorem dX6_ticksOfTrial_11 : decode cX6_ticksOfTrial 11 = .ok (.iload_n 1, 1) := by decide +kernel
theorem dX6_ticksOfTrial_12 : decode cX6_ticksOfTrial 12 = .ok (.invokevirtual 200, 3) := by decide +kernel
theorem dX6_ticksOfTrial_15 : decode cX6_ticksOfTrial 15 = .ok (.ifCond .ne 16, 3) := by decide +kernel
theorem dX6_ticksOfTrial_18 : decode cX6_ticksOfTrial 18 = .ok (.aload_n 0, 1) := by decide +kernel
theorem dX6_ticksOfTrial_19 : decode cX6_ticksOfTrial 19 = .ok (.getfield 16, 3) := by decide +kernel
theorem dX6_ticksOfTrial_22 : decode cX6_ticksOfTrial 22 = .ok (.invokevirtual 101, 3) := by decide +kernel
theorem dX6_ticksOfTrial_25 : decode cX6_ticksOfTrial 25 = .ok (.iinc 3 1, 3) := by decide +kernel
theorem dX6_ticksOfTrial_28 : decode cX6_ticksOfTrial 28 = .ok (.goto (-26), 3) := by decide +kernel
theorem dX6_ticksOfTrial_31 : decode cX6_ticksOfTrial 31 = .ok (.aload_n 0, 1) := by decide +kernel
theorem dX6_ticksOfTrial_32 : decode cX6_ticksOfTrial 32 = .ok (.getfield 16, 3) := by decide +kernel
theorem dX6_ticksOfTrial_35 : decode cX6_ticksOfTrial 35 = .ok (.iload_n 1, 1) := by decide +kernel
theorem dX6_ticksOfTrial_36 : decode cX6_ticksOfTrial 36 = .ok (.invokevirtual 200, 3) := by decide +kernel
theorem dX6_ticksOfTrial_39 : decode cX6_ticksOfTrial 39 = .ok (.ifCond .eq 7, 3) := by decide +kernel
theorem dX6_ticksOfTrial_42 : decode cX6_ticksOfTrial 42 = .ok (.iload_n 3, 1) := by decide +kernel
theorem dX6_ticksOfTrial_43 : decode cX6_ticksOfTrial 43 = .ok (.goto 5, 3) := by decide +kernel
theorem dX6_ticksOfTrial_46 : decode cX6_ticksOfTrial 46 = .ok (.bipush (-9), 2) := by decide +kernel
theorem dX6_ticksOfTrial_48 : decode cX6_ticksOfTrial 48 = .ok (.ireturn, 1) := by decide +kernel
theorem dX6_isBlock_0 : decode cX6_isBlock 0 = .ok (.iload_n 1, 1) := by decide +kernel
theorem dX6_isBlock_1 : decode cX6_isBlock 1 = .ok (.iconst 0, 1) := by decide +kernel
theorem dX6_isBlock_2 : decode cX6_isBlock 2 = .ok (.aload_n 0, 1) := by decide +kernel
theorem dX6_isBlock_3 : decode cX6_isBlock 3 = .ok (.getfield 10, 3) := by decide +kernel
theorem dX6_isBlock_6 : decode cX6_isBlock 6 = .ok (.getfield 61, 3) := by decide +kernel
theorem dX6_isBlock_9 : decode cX6_isBlock 9 = .ok (.getfield 126, 3) := by decide +kernel
theorem dX6_isBlock_12 : decode cX6_isBlock 12 = .ok (.iconst 1, 1) := by decide +kernel
theorem dX6_isBlock_13 : decode cX6_isBlock 13 = .ok (.isub, 1) := by decide +kernel
theorem dX6_isBlock_14 : decode cX6_isBlock 14 = .ok (.invokestatic 34, 3) := by decide +kernel
theorem dX6_isBlock_17 : decode cX6_isBlock 17 = .ok (.ireturn, 1) := by decide +kernel
theorem dX6_isLink_0 : decode cX6_isLink 0 = .ok (.iload_n 1, 1) := by decide +kernel
theorem dX6_isLink_1 : decode cX6_isLink 1 = .ok (.iconst 0, 1) := by decide +kernel
theorem dX6_isLink_2 : decode cX6_isLink 2 = .ok (.aload_n 0, 1) := by decide +kernel
theorem dX6_isLink_3 : decode cX6_isLink 3 = .ok (.getfield 10, 3) := by decide +kernel
theorem dX6_isLink_6 : decode cX6_isLink 6 = .ok (.getfield 61, 3) := by decide +kernel
theorem dX6_isLink_9 : decode cX6_isLink 9 = .ok (.getfield 129, 3) := by decide +kernel
theorem dX6_isLink_12 : decode cX6_isLink 12 = .ok (.invokestatic 34, 3) := by decide +kernel
theorem dX6_isLink_15 : decode cX6_isLink 15 = .ok (.ireturn, 1) := by decide +kernel
theorem dX6_isBlockSet_0 : decode cX6_isBlockSet 0 = .ok (.iload_n 1, 1) := by decide +kernel
theorem dX6_isBlockSet_1 : decode cX6_isBlockSet 1 = .ok (.iconst 1, 1) := by decide +kernel
theorem dX6_isBlockSet_2 : decode cX6_isBlockSet 2 = .ok (.iconst 1, 1) := by decide +kernel
theorem dX6_isBlockSet_3 : decode cX6_isBlockSet 3 = .ok (.aload_n 0, 1) := by decide +kernel
theorem dX6_isBlockSet_4 : decode cX6_isBlockSet 4 = .ok (.getfield 10, 3) := by decide +kernel
theorem dX6_isBlockSet_7 : decode cX6_isBlockSet 7 = .ok (.getfield 61, 3) := by decide +kernel
theorem dX6_isBlockSet_10 : decode cX6_isBlockSet 10 = .ok (.getfield 126, 3) := by decide +kernel
theorem dX6_isBlockSet_13 : decode cX6_isBlockSet 13 = .ok (.ishl, 1) := by decide +kernel
theorem dX6_isBlockSet_14 : decode cX6_isBlockSet 14 = .ok (.iconst 1, 1) := by decide +kernel
theorem dX6_isBlockSet_15 : decode cX6_isBlockSet 15 = .ok (.isub, 1) := by decide +kernel
theorem dX6_isBlockSet_16 : decode cX6_isBlockSet 16 = .ok (.invokestatic 34, 3) := by decide +kernel
theorem dX6_isBlockSet_19 : decode cX6_isBlockSet 19 = .ok (.ireturn, 1) := by decide +kernel
theorem dX6_isSetting_0 : decode cX6_isSetting 0 = .ok (.iload_n 0, 1) := by decide +kernel
theorem dX6_isSetting_1 : decode cX6_isSetting 1 = .ok (.tableswitch 62 0 3 #[31, 38, 45, 52], 31) := by decide +kernel
theorem dX6_isSetting_32 : decode cX6_isSetting 32 = .ok (.iload_n 1, 1) := by decide +kernel
theorem dX6_isSetting_33 : decode cX6_isSetting 33 = .ok (.iconst 1, 1) := by decide +kernel
theorem dX6_isSetting_34 : decode cX6_isSetting 34 = .ok (.iconst 4, 1) := by decide +kernel
theorem dX6_isSetting_35 : decode cX6_isSetting 35 = .ok (.invokestatic 34, 3) := by decide +kernel
theorem dX6_isSetting_38 : decode cX6_isSetting 38 = .ok (.ireturn, 1) := by decide +kernel
theorem dX6_isSetting_39 : decode cX6_isSetting 39 = .ok (.iload_n 1, 1) := by decide +kernel
theorem dX6_isSetting_40 : decode cX6_isSetting 40 = .ok (.iconst 0, 1) := by decide +kernel
theorem dX6_isSetting_41 : decode cX6_isSetting 41 = .ok (.iconst 3, 1) := by decide +kernel
theorem dX6_isSetting_42 : decode cX6_isSetting 42 = .ok (.invokestatic 34, 3) := by decide +kernel
theorem dX6_isSetting_45 : decode cX6_isSetting 45 = .ok (.ireturn, 1) := by decide +kernel
theorem dX6_isSetting_46 : decode cX6_isSetting 46 = .ok (.iload_n 1, 1) := by decide +kernel
theorem dX6_isSetting_47 : decode cX6_isSetting 47 = .ok (.iconst 0, 1) := by decide +kernel
theorem dX6_isSetting_48 : decode cX6_isSetting 48 = .ok (.iconst 1, 1) := by decide +kernel
theorem dX6_isSetting_49 : decode cX6_isSetting 49 = .ok (.invokestatic 34, 3) := by decide +kernel
theorem dX6_isSetting_52 : decode cX6_isSetting 52 = .ok (.ireturn, 1) := by decide +kernel
theorem dX6_isSetting_53 : decode cX6_isSetting 53 = .ok (.iload_n 1, 1) := by decide +kernel
theorem dX6_isSetting_54 : decode cX6_isSetting 54 = .ok (.ifCond .lt 7, 3) := by decide +kernel
theorem dX6_isSetting_57 : decode cX6_isSetting 57 = .ok (.iconst 1, 1) := by decide +kernel
theorem dX6_isSetting_58 : decode cX6_isSetting 58 = .ok (.goto 4, 3) := by decide +kernel
theorem dX6_isSetting_61 : decode cX6_isSetting 61 = .ok (.iconst 0, 1) := by decide +kernel
theorem dX6_isSetting_62 : decode cX6_isSetting 62 = .ok (.ireturn, 1) := by decide +kernel
theorem dX6_isSetting_63 : decode cX6_isSetting 63 = .ok (.iconst 0, 1) := by decide +kernel
theorem dX6_isSetting_64 : decode cX6_isSetting 64 = .ok (.ireturn, 1) := by decide +kernel
theorem dX6_isWithin_0 : decode cX6_isWithin 0 = .ok (.iload_n 0, 1) := by decide +kernel
theorem dX6_isWithin_1 : decode cX6_isWithin 1 = .ok (.iload_n 1, 1) := by decide +kernel
theorem dX6_isWithin_2 : decode cX6_isWithin 2 = .ok (.if_icmp .lt 12, 3) := by decide +kernel
theorem dX6_isWithin_5 : decode cX6_isWithin 5 = .ok (.iload_n 0, 1) := by decide +kernel
theorem dX6_isWithin_6 : decode cX6_isWithin 6 = .ok (.iload_n 2, 1) := by decide +kernel
theorem dX6_isWithin_7 : decode cX6_isWithin 7 = .ok (.if_icmp .gt 7, 3) := by decide +kernel
theorem dX6_isWithin_10 : decode cX6_isWithin 10 = .ok (.iconst 1, 1) := by decide +kernel
theorem dX6_isWithin_11 : decode cX6_isWithin 11 = .ok (.goto 4, 3) := by decide +kernel
theorem dX6_isWithin_14 : decode cX6_isWithin 14 = .ok (.iconst 0, 1) := by decide +kernel
theorem dX6_isWithin_15 : decode cX6_isWithin 15 = .ok (.ireturn, 1) := by decide +kernel
theorem dX6_numberOfPacket_0 : decode cX6_numberOfPacket 0 = .ok (.iload_n 1, 1) := by decide +kernel
theorem dX6_numberOfPacket_1 : decode cX6_numberOfPacket 1 = .ok (.ifCond .lt 12, 3) := by decide +kernel
theorem dX6_numberOfPacket_4 : decode cX6_numberOfPacket 4 = .ok (.iload_n 2, 1) := by decide +kernel
theorem dX6_numberOfPacket_5 : decode cX6_numberOfPacket 5 = .ok (.iconst 0, 1) := by decide +kernel
theorem dX6_numberOfPacket_6 : decode cX6_numberOfPacket 6 = .ok (.iconst 2, 1) := by decide +kernel
theorem dX6_numberOfPacket_7 : decode cX6_numberOfPacket 7 = .ok (.invokestatic 34, 3) := by decide +kernel
theorem dX6_numberOfPacket_10 : decode cX6_numberOfPacket 10 = .ok (.ifCond .ne 5, 3) := by decide +kernel
theorem dX6_numberOfPacket_13 : decode cX6_numberOfPacket 13 = .ok (.iconst (-1), 1) := by decide +kernel
theorem dX6_numberOfPacket_14 : decode cX6_numberOfPacket 14 = .ok (.ireturn, 1) := by decide +kernel
theorem dX6_numberOfPacket_15 : decode cX6_numberOfPacket 15 = .ok (.iload_n 1, 1) := by decide +kernel
theorem dX6_numberOfPacket_16 : decode cX6_numberOfPacket 16 = .ok (.aload_n 0, 1) := by decide +kernel
theorem dX6_numberOfPacket_17 : decode cX6_numberOfPacket 17 = .ok (.getfield 108, 3) := by decide +kernel
theorem dX6_numberOfPacket_20 : decode cX6_numberOfPacket 20 = .ok (.if_icmp .lt 6, 3) := by decide +kernel
theorem dX6_numberOfPacket_23 : decode cX6_numberOfPacket 23 = .ok (.bipush (-9), 2) := by decide +kernel
theorem dX6_numberOfPacket_25 : decode cX6_numberOfPacket 25 = .ok (.ireturn, 1) := by decide +kernel
theorem dX6_numberOfPacket_26 : decode cX6_numberOfPacket 26 = .ok (.aload_n 0, 1) := by decide +kernel
theorem dX6_numberOfPacket_27 : decode cX6_numberOfPacket 27 = .ok (.iload_n 1, 1) := by decide +kernel
theorem dX6_numberOfPacket_28 : decode cX6_numberOfPacket 28 = .ok (.invokevirtual 203, 3) := by decide +kernel
theorem dX6_numberOfPacket_31 : decode cX6_numberOfPacket 31 = .ok (.istore_n 3, 1) := by decide +kernel
theorem dX6_numberOfPacket_32 : decode cX6_numberOfPacket 32 = .ok (.iload_n 2, 1) := by decide +kernel
theorem dX6_numberOfPacket_33 : decode cX6_numberOfPacket 33 = .ok (.lookupswitch 37 #[(0, 27), (1, 32)], 27) := by decide +kernel
theorem dX6_numberOfPacket_60 : decode cX6_numberOfPacket 60 = .ok (.iload_n 3, 1) := by decide +kernel
theorem dX6_numberOfPacket_61 : decode cX6_numberOfPacket 61 = .ok (.invokestatic 206, 3) := by decide +kernel
theorem dX6_numberOfPacket_64 : decode cX6_numberOfPacket 64 = .ok (.ireturn, 1) := by decide +kernel
theorem dX6_numberOfPacket_65 : decode cX6_numberOfPacket 65 = .ok (.iload_n 3, 1) := by decide +kernel
theorem dX6_numberOfPacket_66 : decode cX6_numberOfPacket 66 = .ok (.invokestatic 209, 3) := by decide +kernel
theorem dX6_numberOfPacket_69 : decode cX6_numberOfPacket 69 = .ok (.ireturn, 1) := by decide +kernel
theorem dX6_numberOfPacket_70 : decode cX6_numberOfPacket 70 = .ok (.iload_n 3, 1) := by decide +kernel
theorem dX6_numberOfPacket_71 : decode cX6_numberOfPacket 71 = .ok (.invokestatic 212, 3) := by decide +kernel
theorem dX6_numberOfPacket_74 : decode cX6_numberOfPacket 74 = .ok (.ireturn, 1) := by decide +kernel
theorem dX6_setIn_0 : decode cX6_setIn 0 = .ok (.iload_n 0, 1) := by decide +kernel
theorem dX6_setIn_1 : decode cX6_setIn 1 = .ok (.bipush 8, 2) := by decide +kernel
theorem dX6_setIn_3 : decode cX6_setIn 3 = .ok (.ishr, 1) := by decide +kernel
theorem dX6_setIn_4 : decode cX6_setIn 4 = .ok (.ireturn, 1) := by decide +kernel
theorem dX6_valueIn_0 : decode cX6_valueIn 0 = .ok (.iload_n 0, 1) := by decide +kernel
theorem dX6_valueIn_1 : decode cX6_valueIn 1 = .ok (.sipush 255, 3) := by decide +kernel
theorem dX6_valueIn_4 : decode cX6_valueIn 4 = .ok (.iand, 1) := by decide +kernel
theorem dX6_valueIn_5 : decode cX6_valueIn 5 = .ok (.ireturn, 1) := by decide +kernel
theorem dX6_degreeOf_0 : decode cX6_degreeOf 0 = .ok (.iload_n 0, 1) := by decide +kernel
theorem dX6_degreeOf_1 : decode cX6_degreeOf 1 = .ok (.bipush 8, 2) := by decide +kernel
theorem dX6_degreeOf_3 : decode cX6_degreeOf 3 = .ok (.ishr, 1) := by decide +kernel
theorem dX6_degreeOf_4 : decode cX6_degreeOf 4 = .ok (.invokestatic 215, 3) := by decide +kernel
theorem dX6_degreeOf_7 : decode cX6_degreeOf 7 = .ok (.ireturn, 1) := by decide +kernel
theorem dX6_hasBlock_0 : decode cX6_hasBlock 0 = .ok (.iload_n 0, 1) := by decide +kernel
theorem dX6_hasBlock_1 : decode cX6_hasBlock 1 = .ok (.bipush 8, 2) := by decide +kernel
theorem dX6_hasBlock_3 : decode cX6_hasBlock 3 = .ok (.iload_n 1, 1) := by decide +kernel
theorem dX6_hasBlock_4 : decode cX6_hasBlock 4 = .ok (.iadd, 1) := by decide +kernel
theorem dX6_hasBlock_5 : decode cX6_hasBlock 5 = .ok (.ishr, 1) := by decide +kernel
theorem dX6_hasBlock_6 : decode cX6_hasBlock 6 = .ok (.iconst 1, 1) := by decide +kernel
theorem dX6_hasBlock_7 : decode cX6_hasBlock 7 = .ok (.iand, 1) := by decide +kernel
theorem dX6_hasBlock_8 : decode cX6_hasBlock 8 = .ok (.ifCond .eq 7, 3) := by decide +kernel
theorem dX6_hasBlock_11 : decode cX6_hasBlock 11 = .ok (.iconst 1, 1) := by decide +kernel
theorem dX6_hasBlock_12 : decode cX6_hasBlock 12 = .ok (.goto 4, 3) := by decide +kernel
theorem dX6_hasBlock_15 : decode cX6_hasBlock 15 = .ok (.iconst 0, 1) := by decide +kernel
theorem dX6_hasBlock_16 : decode cX6_hasBlock 16 = .ok (.ireturn, 1) := by decide +kernel
theorem dX6_packetWith_0 : decode cX6_packetWith 0 = .ok (.iconst 1, 1) := by decide +kernel
theorem dX6_packetWith_1 : decode cX6_packetWith 1 = .ok (.bipush 8, 2) := by decide +kernel
theorem dX6_packetWith_3 : decode cX6_packetWith 3 = .ok (.iload_n 0, 1) := by decide +kernel
theorem dX6_packetWith_4 : decode cX6_packetWith 4 = .ok (.iadd, 1) := by decide +kernel
theorem dX6_packetWith_5 : decode cX6_packetWith 5 = .ok (.ishl, 1) := by decide +kernel
theorem dX6_packetWith_6 : decode cX6_packetWith 6 = .ok (.iload_n 1, 1) := by decide +kernel
theorem dX6_packetWith_7 : decode cX6_packetWith 7 = .ok (.ior, 1) := by decide +kernel
theorem dX6_packetWith_8 : decode cX6_packetWith 8 = .ok (.ireturn, 1) := by decide +kernel
theorem dX6_copyRow_0 : decode cX6_copyRow 0 = .ok (.aload_n 0, 1) := by decide +kernel
theorem dX6_copyRow_1 : decode cX6_copyRow 1 = .ok (.iconst 0, 1) := by decide +kernel
theorem dX6_copyRow_2 : decode cX6_copyRow 2 = .ok (.aload_n 1, 1) := by decide +kernel
theorem dX6_copyRow_3 : decode cX6_copyRow 3 = .ok (.iconst 0, 1) := by decide +kernel
theorem dX6_copyRow_4 : decode cX6_copyRow 4 = .ok (.aload_n 0, 1) := by decide +kernel
theorem dX6_copyRow_5 : decode cX6_copyRow 5 = .ok (.arraylength, 1) := by decide +kernel
theorem dX6_copyRow_6 : decode cX6_copyRow 6 = .ok (.aload_n 1, 1) := by decide +kernel
theorem dX6_copyRow_7 : decode cX6_copyRow 7 = .ok (.arraylength, 1) := by decide +kernel
theorem dX6_copyRow_8 : decode cX6_copyRow 8 = .ok (.invokestatic 220, 3) := by decide +kernel
theorem dX6_copyRow_11 : decode cX6_copyRow 11 = .ok (.invokestatic 225, 3) := by decide +kernel
theorem dX6_copyRow_14 : decode cX6_copyRow 14 = .ok (.return_, 1) := by decide +kernel
theorem dJ6_bitCount_0f7a4_0 : decode cJ6_bitCount_0f7a4 0 = .ok (.iload_n 0, 1) := by decide +kernel
theorem dJ6_bitCount_0f7a4_1 : decode cJ6_bitCount_0f7a4 1 = .ok (.iload_n 0, 1) := by decide +kernel
theorem dJ6_bitCount_0f7a4_2 : decode cJ6_bitCount_0f7a4 2 = .ok (.iconst 1, 1) := by decide +kernel
theorem dJ6_bitCount_0f7a4_3 : decode cJ6_bitCount_0f7a4 3 = .ok (.iushr, 1) := by decide +kernel
theorem dJ6_bitCount_0f7a4_4 : decode cJ6_bitCount_0f7a4 4 = .ok (.ldc_w 265, 3) := by decide +kernel
theorem dJ6_bitCount_0f7a4_7 : decode cJ6_bitCount_0f7a4 7 = .ok (.iand, 1) := by decide +kernel
theorem dJ6_bitCount_0f7a4_8 : decode cJ6_bitCount_0f7a4 8 = .ok (.isub, 1) := by decide +kernel
theorem dJ6_bitCount_0f7a4_9 : decode cJ6_bitCount_0f7a4 9 = .ok (.istore_n 0, 1) := by decide +kernel
theorem dJ6_bitCount_0f7a4_10 : decode cJ6_bitCount_0f7a4 10 = .ok (.iload_n 0, 1) := by decide +kernel
theorem dJ6_bitCount_0f7a4_11 : decode cJ6_bitCount_0f7a4 11 = .ok (.ldc_w 266, 3) := by decide +kernel
theorem dJ6_bitCount_0f7a4_14 : decode cJ6_bitCount_0f7a4 14 = .ok (.iand, 1) := by decide +kernel
theorem dJ6_bitCount_0f7a4_15 : decode cJ6_bitCount_0f7a4 15 = .ok (.iload_n 0, 1) := by decide +kernel
theorem dJ6_bitCount_0f7a4_16 : decode cJ6_bitCount_0f7a4 16 = .ok (.iconst 2, 1) := by decide +kernel
theorem dJ6_bitCount_0f7a4_17 : decode cJ6_bitCount_0f7a4 17 = .ok (.iushr, 1) := by decide +kernel
theorem dJ6_bitCount_0f7a4_18 : decode cJ6_bitCount_0f7a4 18 = .ok (.ldc_w 266, 3) := by decide +kernel
theorem dJ6_bitCount_0f7a4_21 : decode cJ6_bitCount_0f7a4 21 = .ok (.iand, 1) := by decide +kernel
theorem dJ6_bitCount_0f7a4_22 : decode cJ6_bitCount_0f7a4 22 = .ok (.iadd, 1) := by decide +kernel
theorem dJ6_bitCount_0f7a4_23 : decode cJ6_bitCount_0f7a4 23 = .ok (.istore_n 0, 1) := by decide +kernel
theorem dJ6_bitCount_0f7a4_24 : decode cJ6_bitCount_0f7a4 24 = .ok (.iload_n 0, 1) := by decide +kernel
theorem dJ6_bitCount_0f7a4_25 : decode cJ6_bitCount_0f7a4 25 = .ok (.iload_n 0, 1) := by decide +kernel
theorem dJ6_bitCount_0f7a4_26 : decode cJ6_bitCount_0f7a4 26 = .ok (.iconst 4, 1) := by decide +kernel
theorem dJ6_bitCount_0f7a4_27 : decode cJ6_bitCount_0f7a4 27 = .ok (.iushr, 1) := by decide +kernel
theorem dJ6_bitCount_0f7a4_28 : decode cJ6_bitCount_0f7a4 28 = .ok (.iadd, 1) := by decide +kernel
theorem dJ6_bitCount_0f7a4_29 : decode cJ6_bitCount_0f7a4 29 = .ok (.ldc_w 267, 3) := by decide +kernel
theorem dJ6_bitCount_0f7a4_32 : decode cJ6_bitCount_0f7a4 32 = .ok (.iand, 1) := by decide +kernel
theorem dJ6_bitCount_0f7a4_33 : decode cJ6_bitCount_0f7a4 33 = .ok (.istore_n 0, 1) := by decide +kernel
theorem dJ6_bitCount_0f7a4_34 : decode cJ6_bitCount_0f7a4 34 = .ok (.iload_n 0, 1) := by decide +kernel
theorem dJ6_bitCount_0f7a4_35 : decode cJ6_bitCount_0f7a4 35 = .ok (.iload_n 0, 1) := by decide +kernel
theorem dJ6_bitCount_0f7a4_36 : decode cJ6_bitCount_0f7a4 36 = .ok (.bipush 8, 2) := by decide +kernel
theorem dJ6_bitCount_0f7a4_38 : decode cJ6_bitCount_0f7a4 38 = .ok (.iushr, 1) := by decide +kernel
theorem dJ6_bitCount_0f7a4_39 : decode cJ6_bitCount_0f7a4 39 = .ok (.iadd, 1) := by decide +kernel
theorem dJ6_bitCount_0f7a4_40 : decode cJ6_bitCount_0f7a4 40 = .ok (.istore_n 0, 1) := by decide +kernel
theorem dJ6_bitCount_0f7a4_41 : decode cJ6_bitCount_0f7a4 41 = .ok (.iload_n 0, 1) := by decide +kernel
theorem dJ6_bitCount_0f7a4_42 : decode cJ6_bitCount_0f7a4 42 = .ok (.iload_n 0, 1) := by decide +kernel
theorem dJ6_bitCount_0f7a4_43 : decode cJ6_bitCount_0f7a4 43 = .ok (.bipush 16, 2) := by decide +kernel
theorem dJ6_bitCount_0f7a4_45 : decode cJ6_bitCount_0f7a4 45 = .ok (.iushr, 1) := by decide +kernel
theorem dJ6_bitCount_0f7a4_46 : decode cJ6_bitCount_0f7a4 46 = .ok (.iadd, 1) := by decide +kernel
theorem dJ6_bitCount_0f7a4_47 : decode cJ6_bitCount_0f7a4 47 = .ok (.istore_n 0, 1) := by decide +kernel
theorem dJ6_bitCount_0f7a4_48 : decode cJ6_bitCount_0f7a4 48 = .ok (.iload_n 0, 1) := by decide +kernel
theorem dJ6_bitCount_0f7a4_49 : decode cJ6_bitCount_0f7a4 49 = .ok (.bipush 63, 2) := by decide +kernel
theorem dJ6_bitCount_0f7a4_51 : decode cJ6_bitCount_0f7a4 51 = .ok (.iand, 1) := by decide +kernel
theorem dJ6_bitCount_0f7a4_52 : decode cJ6_bitCount_0f7a4 52 = .ok (.ireturn, 1) := by decide +kernel
theorem dJ9_max_7cf53_0 : decode cJ9_max_7cf53 0 = .ok (.iload_n 0, 1) := by decide +kernel
theorem dJ9_max_7cf53_1 : decode cJ9_max_7cf53 1 = .ok (.iload_n 1, 1) := by decide +kernel
theorem dJ9_max_7cf53_2 : decode cJ9_max_7cf53 2 = .ok (.if_icmp .lt 7, 3) := by decide +kernel
theorem dJ9_max_7cf53_5 : decode cJ9_max_7cf53 5 = .ok (.iload_n 0, 1) := by decide +kernel
theorem dJ9_max_7cf53_6 : decode cJ9_max_7cf53 6 = .ok (.goto 4, 3) := by decide +kernel
theorem dJ9_max_7cf53_9 : decode cJ9_max_7cf53 9 = .ok (.iload_n 1, 1) := by decide +kernel
theorem dJ9_max_7cf53_10 : decode cJ9_max_7cf53 10 = .ok (.ireturn, 1) := by decide +kernel
theorem dJ9_min_7cf53_0 : decode cJ9_min_7cf53 0 = .ok (.iload_n 0, 1) := by decide +kernel
theorem dJ9_min_7cf53_1 : decode cJ9_min_7cf53 1 = .ok (.iload_n 1, 1) := by decide +kernel
theorem dJ9_min_7cf53_2 : decode cJ9_min_7cf53 2 = .ok (.if_icmp .gt 7, 3) := by decide +kernel
theorem dJ9_min_7cf53_5 : decode cJ9_min_7cf53 5 = .ok (.iload_n 0, 1) := by decide +kernel
theorem dJ9_min_7cf53_6 : decode cJ9_min_7cf53 6 = .ok (.goto 4, 3) := by decide +kernel
theorem dJ9_min_7cf53_9 : decode cJ9_min_7cf53 9 = .ok (.iload_n 1, 1) := by decide +kernel
theorem dJ9_min_7cf53_10 : decode cJ9_min_7cf53 10 = .ok (.ireturn, 1) := by decide +kernel
