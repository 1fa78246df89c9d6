theorem dX7_init_0 : decode cX7_init 0 = .ok (.aload_n 0, 1) := by decide +kernel
theorem dX7_init_1 : decode cX7_init 1 = .ok (.invokespecial 1, 3) := by decide +kernel
theorem dX7_init_4 : decode cX7_init 4 = .ok (.aload_n 0, 1) := by decide +kernel
theorem dX7_init_5 : decode cX7_init 5 = .ok (.sipush 165, 3) := by decide +kernel
theorem dX7_init_8 : decode cX7_init 8 = .ok (.newarray .int, 2) := by decide +kernel
theorem dX7_init_10 : decode cX7_init 10 = .ok (.putfield 7, 3) := by decide +kernel
theorem dX7_init_13 : decode cX7_init 13 = .ok (.aload_n 0, 1) := by decide +kernel
theorem dX7_init_14 : decode cX7_init 14 = .ok (.sipush 1320, 3) := by decide +kernel
theorem dX7_init_17 : decode cX7_init 17 = .ok (.newarray .int, 2) := by decide +kernel
theorem dX7_init_19 : decode cX7_init 19 = .ok (.putfield 13, 3) := by decide +kernel
theorem dX7_init_22 : decode cX7_init 22 = .ok (.aload_n 0, 1) := by decide +kernel
theorem dX7_init_23 : decode cX7_init 23 = .ok (.sipush 330, 3) := by decide +kernel
theorem dX7_init_26 : decode cX7_init 26 = .ok (.newarray .int, 2) := by decide +kernel
theorem dX7_init_28 : decode cX7_init 28 = .ok (.putfield 16, 3) := by decide +kernel
theorem dX7_init_31 : decode cX7_init 31 = .ok (.aload_n 0, 1) := by decide +kernel
theorem dX7_init_32 : decode cX7_init 32 = .ok (.bipush 12, 2) := by decide +kernel
theorem dX7_init_34 : decode cX7_init 34 = .ok (.newarray .int, 2) := by decide +kernel
theorem dX7_init_36 : decode cX7_init 36 = .ok (.putfield 19, 3) := by decide +kernel
theorem dX7_init_39 : decode cX7_init 39 = .ok (.aload_n 0, 1) := by decide +kernel
theorem dX7_init_40 : decode cX7_init 40 = .ok (.bipush 12, 2) := by decide +kernel
theorem dX7_init_42 : decode cX7_init 42 = .ok (.newarray .int, 2) := by decide +kernel
theorem dX7_init_44 : decode cX7_init 44 = .ok (.putfield 22, 3) := by decide +kernel
theorem dX7_init_47 : decode cX7_init 47 = .ok (.aload_n 0, 1) := by decide +kernel
theorem dX7_init_48 : decode cX7_init 48 = .ok (.iconst 4, 1) := by decide +kernel
theorem dX7_init_49 : decode cX7_init 49 = .ok (.newarray .int, 2) := by decide +kernel
theorem dX7_init_51 : decode cX7_init 51 = .ok (.putfield 25, 3) := by decide +kernel
theorem dX7_init_54 : decode cX7_init 54 = .ok (.aload_n 0, 1) := by decide +kernel
theorem dX7_init_55 : decode cX7_init 55 = .ok (.iconst 4, 1) := by decide +kernel
theorem dX7_init_56 : decode cX7_init 56 = .ok (.newarray .int, 2) := by decide +kernel
theorem dX7_init_58 : decode cX7_init 58 = .ok (.putfield 28, 3) := by decide +kernel
theorem dX7_init_61 : decode cX7_init 61 = .ok (.aload_n 0, 1) := by decide +kernel
theorem dX7_init_62 : decode cX7_init 62 = .ok (.sipush 165, 3) := by decide +kernel
theorem dX7_init_65 : decode cX7_init 65 = .ok (.newarray .int, 2) := by decide +kernel
theorem dX7_init_67 : decode cX7_init 67 = .ok (.putfield 31, 3) := by decide +kernel
theorem dX7_init_70 : decode cX7_init 70 = .ok (.aload_n 0, 1) := by decide +kernel
theorem dX7_init_71 : decode cX7_init 71 = .ok (.getfield 7, 3) := by decide +kernel
theorem dX7_init_74 : decode cX7_init 74 = .ok (.iconst 3, 1) := by decide +kernel
theorem dX7_init_75 : decode cX7_init 75 = .ok (.iconst 2, 1) := by decide +kernel
theorem dX7_init_76 : decode cX7_init 76 = .ok (.iastore, 1) := by decide +kernel
theorem dX7_init_77 : decode cX7_init 77 = .ok (.aload_n 0, 1) := by decide +kernel
theorem dX7_init_78 : decode cX7_init 78 = .ok (.getfield 7, 3) := by decide +kernel
theorem dX7_init_81 : decode cX7_init 81 = .ok (.bipush 6, 2) := by decide +kernel
theorem dX7_init_83 : decode cX7_init 83 = .ok (.iconst 1, 1) := by decide +kernel
theorem dX7_init_84 : decode cX7_init 84 = .ok (.iastore, 1) := by decide +kernel
theorem dX7_init_85 : decode cX7_init 85 = .ok (.aload_n 0, 1) := by decide +kernel
theorem dX7_init_86 : decode cX7_init 86 = .ok (.getfield 7, 3) := by decide +kernel
theorem dX7_init_89 : decode cX7_init 89 = .ok (.bipush 11, 2) := by decide +kernel
theorem dX7_init_91 : decode cX7_init 91 = .ok (.iconst 1, 1) := by decide +kernel
theorem dX7_init_92 : decode cX7_init 92 = .ok (.iastore, 1) := by decide +kernel
theorem dX7_init_93 : decode cX7_init 93 = .ok (.aload_n 0, 1) := by decide +kernel
theorem dX7_init_94 : decode cX7_init 94 = .ok (.getfield 7, 3) := by decide +kernel
theorem dX7_init_97 : decode cX7_init 97 = .ok (.bipush 12, 2) := by decide +kernel
theorem dX7_init_99 : decode cX7_init 99 = .ok (.iconst 5, 1) := by decide +kernel
theorem dX7_init_100 : decode cX7_init 100 = .ok (.iastore, 1) := by decide +kernel
theorem dX7_init_101 : decode cX7_init 101 = .ok (.aload_n 0, 1) := by decide +kernel
theorem dX7_init_102 : decode cX7_init 102 = .ok (.getfield 7, 3) := by decide +kernel
theorem dX7_init_105 : decode cX7_init 105 = .ok (.bipush 13, 2) := by decide +kernel
theorem dX7_init_107 : decode cX7_init 107 = .ok (.iconst 2, 1) := by decide +kernel
theorem dX7_init_108 : decode cX7_init 108 = .ok (.iastore, 1) := by decide +kernel
theorem dX7_init_109 : decode cX7_init 109 = .ok (.aload_n 0, 1) := by decide +kernel
theorem dX7_init_110 : decode cX7_init 110 = .ok (.getfield 7, 3) := by decide +kernel
theorem dX7_init_113 : decode cX7_init 113 = .ok (.bipush 14, 2) := by decide +kernel
theorem dX7_init_115 : decode cX7_init 115 = .ok (.iconst 1, 1) := by decide +kernel
theorem dX7_init_116 : decode cX7_init 116 = .ok (.iastore, 1) := by decide +kernel
theorem dX7_init_117 : decode cX7_init 117 = .ok (.aload_n 0, 1) := by decide +kernel
theorem dX7_init_118 : decode cX7_init 118 = .ok (.iconst 4, 1) := by decide +kernel
theorem dX7_init_119 : decode cX7_init 119 = .ok (.iconst 1, 1) := by decide +kernel
theorem dX7_init_120 : decode cX7_init 120 = .ok (.invokevirtual 34, 3) := by decide +kernel
theorem dX7_init_123 : decode cX7_init 123 = .ok (.return_, 1) := by decide +kernel
theorem dX7_isIn_0 : decode cX7_isIn 0 = .ok (.iload_n 0, 1) := by decide +kernel
theorem dX7_isIn_1 : decode cX7_isIn 1 = .ok (.iload_n 1, 1) := by decide +kernel
theorem dX7_isIn_2 : decode cX7_isIn 2 = .ok (.if_icmp .lt 12, 3) := by decide +kernel
theorem dX7_isIn_5 : decode cX7_isIn 5 = .ok (.iload_n 0, 1) := by decide +kernel
theorem dX7_isIn_6 : decode cX7_isIn 6 = .ok (.iload_n 2, 1) := by decide +kernel
theorem dX7_isIn_7 : decode cX7_isIn 7 = .ok (.if_icmp .gt 7, 3) := by decide +kernel
theorem dX7_isIn_10 : decode cX7_isIn 10 = .ok (.iconst 1, 1) := by decide +kernel
theorem dX7_isIn_11 : decode cX7_isIn 11 = .ok (.goto 4, 3) := by decide +kernel
theorem dX7_isIn_14 : decode cX7_isIn 14 = .ok (.iconst 0, 1) := by decide +kernel
theorem dX7_isIn_15 : decode cX7_isIn 15 = .ok (.ireturn, 1) := by decide +kernel
theorem dX7_lay_0 : decode cX7_lay 0 = .ok (.iconst 0, 1) := by decide +kernel
theorem dX7_lay_1 : decode cX7_lay 1 = .ok (.istore_n 3, 1) := by decide +kernel
theorem dX7_lay_2 : decode cX7_lay 2 = .ok (.iload_n 3, 1) := by decide +kernel
theorem dX7_lay_3 : decode cX7_lay 3 = .ok (.iconst 4, 1) := by decide +kernel
theorem dX7_lay_4 : decode cX7_lay 4 = .ok (.if_icmp .ge 46, 3) := by decide +kernel
theorem dX7_lay_7 : decode cX7_lay 7 = .ok (.aload_n 0, 1) := by decide +kernel
theorem dX7_lay_8 : decode cX7_lay 8 = .ok (.getfield 7, 3) := by decide +kernel
theorem dX7_lay_11 : decode cX7_lay 11 = .ok (.bipush 7, 2) := by decide +kernel
theorem dX7_lay_13 : decode cX7_lay 13 = .ok (.iload_n 3, 1) := by decide +kernel
theorem dX7_lay_14 : decode cX7_lay 14 = .ok (.iadd, 1) := by decide +kernel
theorem dX7_lay_15 : decode cX7_lay 15 = .ok (.iload_n 3, 1) := by decide +kernel
theorem dX7_lay_16 : decode cX7_lay 16 = .ok (.aload_n 0, 1) := by decide +kernel
theorem dX7_lay_17 : decode cX7_lay 17 = .ok (.getfield 7, 3) := by decide +kernel
theorem dX7_lay_20 : decode cX7_lay 20 = .ok (.iconst 1, 1) := by decide +kernel
theorem dX7_lay_21 : decode cX7_lay 21 = .ok (.iaload, 1) := by decide +kernel
theorem dX7_lay_22 : decode cX7_lay 22 = .ok (.if_icmp .gt 20, 3) := by decide +kernel
theorem dX7_lay_25 : decode cX7_lay 25 = .ok (.iload_n 3, 1) := by decide +kernel
theorem dX7_lay_26 : decode cX7_lay 26 = .ok (.iload_n 2, 1) := by decide +kernel
theorem dX7_lay_27 : decode cX7_lay 27 = .ok (.if_icmp .gt 15, 3) := by decide +kernel
theorem dX7_lay_30 : decode cX7_lay 30 = .ok (.aload_n 0, 1) := by decide +kernel
theorem dX7_lay_31 : decode cX7_lay 31 = .ok (.getfield 7, 3) := by decide +kernel
theorem dX7_lay_34 : decode cX7_lay 34 = .ok (.bipush 7, 2) := by decide +kernel
theorem dX7_lay_36 : decode cX7_lay 36 = .ok (.iload_n 3, 1) := by decide +kernel
theorem dX7_lay_37 : decode cX7_lay 37 = .ok (.iadd, 1) := by decide +kernel
theorem dX7_lay_38 : decode cX7_lay 38 = .ok (.iaload, 1) := by decide +kernel
theorem dX7_lay_39 : decode cX7_lay 39 = .ok (.goto 4, 3) := by decide +kernel
theorem dX7_lay_42 : decode cX7_lay 42 = .ok (.iconst 0, 1) := by decide +kernel
theorem dX7_lay_43 : decode cX7_lay 43 = .ok (.iastore, 1) := by decide +kernel
theorem dX7_lay_44 : decode cX7_lay 44 = .ok (.iinc 3 1, 3) := by decide +kernel
theorem dX7_lay_47 : decode cX7_lay 47 = .ok (.goto (-45), 3) := by decide +kernel
theorem dX7_lay_50 : decode cX7_lay 50 = .ok (.aload_n 0, 1) := by decide +kernel
theorem dX7_lay_51 : decode cX7_lay 51 = .ok (.getfield 7, 3) := by decide +kernel
theorem dX7_lay_54 : decode cX7_lay 54 = .ok (.iconst 0, 1) := by decide +kernel
theorem dX7_lay_55 : decode cX7_lay 55 = .ok (.iload_n 1, 1) := by decide +kernel
theorem dX7_lay_56 : decode cX7_lay 56 = .ok (.iastore, 1) := by decide +kernel
theorem dX7_lay_57 : decode cX7_lay 57 = .ok (.aload_n 0, 1) := by decide +kernel
theorem dX7_lay_58 : decode cX7_lay 58 = .ok (.getfield 7, 3) := by decide +kernel
theorem dX7_lay_61 : decode cX7_lay 61 = .ok (.iconst 1, 1) := by decide +kernel
theorem dX7_lay_62 : decode cX7_lay 62 = .ok (.iload_n 2, 1) := by decide +kernel
theorem dX7_lay_63 : decode cX7_lay 63 = .ok (.iastore, 1) := by decide +kernel
theorem dX7_lay_64 : decode cX7_lay 64 = .ok (.aload_n 0, 1) := by decide +kernel
theorem dX7_lay_65 : decode cX7_lay 65 = .ok (.getfield 7, 3) := by decide +kernel
theorem dX7_lay_68 : decode cX7_lay 68 = .ok (.iconst 2, 1) := by decide +kernel
theorem dX7_lay_69 : decode cX7_lay 69 = .ok (.iconst 0, 1) := by decide +kernel
theorem dX7_lay_70 : decode cX7_lay 70 = .ok (.iastore, 1) := by decide +kernel
theorem dX7_lay_71 : decode cX7_lay 71 = .ok (.bipush 29, 2) := by decide +kernel
theorem dX7_lay_73 : decode cX7_lay 73 = .ok (.istore_n 3, 1) := by decide +kernel
theorem dX7_lay_74 : decode cX7_lay 74 = .ok (.iload_n 3, 1) := by decide +kernel
theorem dX7_lay_75 : decode cX7_lay 75 = .ok (.sipush 165, 3) := by decide +kernel
theorem dX7_lay_78 : decode cX7_lay 78 = .ok (.if_icmp .ge 16, 3) := by decide +kernel
theorem dX7_lay_81 : decode cX7_lay 81 = .ok (.aload_n 0, 1) := by decide +kernel
theorem dX7_lay_82 : decode cX7_lay 82 = .ok (.getfield 7, 3) := by decide +kernel
theorem dX7_lay_85 : decode cX7_lay 85 = .ok (.iload_n 3, 1) := by decide +kernel
theorem dX7_lay_86 : decode cX7_lay 86 = .ok (.iconst 0, 1) := by decide +kernel
theorem dX7_lay_87 : decode cX7_lay 87 = .ok (.iastore, 1) := by decide +kernel
theorem dX7_lay_88 : decode cX7_lay 88 = .ok (.iinc 3 1, 3) := by decide +kernel
theorem dX7_lay_91 : decode cX7_lay 91 = .ok (.goto (-17), 3) := by decide +kernel
theorem dX7_lay_94 : decode cX7_lay 94 = .ok (.iconst 0, 1) := by decide +kernel
theorem dX7_lay_95 : decode cX7_lay 95 = .ok (.istore_n 3, 1) := by decide +kernel
theorem dX7_lay_96 : decode cX7_lay 96 = .ok (.iload_n 3, 1) := by decide +kernel
theorem dX7_lay_97 : decode cX7_lay 97 = .ok (.bipush 12, 2) := by decide +kernel
theorem dX7_lay_99 : decode cX7_lay 99 = .ok (.if_icmp .ge 58, 3) := by decide +kernel
theorem dX7_lay_102 : decode cX7_lay 102 = .ok (.aload_n 0, 1) := by decide +kernel
theorem dX7_lay_103 : decode cX7_lay 103 = .ok (.getfield 7, 3) := by decide +kernel
theorem dX7_lay_106 : decode cX7_lay 106 = .ok (.bipush 17, 2) := by decide +kernel
theorem dX7_lay_108 : decode cX7_lay 108 = .ok (.iload_n 3, 1) := by decide +kernel
theorem dX7_lay_109 : decode cX7_lay 109 = .ok (.iadd, 1) := by decide +kernel
theorem dX7_lay_110 : decode cX7_lay 110 = .ok (.bipush 10, 2) := by decide +kernel
theorem dX7_lay_112 : decode cX7_lay 112 = .ok (.iload_n 3, 1) := by decide +kernel
theorem dX7_lay_113 : decode cX7_lay 113 = .ok (.imul, 1) := by decide +kernel
theorem dX7_lay_114 : decode cX7_lay 114 = .ok (.bipush 7, 2) := by decide +kernel
theorem dX7_lay_116 : decode cX7_lay 116 = .ok (.iadd, 1) := by decide +kernel
theorem dX7_lay_117 : decode cX7_lay 117 = .ok (.iastore, 1) := by decide +kernel
theorem dX7_lay_118 : decode cX7_lay 118 = .ok (.aload_n 0, 1) := by decide +kernel
theorem dX7_lay_119 : decode cX7_lay 119 = .ok (.getfield 7, 3) := by decide +kernel
theorem dX7_lay_122 : decode cX7_lay 122 = .ok (.bipush 86, 2) := by decide +kernel
theorem dX7_lay_124 : decode cX7_lay 124 = .ok (.iload_n 3, 1) := by decide +kernel
theorem dX7_lay_125 : decode cX7_lay 125 = .ok (.iadd, 1) := by decide +kernel
theorem dX7_lay_126 : decode cX7_lay 126 = .ok (.bipush (-9), 2) := by decide +kernel
theorem dX7_lay_128 : decode cX7_lay 128 = .ok (.iastore, 1) := by decide +kernel
theorem dX7_lay_129 : decode cX7_lay 129 = .ok (.aload_n 0, 1) := by decide +kernel
theorem dX7_lay_130 : decode cX7_lay 130 = .ok (.getfield 7, 3) := by decide +kernel
theorem dX7_lay_133 : decode cX7_lay 133 = .ok (.bipush 98, 2) := by decide +kernel
theorem dX7_lay_135 : decode cX7_lay 135 = .ok (.iload_n 3, 1) := by decide +kernel
theorem dX7_lay_136 : decode cX7_lay 136 = .ok (.iadd, 1) := by decide +kernel
theorem dX7_lay_137 : decode cX7_lay 137 = .ok (.bipush (-9), 2) := by decide +kernel
theorem dX7_lay_139 : decode cX7_lay 139 = .ok (.iastore, 1) := by decide +kernel
theorem dX7_lay_140 : decode cX7_lay 140 = .ok (.aload_n 0, 1) := by decide +kernel
theorem dX7_lay_141 : decode cX7_lay 141 = .ok (.getfield 7, 3) := by decide +kernel
theorem dX7_lay_144 : decode cX7_lay 144 = .ok (.bipush 110, 2) := by decide +kernel
theorem dX7_lay_146 : decode cX7_lay 146 = .ok (.iload_n 3, 1) := by decide +kernel
theorem dX7_lay_147 : decode cX7_lay 147 = .ok (.iadd, 1) := by decide +kernel
theorem dX7_lay_148 : decode cX7_lay 148 = .ok (.bipush (-9), 2) := by decide +kernel
theorem dX7_lay_150 : decode cX7_lay 150 = .ok (.iastore, 1) := by decide +kernel
theorem dX7_lay_151 : decode cX7_lay 151 = .ok (.iinc 3 1, 3) := by decide +kernel
theorem dX7_lay_154 : decode cX7_lay 154 = .ok (.goto (-58), 3) := by decide +kernel
theorem dX7_lay_157 : decode cX7_lay 157 = .ok (.return_, 1) := by decide +kernel
theorem dX7_remember_0 : decode cX7_remember 0 = .ok (.aload_n 0, 1) := by decide +kernel
theorem dX7_remember_1 : decode cX7_remember 1 = .ok (.getfield 38, 3) := by decide +kernel
theorem dX7_remember_4 : decode cX7_remember 4 = .ok (.bipush 8, 2) := by decide +kernel
theorem dX7_remember_6 : decode cX7_remember 6 = .ok (.if_icmp .ne 44, 3) := by decide +kernel
theorem dX7_remember_9 : decode cX7_remember 9 = .ok (.iconst 0, 1) := by decide +kernel
theorem dX7_remember_10 : decode cX7_remember 10 = .ok (.istore_n 1, 1) := by decide +kernel
theorem dX7_remember_11 : decode cX7_remember 11 = .ok (.iload_n 1, 1) := by decide +kernel
theorem dX7_remember_12 : decode cX7_remember 12 = .ok (.sipush 1155, 3) := by decide +kernel
theorem dX7_remember_15 : decode cX7_remember 15 = .ok (.if_icmp .ge 25, 3) := by decide +kernel
theorem dX7_remember_18 : decode cX7_remember 18 = .ok (.aload_n 0, 1) := by decide +kernel
theorem dX7_remember_19 : decode cX7_remember 19 = .ok (.getfield 13, 3) := by decide +kernel
theorem dX7_remember_22 : decode cX7_remember 22 = .ok (.iload_n 1, 1) := by decide +kernel
theorem dX7_remember_23 : decode cX7_remember 23 = .ok (.aload_n 0, 1) := by decide +kernel
theorem dX7_remember_24 : decode cX7_remember 24 = .ok (.getfield 13, 3) := by decide +kernel
theorem dX7_remember_27 : decode cX7_remember 27 = .ok (.iload_n 1, 1) := by decide +kernel
theorem dX7_remember_28 : decode cX7_remember 28 = .ok (.sipush 165, 3) := by decide +kernel
theorem dX7_remember_31 : decode cX7_remember 31 = .ok (.iadd, 1) := by decide +kernel
theorem dX7_remember_32 : decode cX7_remember 32 = .ok (.iaload, 1) := by decide +kernel
theorem dX7_remember_33 : decode cX7_remember 33 = .ok (.iastore, 1) := by decide +kernel
theorem dX7_remember_34 : decode cX7_remember 34 = .ok (.iinc 1 1, 3) := by decide +kernel
theorem dX7_remember_37 : decode cX7_remember 37 = .ok (.goto (-26), 3) := by decide +kernel
theorem dX7_remember_40 : decode cX7_remember 40 = .ok (.aload_n 0, 1) := by decide +kernel
theorem dX7_remember_41 : decode cX7_remember 41 = .ok (.dup, 1) := by decide +kernel
theorem dX7_remember_42 : decode cX7_remember 42 = .ok (.getfield 38, 3) := by decide +kernel
theorem dX7_remember_45 : decode cX7_remember 45 = .ok (.iconst 1, 1) := by decide +kernel
theorem dX7_remember_46 : decode cX7_remember 46 = .ok (.isub, 1) := by decide +kernel
theorem dX7_remember_47 : decode cX7_remember 47 = .ok (.putfield 38, 3) := by decide +kernel
theorem dX7_remember_50 : decode cX7_remember 50 = .ok (.iconst 0, 1) := by decide +kernel
theorem dX7_remember_51 : decode cX7_remember 51 = .ok (.istore_n 1, 1) := by decide +kernel
theorem dX7_remember_52 : decode cX7_remember 52 = .ok (.iload_n 1, 1) := by decide +kernel
theorem dX7_remember_53 : decode cX7_remember 53 = .ok (.sipush 165, 3) := by decide +kernel
theorem dX7_remember_56 : decode cX7_remember 56 = .ok (.if_icmp .ge 30, 3) := by decide +kernel
theorem dX7_remember_59 : decode cX7_remember 59 = .ok (.aload_n 0, 1) := by decide +kernel
theorem dX7_remember_60 : decode cX7_remember 60 = .ok (.getfield 13, 3) := by decide +kernel
theorem dX7_remember_63 : decode cX7_remember 63 = .ok (.sipush 165, 3) := by decide +kernel
theorem dX7_remember_66 : decode cX7_remember 66 = .ok (.aload_n 0, 1) := by decide +kernel
theorem dX7_remember_67 : decode cX7_remember 67 = .ok (.getfield 38, 3) := by decide +kernel
theorem dX7_remember_70 : decode cX7_remember 70 = .ok (.imul, 1) := by decide +kernel
theorem dX7_remember_71 : decode cX7_remember 71 = .ok (.iload_n 1, 1) := by decide +kernel
theorem dX7_remember_72 : decode cX7_remember 72 = .ok (.iadd, 1) := by decide +kernel
theorem dX7_remember_73 : decode cX7_remember 73 = .ok (.aload_n 0, 1) := by decide +kernel
theorem dX7_remember_74 : decode cX7_remember 74 = .ok (.getfield 7, 3) := by decide +kernel
theorem dX7_remember_77 : decode cX7_remember 77 = .ok (.iload_n 1, 1) := by decide +kernel
theorem dX7_remember_78 : decode cX7_remember 78 = .ok (.iaload, 1) := by decide +kernel
theorem dX7_remember_79 : decode cX7_remember 79 = .ok (.iastore, 1) := by decide +kernel
theorem dX7_remember_80 : decode cX7_remember 80 = .ok (.iinc 1 1, 3) := by decide +kernel
theorem dX7_remember_83 : decode cX7_remember 83 = .ok (.goto (-31), 3) := by decide +kernel
theorem dX7_remember_86 : decode cX7_remember 86 = .ok (.aload_n 0, 1) := by decide +kernel
theorem dX7_remember_87 : decode cX7_remember 87 = .ok (.dup, 1) := by decide +kernel
theorem dX7_remember_88 : decode cX7_remember 88 = .ok (.getfield 38, 3) := by decide +kernel
theorem dX7_remember_91 : decode cX7_remember 91 = .ok (.iconst 1, 1) := by decide +kernel
theorem dX7_remember_92 : decode cX7_remember 92 = .ok (.iadd, 1) := by decide +kernel
theorem dX7_remember_93 : decode cX7_remember 93 = .ok (.putfield 38, 3) := by decide +kernel
theorem dX7_remember_96 : decode cX7_remember 96 = .ok (.return_, 1) := by decide +kernel
theorem dX7_setAt_0 : decode cX7_setAt 0 = .ok (.iload_n 0, 1) := by decide +kernel
theorem dX7_setAt_1 : decode cX7_setAt 1 = .ok (.iconst 1, 1) := by decide +kernel
theorem dX7_setAt_2 : decode cX7_setAt 2 = .ok (.iadd, 1) := by decide +kernel
theorem dX7_setAt_3 : decode cX7_setAt 3 = .ok (.iconst 2, 1) := by decide +kernel
theorem dX7_setAt_4 : decode cX7_setAt 4 = .ok (.iload_n 1, 1) := by decide +kernel
theorem dX7_setAt_5 : decode cX7_setAt 5 = .ok (.imul, 1) := by decide +kernel
theorem dX7_setAt_6 : decode cX7_setAt 6 = .ok (.iadd, 1) := by decide +kernel
theorem dX7_setAt_7 : decode cX7_setAt 7 = .ok (.ireturn, 1) := by decide +kernel
theorem dX7_append_0 : decode cX7_append 0 = .ok (.aload_n 0, 1) := by decide +kernel
theorem dX7_append_1 : decode cX7_append 1 = .ok (.getfield 7, 3) := by decide +kernel
theorem dX7_append_4 : decode cX7_append 4 = .ok (.iload_n 1, 1) := by decide +kernel
theorem dX7_append_5 : decode cX7_append 5 = .ok (.aload_n 0, 1) := by decide +kernel
theorem dX7_append_6 : decode cX7_append 6 = .ok (.getfield 7, 3) := by decide +kernel
theorem dX7_append_9 : decode cX7_append 9 = .ok (.iload_n 1, 1) := by decide +kernel
theorem dX7_append_10 : decode cX7_append 10 = .ok (.iaload, 1) := by decide +kernel
theorem dX7_append_11 : decode cX7_append 11 = .ok (.invokestatic 42, 3) := by decide +kernel
theorem dX7_append_14 : decode cX7_append 14 = .ok (.iload_n 2, 1) := by decide +kernel
theorem dX7_append_15 : decode cX7_append 15 = .ok (.iastore, 1) := by decide +kernel
theorem dX7_append_16 : decode cX7_append 16 = .ok (.aload_n 0, 1) := by decide +kernel
theorem dX7_append_17 : decode cX7_append 17 = .ok (.getfield 7, 3) := by decide +kernel
theorem dX7_append_20 : decode cX7_append 20 = .ok (.iload_n 1, 1) := by decide +kernel
theorem dX7_append_21 : decode cX7_append 21 = .ok (.aload_n 0, 1) := by decide +kernel
theorem dX7_append_22 : decode cX7_append 22 = .ok (.getfield 7, 3) := by decide +kernel
theorem dX7_append_25 : decode cX7_append 25 = .ok (.iload_n 1, 1) := by decide +kernel
theorem dX7_append_26 : decode cX7_append 26 = .ok (.iaload, 1) := by decide +kernel
theorem dX7_append_27 : decode cX7_append 27 = .ok (.invokestatic 42, 3) := by decide +kernel
theorem dX7_append_30 : decode cX7_append 30 = .ok (.iconst 1, 1) := by decide +kernel
theorem dX7_append_31 : decode cX7_append 31 = .ok (.iadd, 1) := by decide +kernel
theorem dX7_append_32 : decode cX7_append 32 = .ok (.iload_n 3, 1) := by decide +kernel
theorem dX7_append_33 : decode cX7_append 33 = .ok (.iastore, 1) := by decide +kernel
theorem dX7_append_34 : decode cX7_append 34 = .ok (.aload_n 0, 1) := by decide +kernel
theorem dX7_append_35 : decode cX7_append 35 = .ok (.getfield 7, 3) := by decide +kernel
theorem dX7_append_38 : decode cX7_append 38 = .ok (.iload_n 1, 1) := by decide +kernel
theorem dX7_append_39 : decode cX7_append 39 = .ok (.dup2, 1) := by decide +kernel
theorem dX7_append_40 : decode cX7_append 40 = .ok (.iaload, 1) := by decide +kernel
theorem dX7_append_41 : decode cX7_append 41 = .ok (.iconst 1, 1) := by decide +kernel
theorem dX7_append_42 : decode cX7_append 42 = .ok (.iadd, 1) := by decide +kernel
theorem dX7_append_43 : decode cX7_append 43 = .ok (.iastore, 1) := by decide +kernel
theorem dX7_append_44 : decode cX7_append 44 = .ok (.return_, 1) := by decide +kernel
theorem dX7_drop_0 : decode cX7_drop 0 = .ok (.iload_n 1, 1) := by decide +kernel
theorem dX7_drop_1 : decode cX7_drop 1 = .ok (.iload_n 2, 1) := by decide +kernel
theorem dX7_drop_2 : decode cX7_drop 2 = .ok (.invokestatic 42, 3) := by decide +kernel
theorem dX7_drop_5 : decode cX7_drop 5 = .ok (.istore_n 3, 1) := by decide +kernel
theorem dX7_drop_6 : decode cX7_drop 6 = .ok (.iload_n 3, 1) := by decide +kernel
theorem dX7_drop_7 : decode cX7_drop 7 = .ok (.iload_n 1, 1) := by decide +kernel
theorem dX7_drop_8 : decode cX7_drop 8 = .ok (.aload_n 0, 1) := by decide +kernel
theorem dX7_drop_9 : decode cX7_drop 9 = .ok (.getfield 7, 3) := by decide +kernel
theorem dX7_drop_12 : decode cX7_drop 12 = .ok (.iload_n 1, 1) := by decide +kernel
theorem dX7_drop_13 : decode cX7_drop 13 = .ok (.iaload, 1) := by decide +kernel
theorem dX7_drop_14 : decode cX7_drop 14 = .ok (.iconst 1, 1) := by decide +kernel
theorem dX7_drop_15 : decode cX7_drop 15 = .ok (.isub, 1) := by decide +kernel
theorem dX7_drop_16 : decode cX7_drop 16 = .ok (.invokestatic 42, 3) := by decide +kernel
theorem dX7_drop_19 : decode cX7_drop 19 = .ok (.if_icmp .ge 23, 3) := by decide +kernel
theorem dX7_drop_22 : decode cX7_drop 22 = .ok (.aload_n 0, 1) := by decide +kernel
theorem dX7_drop_23 : decode cX7_drop 23 = .ok (.getfield 7, 3) := by decide +kernel
theorem dX7_drop_26 : decode cX7_drop 26 = .ok (.iload_n 3, 1) := by decide +kernel
theorem dX7_drop_27 : decode cX7_drop 27 = .ok (.aload_n 0, 1) := by decide +kernel
theorem dX7_drop_28 : decode cX7_drop 28 = .ok (.getfield 7, 3) := by decide +kernel
theorem dX7_drop_31 : decode cX7_drop 31 = .ok (.iload_n 3, 1) := by decide +kernel
theorem dX7_drop_32 : decode cX7_drop 32 = .ok (.iconst 2, 1) := by decide +kernel
theorem dX7_drop_33 : decode cX7_drop 33 = .ok (.iadd, 1) := by decide +kernel
theorem dX7_drop_34 : decode cX7_drop 34 = .ok (.iaload, 1) := by decide +kernel
theorem dX7_drop_35 : decode cX7_drop 35 = .ok (.iastore, 1) := by decide +kernel
theorem dX7_drop_36 : decode cX7_drop 36 = .ok (.iinc 3 1, 3) := by decide +kernel
theorem dX7_drop_39 : decode cX7_drop 39 = .ok (.goto (-33), 3) := by decide +kernel
theorem dX7_drop_42 : decode cX7_drop 42 = .ok (.aload_n 0, 1) := by decide +kernel
theorem dX7_drop_43 : decode cX7_drop 43 = .ok (.getfield 7, 3) := by decide +kernel
theorem dX7_drop_46 : decode cX7_drop 46 = .ok (.iload_n 1, 1) := by decide +kernel
theorem dX7_drop_47 : decode cX7_drop 47 = .ok (.dup2, 1) := by decide +kernel
theorem dX7_drop_48 : decode cX7_drop 48 = .ok (.iaload, 1) := by decide +kernel
theorem dX7_drop_49 : decode cX7_drop 49 = .ok (.iconst 1, 1) := by decide +kernel
theorem dX7_drop_50 : decode cX7_drop 50 = .ok (.isub, 1) := by decide +kernel
theorem dX7_drop_51 : decode cX7_drop 51 = .ok (.iastore, 1) := by decide +kernel
theorem dX7_drop_52 : decode cX7_drop 52 = .ok (.return_, 1) := by decide +kernel
theorem dX7_size_0 : decode cX7_size 0 = .ok (.iconst 0, 1) := by decide +kernel
theorem dX7_size_1 : decode cX7_size 1 = .ok (.istore_n 1, 1) := by decide +kernel
theorem dX7_size_2 : decode cX7_size 2 = .ok (.iconst 0, 1) := by decide +kernel
theorem dX7_size_3 : decode cX7_size 3 = .ok (.istore_n 2, 1) := by decide +kernel
theorem dX7_size_4 : decode cX7_size 4 = .ok (.iload_n 2, 1) := by decide +kernel
theorem dX7_size_5 : decode cX7_size 5 = .ok (.bipush 12, 2) := by decide +kernel
theorem dX7_size_7 : decode cX7_size 7 = .ok (.if_icmp .ge 17, 3) := by decide +kernel
theorem dX7_size_10 : decode cX7_size 10 = .ok (.iload_n 1, 1) := by decide +kernel
theorem dX7_size_11 : decode cX7_size 11 = .ok (.iload_n 0, 1) := by decide +kernel
theorem dX7_size_12 : decode cX7_size 12 = .ok (.iload_n 2, 1) := by decide +kernel
theorem dX7_size_13 : decode cX7_size 13 = .ok (.ishr, 1) := by decide +kernel
theorem dX7_size_14 : decode cX7_size 14 = .ok (.iconst 1, 1) := by decide +kernel
theorem dX7_size_15 : decode cX7_size 15 = .ok (.iand, 1) := by decide +kernel
theorem dX7_size_16 : decode cX7_size 16 = .ok (.iadd, 1) := by decide +kernel
theorem dX7_size_17 : decode cX7_size 17 = .ok (.istore_n 1, 1) := by decide +kernel
theorem dX7_size_18 : decode cX7_size 18 = .ok (.iinc 2 1, 3) := by decide +kernel
theorem dX7_size_21 : decode cX7_size 21 = .ok (.goto (-17), 3) := by decide +kernel
theorem dX7_size_24 : decode cX7_size 24 = .ok (.iload_n 1, 1) := by decide +kernel
theorem dX7_size_25 : decode cX7_size 25 = .ok (.ireturn, 1) := by decide +kernel
theorem dX7_lowest_0 : decode cX7_lowest 0 = .ok (.iconst 0, 1) := by decide +kernel
theorem dX7_lowest_1 : decode cX7_lowest 1 = .ok (.istore_n 1, 1) := by decide +kernel
theorem dX7_lowest_2 : decode cX7_lowest 2 = .ok (.iload_n 0, 1) := by decide +kernel
theorem dX7_lowest_3 : decode cX7_lowest 3 = .ok (.iload_n 1, 1) := by decide +kernel
theorem dX7_lowest_4 : decode cX7_lowest 4 = .ok (.ishr, 1) := by decide +kernel
theorem dX7_lowest_5 : decode cX7_lowest 5 = .ok (.iconst 1, 1) := by decide +kernel
theorem dX7_lowest_6 : decode cX7_lowest 6 = .ok (.iand, 1) := by decide +kernel
theorem dX7_lowest_7 : decode cX7_lowest 7 = .ok (.ifCond .ne 9, 3) := by decide +kernel
theorem dX7_lowest_10 : decode cX7_lowest 10 = .ok (.iinc 1 1, 3) := by decide +kernel
theorem dX7_lowest_13 : decode cX7_lowest 13 = .ok (.goto (-11), 3) := by decide +kernel
theorem dX7_lowest_16 : decode cX7_lowest 16 = .ok (.iload_n 1, 1) := by decide +kernel
theorem dX7_lowest_17 : decode cX7_lowest 17 = .ok (.ireturn, 1) := by decide +kernel
theorem dX7_valueOf_0 : decode cX7_valueOf 0 = .ok (.iconst 0, 1) := by decide +kernel
theorem dX7_valueOf_1 : decode cX7_valueOf 1 = .ok (.istore_n 2, 1) := by decide +kernel
theorem dX7_valueOf_2 : decode cX7_valueOf 2 = .ok (.iconst 0, 1) := by decide +kernel
theorem dX7_valueOf_3 : decode cX7_valueOf 3 = .ok (.istore_n 3, 1) := by decide +kernel
theorem dX7_valueOf_4 : decode cX7_valueOf 4 = .ok (.iload_n 3, 1) := by decide +kernel
theorem dX7_valueOf_5 : decode cX7_valueOf 5 = .ok (.aload_n 0, 1) := by decide +kernel
theorem dX7_valueOf_6 : decode cX7_valueOf 6 = .ok (.getfield 7, 3) := by decide +kernel
theorem dX7_valueOf_9 : decode cX7_valueOf 9 = .ok (.iconst 0, 1) := by decide +kernel
theorem dX7_valueOf_10 : decode cX7_valueOf 10 = .ok (.iaload, 1) := by decide +kernel
theorem dX7_valueOf_11 : decode cX7_valueOf 11 = .ok (.if_icmp .ge 34, 3) := by decide +kernel
theorem dX7_valueOf_14 : decode cX7_valueOf 14 = .ok (.iload_n 2, 1) := by decide +kernel
theorem dX7_valueOf_15 : decode cX7_valueOf 15 = .ok (.iload_n 1, 1) := by decide +kernel
theorem dX7_valueOf_16 : decode cX7_valueOf 16 = .ok (.iload_n 3, 1) := by decide +kernel
theorem dX7_valueOf_17 : decode cX7_valueOf 17 = .ok (.ishr, 1) := by decide +kernel
theorem dX7_valueOf_18 : decode cX7_valueOf 18 = .ok (.iconst 1, 1) := by decide +kernel
theorem dX7_valueOf_19 : decode cX7_valueOf 19 = .ok (.iand, 1) := by decide +kernel
theorem dX7_valueOf_20 : decode cX7_valueOf 20 = .ok (.iconst 1, 1) := by decide +kernel
theorem dX7_valueOf_21 : decode cX7_valueOf 21 = .ok (.if_icmp .ne 15, 3) := by decide +kernel
theorem dX7_valueOf_24 : decode cX7_valueOf 24 = .ok (.aload_n 0, 1) := by decide +kernel
theorem dX7_valueOf_25 : decode cX7_valueOf 25 = .ok (.getfield 7, 3) := by decide +kernel
theorem dX7_valueOf_28 : decode cX7_valueOf 28 = .ok (.bipush 17, 2) := by decide +kernel
theorem dX7_valueOf_30 : decode cX7_valueOf 30 = .ok (.iload_n 3, 1) := by decide +kernel
theorem dX7_valueOf_31 : decode cX7_valueOf 31 = .ok (.iadd, 1) := by decide +kernel
theorem dX7_valueOf_32 : decode cX7_valueOf 32 = .ok (.iaload, 1) := by decide +kernel
theorem dX7_valueOf_33 : decode cX7_valueOf 33 = .ok (.goto 4, 3) := by decide +kernel
theorem dX7_valueOf_36 : decode cX7_valueOf 36 = .ok (.iconst 0, 1) := by decide +kernel
theorem dX7_valueOf_37 : decode cX7_valueOf 37 = .ok (.ixor, 1) := by decide +kernel
theorem dX7_valueOf_38 : decode cX7_valueOf 38 = .ok (.istore_n 2, 1) := by decide +kernel
theorem dX7_valueOf_39 : decode cX7_valueOf 39 = .ok (.iinc 3 1, 3) := by decide +kernel
theorem dX7_valueOf_42 : decode cX7_valueOf 42 = .ok (.goto (-38), 3) := by decide +kernel
theorem dX7_valueOf_45 : decode cX7_valueOf 45 = .ok (.iload_n 2, 1) := by decide +kernel
theorem dX7_valueOf_46 : decode cX7_valueOf 46 = .ok (.ireturn, 1) := by decide +kernel
theorem dX7_reduce_0 : decode cX7_reduce 0 = .ok (.aload_n 0, 1) := by decide +kernel
theorem dX7_reduce_1 : decode cX7_reduce 1 = .ok (.iload_n 1, 1) := by decide +kernel
theorem dX7_reduce_2 : decode cX7_reduce 2 = .ok (.putfield 46, 3) := by decide +kernel
theorem dX7_reduce_5 : decode cX7_reduce 5 = .ok (.aload_n 0, 1) := by decide +kernel
theorem dX7_reduce_6 : decode cX7_reduce 6 = .ok (.iload_n 2, 1) := by decide +kernel
theorem dX7_reduce_7 : decode cX7_reduce 7 = .ok (.putfield 49, 3) := by decide +kernel
theorem dX7_reduce_10 : decode cX7_reduce 10 = .ok (.bipush 11, 2) := by decide +kernel
theorem dX7_reduce_12 : decode cX7_reduce 12 = .ok (.istore_n 3, 1) := by decide +kernel
theorem dX7_reduce_13 : decode cX7_reduce 13 = .ok (.iload_n 3, 1) := by decide +kernel
theorem dX7_reduce_14 : decode cX7_reduce 14 = .ok (.ifCond .lt 60, 3) := by decide +kernel
theorem dX7_reduce_17 : decode cX7_reduce 17 = .ok (.aload_n 0, 1) := by decide +kernel
theorem dX7_reduce_18 : decode cX7_reduce 18 = .ok (.getfield 46, 3) := by decide +kernel
theorem dX7_reduce_21 : decode cX7_reduce 21 = .ok (.iload_n 3, 1) := by decide +kernel
theorem dX7_reduce_22 : decode cX7_reduce 22 = .ok (.ishr, 1) := by decide +kernel
theorem dX7_reduce_23 : decode cX7_reduce 23 = .ok (.iconst 1, 1) := by decide +kernel
theorem dX7_reduce_24 : decode cX7_reduce 24 = .ok (.iand, 1) := by decide +kernel
theorem dX7_reduce_25 : decode cX7_reduce 25 = .ok (.iconst 1, 1) := by decide +kernel
theorem dX7_reduce_26 : decode cX7_reduce 26 = .ok (.if_icmp .ne 42, 3) := by decide +kernel
theorem dX7_reduce_29 : decode cX7_reduce 29 = .ok (.aload_n 0, 1) := by decide +kernel
theorem dX7_reduce_30 : decode cX7_reduce 30 = .ok (.getfield 19, 3) := by decide +kernel
theorem dX7_reduce_33 : decode cX7_reduce 33 = .ok (.iload_n 3, 1) := by decide +kernel
theorem dX7_reduce_34 : decode cX7_reduce 34 = .ok (.iaload, 1) := by decide +kernel
theorem dX7_reduce_35 : decode cX7_reduce 35 = .ok (.ifCond .eq 33, 3) := by decide +kernel
theorem dX7_reduce_38 : decode cX7_reduce 38 = .ok (.aload_n 0, 1) := by decide +kernel
theorem dX7_reduce_39 : decode cX7_reduce 39 = .ok (.dup, 1) := by decide +kernel
theorem dX7_reduce_40 : decode cX7_reduce 40 = .ok (.getfield 46, 3) := by decide +kernel
theorem dX7_reduce_43 : decode cX7_reduce 43 = .ok (.aload_n 0, 1) := by decide +kernel
theorem dX7_reduce_44 : decode cX7_reduce 44 = .ok (.getfield 19, 3) := by decide +kernel
theorem dX7_reduce_47 : decode cX7_reduce 47 = .ok (.iload_n 3, 1) := by decide +kernel
theorem dX7_reduce_48 : decode cX7_reduce 48 = .ok (.iaload, 1) := by decide +kernel
theorem dX7_reduce_49 : decode cX7_reduce 49 = .ok (.ixor, 1) := by decide +kernel
theorem dX7_reduce_50 : decode cX7_reduce 50 = .ok (.putfield 46, 3) := by decide +kernel
theorem dX7_reduce_53 : decode cX7_reduce 53 = .ok (.aload_n 0, 1) := by decide +kernel
theorem dX7_reduce_54 : decode cX7_reduce 54 = .ok (.dup, 1) := by decide +kernel
theorem dX7_reduce_55 : decode cX7_reduce 55 = .ok (.getfield 49, 3) := by decide +kernel
theorem dX7_reduce_58 : decode cX7_reduce 58 = .ok (.aload_n 0, 1) := by decide +kernel
theorem dX7_reduce_59 : decode cX7_reduce 59 = .ok (.getfield 22, 3) := by decide +kernel
theorem dX7_reduce_62 : decode cX7_reduce 62 = .ok (.iload_n 3, 1) := by decide +kernel
theorem dX7_reduce_63 : decode cX7_reduce 63 = .ok (.iaload, 1) := by decide +kernel
theorem dX7_reduce_64 : decode cX7_reduce 64 = .ok (.ixor, 1) := by decide +kernel
theorem dX7_reduce_65 : decode cX7_reduce 65 = .ok (.putfield 49, 3) := by decide +kernel
theorem dX7_reduce_68 : decode cX7_reduce 68 = .ok (.iinc 3 (-1), 3) := by decide +kernel
theorem dX7_reduce_71 : decode cX7_reduce 71 = .ok (.goto (-58), 3) := by decide +kernel
theorem dX7_reduce_74 : decode cX7_reduce 74 = .ok (.return_, 1) := by decide +kernel
theorem dX7_highest_0 : decode cX7_highest 0 = .ok (.bipush 11, 2) := by decide +kernel
theorem dX7_highest_2 : decode cX7_highest 2 = .ok (.istore_n 2, 1) := by decide +kernel
theorem dX7_highest_3 : decode cX7_highest 3 = .ok (.iload_n 1, 1) := by decide +kernel
theorem dX7_highest_4 : decode cX7_highest 4 = .ok (.iload_n 2, 1) := by decide +kernel
theorem dX7_highest_5 : decode cX7_highest 5 = .ok (.ishr, 1) := by decide +kernel
theorem dX7_highest_6 : decode cX7_highest 6 = .ok (.iconst 1, 1) := by decide +kernel
theorem dX7_highest_7 : decode cX7_highest 7 = .ok (.iand, 1) := by decide +kernel
theorem dX7_highest_8 : decode cX7_highest 8 = .ok (.ifCond .ne 9, 3) := by decide +kernel
theorem dX7_highest_11 : decode cX7_highest 11 = .ok (.iinc 2 (-1), 3) := by decide +kernel
theorem dX7_highest_14 : decode cX7_highest 14 = .ok (.goto (-11), 3) := by decide +kernel
theorem dX7_highest_17 : decode cX7_highest 17 = .ok (.iload_n 2, 1) := by decide +kernel
theorem dX7_highest_18 : decode cX7_highest 18 = .ok (.ireturn, 1) := by decide +kernel
theorem dX7_layBase_0 : decode cX7_layBase 0 = .ok (.iconst 0, 1) := by decide +kernel
theorem dX7_layBase_1 : decode cX7_layBase 1 = .ok (.istore_n 2, 1) := by decide +kernel
theorem dX7_layBase_2 : decode cX7_layBase 2 = .ok (.iload_n 2, 1) := by decide +kernel
theorem dX7_layBase_3 : decode cX7_layBase 3 = .ok (.bipush 12, 2) := by decide +kernel
theorem dX7_layBase_5 : decode cX7_layBase 5 = .ok (.if_icmp .ge 16, 3) := by decide +kernel
theorem dX7_layBase_8 : decode cX7_layBase 8 = .ok (.aload_n 0, 1) := by decide +kernel
theorem dX7_layBase_9 : decode cX7_layBase 9 = .ok (.getfield 19, 3) := by decide +kernel
theorem dX7_layBase_12 : decode cX7_layBase 12 = .ok (.iload_n 2, 1) := by decide +kernel
theorem dX7_layBase_13 : decode cX7_layBase 13 = .ok (.iconst 0, 1) := by decide +kernel
theorem dX7_layBase_14 : decode cX7_layBase 14 = .ok (.iastore, 1) := by decide +kernel
theorem dX7_layBase_15 : decode cX7_layBase 15 = .ok (.iinc 2 1, 3) := by decide +kernel
theorem dX7_layBase_18 : decode cX7_layBase 18 = .ok (.goto (-16), 3) := by decide +kernel
theorem dX7_layBase_21 : decode cX7_layBase 21 = .ok (.iconst 0, 1) := by decide +kernel
theorem dX7_layBase_22 : decode cX7_layBase 22 = .ok (.istore_n 2, 1) := by decide +kernel
theorem dX7_layBase_23 : decode cX7_layBase 23 = .ok (.iconst 0, 1) := by decide +kernel
theorem dX7_layBase_24 : decode cX7_layBase 24 = .ok (.istore_n 3, 1) := by decide +kernel
theorem dX7_layBase_25 : decode cX7_layBase 25 = .ok (.iload_n 3, 1) := by decide +kernel
theorem dX7_layBase_26 : decode cX7_layBase 26 = .ok (.aload_n 0, 1) := by decide +kernel
theorem dX7_layBase_27 : decode cX7_layBase 27 = .ok (.getfield 7, 3) := by decide +kernel
theorem dX7_layBase_30 : decode cX7_layBase 30 = .ok (.iload_n 1, 1) := by decide +kernel
theorem dX7_layBase_31 : decode cX7_layBase 31 = .ok (.iaload, 1) := by decide +kernel
theorem dX7_layBase_32 : decode cX7_layBase 32 = .ok (.if_icmp .ge 79, 3) := by decide +kernel
theorem dX7_layBase_35 : decode cX7_layBase 35 = .ok (.aload_n 0, 1) := by decide +kernel
theorem dX7_layBase_36 : decode cX7_layBase 36 = .ok (.aload_n 0, 1) := by decide +kernel
theorem dX7_layBase_37 : decode cX7_layBase 37 = .ok (.getfield 7, 3) := by decide +kernel
theorem dX7_layBase_40 : decode cX7_layBase 40 = .ok (.iload_n 1, 1) := by decide +kernel
theorem dX7_layBase_41 : decode cX7_layBase 41 = .ok (.iload_n 3, 1) := by decide +kernel
theorem dX7_layBase_42 : decode cX7_layBase 42 = .ok (.invokestatic 42, 3) := by decide +kernel
theorem dX7_layBase_45 : decode cX7_layBase 45 = .ok (.iaload, 1) := by decide +kernel
theorem dX7_layBase_46 : decode cX7_layBase 46 = .ok (.aload_n 0, 1) := by decide +kernel
theorem dX7_layBase_47 : decode cX7_layBase 47 = .ok (.getfield 7, 3) := by decide +kernel
theorem dX7_layBase_50 : decode cX7_layBase 50 = .ok (.iload_n 1, 1) := by decide +kernel
theorem dX7_layBase_51 : decode cX7_layBase 51 = .ok (.iload_n 3, 1) := by decide +kernel
theorem dX7_layBase_52 : decode cX7_layBase 52 = .ok (.invokestatic 42, 3) := by decide +kernel
theorem dX7_layBase_55 : decode cX7_layBase 55 = .ok (.iconst 1, 1) := by decide +kernel
theorem dX7_layBase_56 : decode cX7_layBase 56 = .ok (.iadd, 1) := by decide +kernel
theorem dX7_layBase_57 : decode cX7_layBase 57 = .ok (.iaload, 1) := by decide +kernel
theorem dX7_layBase_58 : decode cX7_layBase 58 = .ok (.invokevirtual 52, 3) := by decide +kernel
theorem dX7_layBase_61 : decode cX7_layBase 61 = .ok (.aload_n 0, 1) := by decide +kernel
theorem dX7_layBase_62 : decode cX7_layBase 62 = .ok (.getfield 46, 3) := by decide +kernel
theorem dX7_layBase_65 : decode cX7_layBase 65 = .ok (.ifCond .eq 40, 3) := by decide +kernel
theorem dX7_layBase_68 : decode cX7_layBase 68 = .ok (.aload_n 0, 1) := by decide +kernel
theorem dX7_layBase_69 : decode cX7_layBase 69 = .ok (.getfield 19, 3) := by decide +kernel
theorem dX7_layBase_72 : decode cX7_layBase 72 = .ok (.aload_n 0, 1) := by decide +kernel
theorem dX7_layBase_73 : decode cX7_layBase 73 = .ok (.aload_n 0, 1) := by decide +kernel
theorem dX7_layBase_74 : decode cX7_layBase 74 = .ok (.getfield 46, 3) := by decide +kernel
theorem dX7_layBase_77 : decode cX7_layBase 77 = .ok (.invokevirtual 55, 3) := by decide +kernel
theorem dX7_layBase_80 : decode cX7_layBase 80 = .ok (.aload_n 0, 1) := by decide +kernel
theorem dX7_layBase_81 : decode cX7_layBase 81 = .ok (.getfield 46, 3) := by decide +kernel
theorem dX7_layBase_84 : decode cX7_layBase 84 = .ok (.iastore, 1) := by decide +kernel
theorem dX7_layBase_85 : decode cX7_layBase 85 = .ok (.aload_n 0, 1) := by decide +kernel
theorem dX7_layBase_86 : decode cX7_layBase 86 = .ok (.getfield 22, 3) := by decide +kernel
theorem dX7_layBase_89 : decode cX7_layBase 89 = .ok (.aload_n 0, 1) := by decide +kernel
theorem dX7_layBase_90 : decode cX7_layBase 90 = .ok (.aload_n 0, 1) := by decide +kernel
theorem dX7_layBase_91 : decode cX7_layBase 91 = .ok (.getfield 46, 3) := by decide +kernel
theorem dX7_layBase_94 : decode cX7_layBase 94 = .ok (.invokevirtual 55, 3) := by decide +kernel
theorem dX7_layBase_97 : decode cX7_layBase 97 = .ok (.aload_n 0, 1) := by decide +kernel
theorem dX7_layBase_98 : decode cX7_layBase 98 = .ok (.getfield 49, 3) := by decide +kernel
theorem dX7_layBase_101 : decode cX7_layBase 101 = .ok (.iastore, 1) := by decide +kernel
theorem dX7_layBase_102 : decode cX7_layBase 102 = .ok (.iinc 2 1, 3) := by decide +kernel
theorem dX7_layBase_105 : decode cX7_layBase 105 = .ok (.iinc 3 1, 3) := by decide +kernel
theorem dX7_layBase_108 : decode cX7_layBase 108 = .ok (.goto (-83), 3) := by decide +kernel
theorem dX7_layBase_111 : decode cX7_layBase 111 = .ok (.iload_n 2, 1) := by decide +kernel
theorem dX7_layBase_112 : decode cX7_layBase 112 = .ok (.ireturn, 1) := by decide +kernel
theorem dX7_isNovel_0 : decode cX7_isNovel 0 = .ok (.aload_n 0, 1) := by decide +kernel
theorem dX7_isNovel_1 : decode cX7_isNovel 1 = .ok (.iload_n 1, 1) := by decide +kernel
theorem dX7_isNovel_2 : decode cX7_isNovel 2 = .ok (.invokevirtual 59, 3) := by decide +kernel
theorem dX7_isNovel_5 : decode cX7_isNovel 5 = .ok (.istore_n 3, 1) := by decide +kernel
theorem dX7_isNovel_6 : decode cX7_isNovel 6 = .ok (.aload_n 0, 1) := by decide +kernel
theorem dX7_isNovel_7 : decode cX7_isNovel 7 = .ok (.iload_n 2, 1) := by decide +kernel
theorem dX7_isNovel_8 : decode cX7_isNovel 8 = .ok (.iconst 0, 1) := by decide +kernel
theorem dX7_isNovel_9 : decode cX7_isNovel 9 = .ok (.invokevirtual 52, 3) := by decide +kernel
theorem dX7_isNovel_12 : decode cX7_isNovel 12 = .ok (.aload_n 0, 1) := by decide +kernel
theorem dX7_isNovel_13 : decode cX7_isNovel 13 = .ok (.getfield 46, 3) := by decide +kernel
theorem dX7_isNovel_16 : decode cX7_isNovel 16 = .ok (.ifCond .eq 7, 3) := by decide +kernel
theorem dX7_isNovel_19 : decode cX7_isNovel 19 = .ok (.iconst 1, 1) := by decide +kernel
theorem dX7_isNovel_20 : decode cX7_isNovel 20 = .ok (.goto 4, 3) := by decide +kernel
theorem dX7_isNovel_23 : decode cX7_isNovel 23 = .ok (.iconst 0, 1) := by decide +kernel
theorem dX7_isNovel_24 : decode cX7_isNovel 24 = .ok (.ireturn, 1) := by decide +kernel
theorem dX7_draw_0 : decode cX7_draw 0 = .ok (.ldc2_w 62, 3) := by decide +kernel
theorem dX7_draw_3 : decode cX7_draw 3 = .ok (.aload_n 0, 1) := by decide +kernel
theorem dX7_draw_4 : decode cX7_draw 4 = .ok (.getfield 7, 3) := by decide +kernel
theorem dX7_draw_7 : decode cX7_draw 7 = .ok (.bipush 6, 2) := by decide +kernel
theorem dX7_draw_9 : decode cX7_draw 9 = .ok (.iaload, 1) := by decide +kernel
theorem dX7_draw_10 : decode cX7_draw 10 = .ok (.i2l, 1) := by decide +kernel
theorem dX7_draw_11 : decode cX7_draw 11 = .ok (.lmul, 1) := by decide +kernel
theorem dX7_draw_12 : decode cX7_draw 12 = .ok (.ldc2_w 64, 3) := by decide +kernel
theorem dX7_draw_15 : decode cX7_draw 15 = .ok (.ladd, 1) := by decide +kernel
theorem dX7_draw_16 : decode cX7_draw 16 = .ok (.ldc2_w 66, 3) := by decide +kernel
theorem dX7_draw_19 : decode cX7_draw 19 = .ok (.lrem, 1) := by decide +kernel
theorem dX7_draw_20 : decode cX7_draw 20 = .ok (.lstore_n 2, 1) := by decide +kernel
theorem dX7_draw_21 : decode cX7_draw 21 = .ok (.aload_n 0, 1) := by decide +kernel
theorem dX7_draw_22 : decode cX7_draw 22 = .ok (.getfield 7, 3) := by decide +kernel
theorem dX7_draw_25 : decode cX7_draw 25 = .ok (.bipush 6, 2) := by decide +kernel
theorem dX7_draw_27 : decode cX7_draw 27 = .ok (.lload_n 2, 1) := by decide +kernel
theorem dX7_draw_28 : decode cX7_draw 28 = .ok (.l2i, 1) := by decide +kernel
theorem dX7_draw_29 : decode cX7_draw 29 = .ok (.iastore, 1) := by decide +kernel
theorem dX7_draw_30 : decode cX7_draw 30 = .ok (.aload_n 0, 1) := by decide +kernel
theorem dX7_draw_31 : decode cX7_draw 31 = .ok (.getfield 7, 3) := by decide +kernel
theorem dX7_draw_34 : decode cX7_draw 34 = .ok (.bipush 6, 2) := by decide +kernel
theorem dX7_draw_36 : decode cX7_draw 36 = .ok (.iaload, 1) := by decide +kernel
theorem dX7_draw_37 : decode cX7_draw 37 = .ok (.ldc 68, 2) := by decide +kernel
theorem dX7_draw_39 : decode cX7_draw 39 = .ok (.idiv, 1) := by decide +kernel
theorem dX7_draw_40 : decode cX7_draw 40 = .ok (.iload_n 1, 1) := by decide +kernel
theorem dX7_draw_41 : decode cX7_draw 41 = .ok (.irem, 1) := by decide +kernel
theorem dX7_draw_42 : decode cX7_draw 42 = .ok (.ireturn, 1) := by decide +kernel
theorem dX7_weights_0 : decode cX7_weights 0 = .ok (.iconst 0, 1) := by decide +kernel
theorem dX7_weights_1 : decode cX7_weights 1 = .ok (.istore_n 1, 1) := by decide +kernel
theorem dX7_weights_2 : decode cX7_weights 2 = .ok (.iconst 0, 1) := by decide +kernel
theorem dX7_weights_3 : decode cX7_weights 3 = .ok (.istore_n 2, 1) := by decide +kernel
theorem dX7_weights_4 : decode cX7_weights 4 = .ok (.iload_n 2, 1) := by decide +kernel
theorem dX7_weights_5 : decode cX7_weights 5 = .ok (.bipush 6, 2) := by decide +kernel
theorem dX7_weights_7 : decode cX7_weights 7 = .ok (.if_icmp .ge 21, 3) := by decide +kernel
theorem dX7_weights_10 : decode cX7_weights 10 = .ok (.iload_n 1, 1) := by decide +kernel
theorem dX7_weights_11 : decode cX7_weights 11 = .ok (.aload_n 0, 1) := by decide +kernel
theorem dX7_weights_12 : decode cX7_weights 12 = .ok (.getfield 7, 3) := by decide +kernel
theorem dX7_weights_15 : decode cX7_weights 15 = .ok (.bipush 11, 2) := by decide +kernel
theorem dX7_weights_17 : decode cX7_weights 17 = .ok (.iload_n 2, 1) := by decide +kernel
theorem dX7_weights_18 : decode cX7_weights 18 = .ok (.iadd, 1) := by decide +kernel
theorem dX7_weights_19 : decode cX7_weights 19 = .ok (.iaload, 1) := by decide +kernel
theorem dX7_weights_20 : decode cX7_weights 20 = .ok (.iadd, 1) := by decide +kernel
theorem dX7_weights_21 : decode cX7_weights 21 = .ok (.istore_n 1, 1) := by decide +kernel
theorem dX7_weights_22 : decode cX7_weights 22 = .ok (.iinc 2 1, 3) := by decide +kernel
theorem dX7_weights_25 : decode cX7_weights 25 = .ok (.goto (-21), 3) := by decide +kernel
theorem dX7_weights_28 : decode cX7_weights 28 = .ok (.iload_n 1, 1) := by decide +kernel
theorem dX7_weights_29 : decode cX7_weights 29 = .ok (.ireturn, 1) := by decide +kernel
theorem dX7_makeAtSource_0 : decode cX7_makeAtSource 0 = .ok (.aload_n 0, 1) := by decide +kernel
theorem dX7_makeAtSource_1 : decode cX7_makeAtSource 1 = .ok (.aload_n 0, 1) := by decide +kernel
theorem dX7_makeAtSource_2 : decode cX7_makeAtSource 2 = .ok (.invokevirtual 69, 3) := by decide +kernel
theorem dX7_makeAtSource_5 : decode cX7_makeAtSource 5 = .ok (.invokevirtual 73, 3) := by decide +kernel
theorem dX7_makeAtSource_8 : decode cX7_makeAtSource 8 = .ok (.istore_n 1, 1) := by decide +kernel
theorem dX7_makeAtSource_9 : decode cX7_makeAtSource 9 = .ok (.iconst 1, 1) := by decide +kernel
theorem dX7_makeAtSource_10 : decode cX7_makeAtSource 10 = .ok (.istore_n 2, 1) := by decide +kernel
theorem dX7_makeAtSource_11 : decode cX7_makeAtSource 11 = .ok (.iload_n 1, 1) := by decide +kernel
theorem dX7_makeAtSource_12 : decode cX7_makeAtSource 12 = .ok (.aload_n 0, 1) := by decide +kernel
theorem dX7_makeAtSource_13 : decode cX7_makeAtSource 13 = .ok (.getfield 7, 3) := by decide +kernel
theorem dX7_makeAtSource_16 : decode cX7_makeAtSource 16 = .ok (.bipush 11, 2) := by decide +kernel
theorem dX7_makeAtSource_18 : decode cX7_makeAtSource 18 = .ok (.iload_n 2, 1) := by decide +kernel
theorem dX7_makeAtSource_19 : decode cX7_makeAtSource 19 = .ok (.iadd, 1) := by decide +kernel
theorem dX7_makeAtSource_20 : decode cX7_makeAtSource 20 = .ok (.iconst 1, 1) := by decide +kernel
theorem dX7_makeAtSource_21 : decode cX7_makeAtSource 21 = .ok (.isub, 1) := by decide +kernel
theorem dX7_makeAtSource_22 : decode cX7_makeAtSource 22 = .ok (.iaload, 1) := by decide +kernel
theorem dX7_makeAtSource_23 : decode cX7_makeAtSource 23 = .ok (.if_icmp .lt 23, 3) := by decide +kernel
theorem dX7_makeAtSource_26 : decode cX7_makeAtSource 26 = .ok (.iload_n 1, 1) := by decide +kernel
theorem dX7_makeAtSource_27 : decode cX7_makeAtSource 27 = .ok (.aload_n 0, 1) := by decide +kernel
theorem dX7_makeAtSource_28 : decode cX7_makeAtSource 28 = .ok (.getfield 7, 3) := by decide +kernel
theorem dX7_makeAtSource_31 : decode cX7_makeAtSource 31 = .ok (.bipush 11, 2) := by decide +kernel
theorem dX7_makeAtSource_33 : decode cX7_makeAtSource 33 = .ok (.iload_n 2, 1) := by decide +kernel
theorem dX7_makeAtSource_34 : decode cX7_makeAtSource 34 = .ok (.iadd, 1) := by decide +kernel
theorem dX7_makeAtSource_35 : decode cX7_makeAtSource 35 = .ok (.iconst 1, 1) := by decide +kernel
theorem dX7_makeAtSource_36 : decode cX7_makeAtSource 36 = .ok (.isub, 1) := by decide +kernel
theorem dX7_makeAtSource_37 : decode cX7_makeAtSource 37 = .ok (.iaload, 1) := by decide +kernel
theorem dX7_makeAtSource_38 : decode cX7_makeAtSource 38 = .ok (.isub, 1) := by decide +kernel
theorem dX7_makeAtSource_39 : decode cX7_makeAtSource 39 = .ok (.istore_n 1, 1) := by decide +kernel
theorem dX7_makeAtSource_40 : decode cX7_makeAtSource 40 = .ok (.iinc 2 1, 3) := by decide +kernel
theorem dX7_makeAtSource_43 : decode cX7_makeAtSource 43 = .ok (.goto (-32), 3) := by decide +kernel
theorem dX7_makeAtSource_46 : decode cX7_makeAtSource 46 = .ok (.iload_n 2, 1) := by decide +kernel
theorem dX7_makeAtSource_47 : decode cX7_makeAtSource 47 = .ok (.aload_n 0, 1) := by decide +kernel
theorem dX7_makeAtSource_48 : decode cX7_makeAtSource 48 = .ok (.getfield 7, 3) := by decide +kernel
theorem dX7_makeAtSource_51 : decode cX7_makeAtSource 51 = .ok (.iconst 0, 1) := by decide +kernel
theorem dX7_makeAtSource_52 : decode cX7_makeAtSource 52 = .ok (.iaload, 1) := by decide +kernel
theorem dX7_makeAtSource_53 : decode cX7_makeAtSource 53 = .ok (.if_icmp .le 12, 3) := by decide +kernel
theorem dX7_makeAtSource_56 : decode cX7_makeAtSource 56 = .ok (.aload_n 0, 1) := by decide +kernel
theorem dX7_makeAtSource_57 : decode cX7_makeAtSource 57 = .ok (.getfield 7, 3) := by decide +kernel
theorem dX7_makeAtSource_60 : decode cX7_makeAtSource 60 = .ok (.iconst 0, 1) := by decide +kernel
theorem dX7_makeAtSource_61 : decode cX7_makeAtSource 61 = .ok (.iaload, 1) := by decide +kernel
theorem dX7_makeAtSource_62 : decode cX7_makeAtSource 62 = .ok (.goto 4, 3) := by decide +kernel
theorem dX7_makeAtSource_65 : decode cX7_makeAtSource 65 = .ok (.iload_n 2, 1) := by decide +kernel
theorem dX7_makeAtSource_66 : decode cX7_makeAtSource 66 = .ok (.istore_n 2, 1) := by decide +kernel
theorem dX7_makeAtSource_67 : decode cX7_makeAtSource 67 = .ok (.aload_n 0, 1) := by decide +kernel
theorem dX7_makeAtSource_68 : decode cX7_makeAtSource 68 = .ok (.iconst 0, 1) := by decide +kernel
theorem dX7_makeAtSource_69 : decode cX7_makeAtSource 69 = .ok (.putfield 76, 3) := by decide +kernel
theorem dX7_makeAtSource_72 : decode cX7_makeAtSource 72 = .ok (.iconst 0, 1) := by decide +kernel
theorem dX7_makeAtSource_73 : decode cX7_makeAtSource 73 = .ok (.istore_n 3, 1) := by decide +kernel
theorem dX7_makeAtSource_74 : decode cX7_makeAtSource 74 = .ok (.iload_n 3, 1) := by decide +kernel
theorem dX7_makeAtSource_75 : decode cX7_makeAtSource 75 = .ok (.aload_n 0, 1) := by decide +kernel
theorem dX7_makeAtSource_76 : decode cX7_makeAtSource 76 = .ok (.getfield 7, 3) := by decide +kernel
theorem dX7_makeAtSource_79 : decode cX7_makeAtSource 79 = .ok (.iconst 0, 1) := by decide +kernel
theorem dX7_makeAtSource_80 : decode cX7_makeAtSource 80 = .ok (.iaload, 1) := by decide +kernel
theorem dX7_makeAtSource_81 : decode cX7_makeAtSource 81 = .ok (.if_icmp .ge 40, 3) := by decide +kernel
theorem dX7_makeAtSource_84 : decode cX7_makeAtSource 84 = .ok (.aload_n 0, 1) := by decide +kernel
theorem dX7_makeAtSource_85 : decode cX7_makeAtSource 85 = .ok (.aload_n 0, 1) := by decide +kernel
theorem dX7_makeAtSource_86 : decode cX7_makeAtSource 86 = .ok (.getfield 7, 3) := by decide +kernel
theorem dX7_makeAtSource_89 : decode cX7_makeAtSource 89 = .ok (.iconst 0, 1) := by decide +kernel
theorem dX7_makeAtSource_90 : decode cX7_makeAtSource 90 = .ok (.iaload, 1) := by decide +kernel
theorem dX7_makeAtSource_91 : decode cX7_makeAtSource 91 = .ok (.iload_n 3, 1) := by decide +kernel
theorem dX7_makeAtSource_92 : decode cX7_makeAtSource 92 = .ok (.isub, 1) := by decide +kernel
theorem dX7_makeAtSource_93 : decode cX7_makeAtSource 93 = .ok (.invokevirtual 73, 3) := by decide +kernel
theorem dX7_makeAtSource_96 : decode cX7_makeAtSource 96 = .ok (.iload_n 2, 1) := by decide +kernel
theorem dX7_makeAtSource_97 : decode cX7_makeAtSource 97 = .ok (.if_icmp .ge 18, 3) := by decide +kernel
theorem dX7_makeAtSource_100 : decode cX7_makeAtSource 100 = .ok (.aload_n 0, 1) := by decide +kernel
theorem dX7_makeAtSource_101 : decode cX7_makeAtSource 101 = .ok (.dup, 1) := by decide +kernel
theorem dX7_makeAtSource_102 : decode cX7_makeAtSource 102 = .ok (.getfield 76, 3) := by decide +kernel
theorem dX7_makeAtSource_105 : decode cX7_makeAtSource 105 = .ok (.iconst 1, 1) := by decide +kernel
theorem dX7_makeAtSource_106 : decode cX7_makeAtSource 106 = .ok (.iload_n 3, 1) := by decide +kernel
theorem dX7_makeAtSource_107 : decode cX7_makeAtSource 107 = .ok (.ishl, 1) := by decide +kernel
theorem dX7_makeAtSource_108 : decode cX7_makeAtSource 108 = .ok (.ior, 1) := by decide +kernel
theorem dX7_makeAtSource_109 : decode cX7_makeAtSource 109 = .ok (.putfield 76, 3) := by decide +kernel
theorem dX7_makeAtSource_112 : decode cX7_makeAtSource 112 = .ok (.iinc 2 (-1), 3) := by decide +kernel
theorem dX7_makeAtSource_115 : decode cX7_makeAtSource 115 = .ok (.iinc 3 1, 3) := by decide +kernel
theorem dX7_makeAtSource_118 : decode cX7_makeAtSource 118 = .ok (.goto (-44), 3) := by decide +kernel
theorem dX7_makeAtSource_121 : decode cX7_makeAtSource 121 = .ok (.aload_n 0, 1) := by decide +kernel
theorem dX7_makeAtSource_122 : decode cX7_makeAtSource 122 = .ok (.aload_n 0, 1) := by decide +kernel
theorem dX7_makeAtSource_123 : decode cX7_makeAtSource 123 = .ok (.aload_n 0, 1) := by decide +kernel
theorem dX7_makeAtSource_124 : decode cX7_makeAtSource 124 = .ok (.getfield 76, 3) := by decide +kernel
theorem dX7_makeAtSource_127 : decode cX7_makeAtSource 127 = .ok (.invokevirtual 79, 3) := by decide +kernel
theorem dX7_makeAtSource_130 : decode cX7_makeAtSource 130 = .ok (.putfield 82, 3) := by decide +kernel
theorem dX7_makeAtSource_133 : decode cX7_makeAtSource 133 = .ok (.aload_n 0, 1) := by decide +kernel
theorem dX7_makeAtSource_134 : decode cX7_makeAtSource 134 = .ok (.getfield 7, 3) := by decide +kernel
theorem dX7_makeAtSource_137 : decode cX7_makeAtSource 137 = .ok (.bipush 29, 2) := by decide +kernel
theorem dX7_makeAtSource_139 : decode cX7_makeAtSource 139 = .ok (.dup2, 1) := by decide +kernel
theorem dX7_makeAtSource_140 : decode cX7_makeAtSource 140 = .ok (.iaload, 1) := by decide +kernel
theorem dX7_makeAtSource_141 : decode cX7_makeAtSource 141 = .ok (.iconst 1, 1) := by decide +kernel
theorem dX7_makeAtSource_142 : decode cX7_makeAtSource 142 = .ok (.iadd, 1) := by decide +kernel
theorem dX7_makeAtSource_143 : decode cX7_makeAtSource 143 = .ok (.iastore, 1) := by decide +kernel
theorem dX7_makeAtSource_144 : decode cX7_makeAtSource 144 = .ok (.return_, 1) := by decide +kernel
theorem dX7_makeAtRelay_0 : decode cX7_makeAtRelay 0 = .ok (.aload_n 0, 1) := by decide +kernel
theorem dX7_makeAtRelay_1 : decode cX7_makeAtRelay 1 = .ok (.iconst 0, 1) := by decide +kernel
theorem dX7_makeAtRelay_2 : decode cX7_makeAtRelay 2 = .ok (.putfield 76, 3) := by decide +kernel
theorem dX7_makeAtRelay_5 : decode cX7_makeAtRelay 5 = .ok (.aload_n 0, 1) := by decide +kernel
theorem dX7_makeAtRelay_6 : decode cX7_makeAtRelay 6 = .ok (.iconst 0, 1) := by decide +kernel
theorem dX7_makeAtRelay_7 : decode cX7_makeAtRelay 7 = .ok (.putfield 82, 3) := by decide +kernel
theorem dX7_makeAtRelay_10 : decode cX7_makeAtRelay 10 = .ok (.aload_n 0, 1) := by decide +kernel
theorem dX7_makeAtRelay_11 : decode cX7_makeAtRelay 11 = .ok (.getfield 7, 3) := by decide +kernel
theorem dX7_makeAtRelay_14 : decode cX7_makeAtRelay 14 = .ok (.iload_n 1, 1) := by decide +kernel
theorem dX7_makeAtRelay_15 : decode cX7_makeAtRelay 15 = .ok (.iaload, 1) := by decide +kernel
theorem dX7_makeAtRelay_16 : decode cX7_makeAtRelay 16 = .ok (.ifCond .ne 4, 3) := by decide +kernel
theorem dX7_makeAtRelay_19 : decode cX7_makeAtRelay 19 = .ok (.return_, 1) := by decide +kernel
theorem dX7_makeAtRelay_20 : decode cX7_makeAtRelay 20 = .ok (.aload_n 0, 1) := by decide +kernel
theorem dX7_makeAtRelay_21 : decode cX7_makeAtRelay 21 = .ok (.getfield 7, 3) := by decide +kernel
theorem dX7_makeAtRelay_24 : decode cX7_makeAtRelay 24 = .ok (.iload_n 1, 1) := by decide +kernel
theorem dX7_makeAtRelay_25 : decode cX7_makeAtRelay 25 = .ok (.iconst 0, 1) := by decide +kernel
theorem dX7_makeAtRelay_26 : decode cX7_makeAtRelay 26 = .ok (.invokestatic 42, 3) := by decide +kernel
theorem dX7_makeAtRelay_29 : decode cX7_makeAtRelay 29 = .ok (.iaload, 1) := by decide +kernel
theorem dX7_makeAtRelay_30 : decode cX7_makeAtRelay 30 = .ok (.istore_n 2, 1) := by decide +kernel
theorem dX7_makeAtRelay_31 : decode cX7_makeAtRelay 31 = .ok (.aload_n 0, 1) := by decide +kernel
theorem dX7_makeAtRelay_32 : decode cX7_makeAtRelay 32 = .ok (.getfield 7, 3) := by decide +kernel
theorem dX7_makeAtRelay_35 : decode cX7_makeAtRelay 35 = .ok (.iload_n 1, 1) := by decide +kernel
theorem dX7_makeAtRelay_36 : decode cX7_makeAtRelay 36 = .ok (.iconst 0, 1) := by decide +kernel
theorem dX7_makeAtRelay_37 : decode cX7_makeAtRelay 37 = .ok (.invokestatic 42, 3) := by decide +kernel
theorem dX7_makeAtRelay_40 : decode cX7_makeAtRelay 40 = .ok (.iconst 1, 1) := by decide +kernel
theorem dX7_makeAtRelay_41 : decode cX7_makeAtRelay 41 = .ok (.iadd, 1) := by decide +kernel
theorem dX7_makeAtRelay_42 : decode cX7_makeAtRelay 42 = .ok (.iaload, 1) := by decide +kernel
theorem dX7_makeAtRelay_43 : decode cX7_makeAtRelay 43 = .ok (.istore_n 3, 1) := by decide +kernel
theorem dX7_makeAtRelay_44 : decode cX7_makeAtRelay 44 = .ok (.aload_n 0, 1) := by decide +kernel
theorem dX7_makeAtRelay_45 : decode cX7_makeAtRelay 45 = .ok (.getfield 7, 3) := by decide +kernel
theorem dX7_makeAtRelay_48 : decode cX7_makeAtRelay 48 = .ok (.iconst 5, 1) := by decide +kernel
theorem dX7_makeAtRelay_49 : decode cX7_makeAtRelay 49 = .ok (.iaload, 1) := by decide +kernel
theorem dX7_makeAtRelay_50 : decode cX7_makeAtRelay 50 = .ok (.ifCond .ne 27, 3) := by decide +kernel
theorem dX7_makeAtRelay_53 : decode cX7_makeAtRelay 53 = .ok (.aload_n 0, 1) := by decide +kernel
theorem dX7_makeAtRelay_54 : decode cX7_makeAtRelay 54 = .ok (.iload_n 1, 1) := by decide +kernel
theorem dX7_makeAtRelay_55 : decode cX7_makeAtRelay 55 = .ok (.iconst 0, 1) := by decide +kernel
theorem dX7_makeAtRelay_56 : decode cX7_makeAtRelay 56 = .ok (.invokevirtual 85, 3) := by decide +kernel
theorem dX7_makeAtRelay_59 : decode cX7_makeAtRelay 59 = .ok (.aload_n 0, 1) := by decide +kernel
theorem dX7_makeAtRelay_60 : decode cX7_makeAtRelay 60 = .ok (.iload_n 1, 1) := by decide +kernel
theorem dX7_makeAtRelay_61 : decode cX7_makeAtRelay 61 = .ok (.iload_n 2, 1) := by decide +kernel
theorem dX7_makeAtRelay_62 : decode cX7_makeAtRelay 62 = .ok (.iload_n 3, 1) := by decide +kernel
theorem dX7_makeAtRelay_63 : decode cX7_makeAtRelay 63 = .ok (.invokevirtual 88, 3) := by decide +kernel
theorem dX7_makeAtRelay_66 : decode cX7_makeAtRelay 66 = .ok (.aload_n 0, 1) := by decide +kernel
theorem dX7_makeAtRelay_67 : decode cX7_makeAtRelay 67 = .ok (.iload_n 2, 1) := by decide +kernel
theorem dX7_makeAtRelay_68 : decode cX7_makeAtRelay 68 = .ok (.putfield 76, 3) := by decide +kernel
theorem dX7_makeAtRelay_71 : decode cX7_makeAtRelay 71 = .ok (.aload_n 0, 1) := by decide +kernel
theorem dX7_makeAtRelay_72 : decode cX7_makeAtRelay 72 = .ok (.iload_n 3, 1) := by decide +kernel
theorem dX7_makeAtRelay_73 : decode cX7_makeAtRelay 73 = .ok (.putfield 82, 3) := by decide +kernel
theorem dX7_makeAtRelay_76 : decode cX7_makeAtRelay 76 = .ok (.return_, 1) := by decide +kernel
theorem dX7_makeAtRelay_77 : decode cX7_makeAtRelay 77 = .ok (.iconst 0, 1) := by decide +kernel
theorem dX7_makeAtRelay_78 : decode cX7_makeAtRelay 78 = .ok (.istore 4, 2) := by decide +kernel
theorem dX7_makeAtRelay_80 : decode cX7_makeAtRelay 80 = .ok (.iconst 0, 1) := by decide +kernel
theorem dX7_makeAtRelay_81 : decode cX7_makeAtRelay 81 = .ok (.istore 5, 2) := by decide +kernel
theorem dX7_makeAtRelay_83 : decode cX7_makeAtRelay 83 = .ok (.iload 5, 2) := by decide +kernel
theorem dX7_makeAtRelay_85 : decode cX7_makeAtRelay 85 = .ok (.aload_n 0, 1) := by decide +kernel
theorem dX7_makeAtRelay_86 : decode cX7_makeAtRelay 86 = .ok (.getfield 7, 3) := by decide +kernel
theorem dX7_makeAtRelay_89 : decode cX7_makeAtRelay 89 = .ok (.iload_n 1, 1) := by decide +kernel
theorem dX7_makeAtRelay_90 : decode cX7_makeAtRelay 90 = .ok (.iaload, 1) := by decide +kernel
theorem dX7_makeAtRelay_91 : decode cX7_makeAtRelay 91 = .ok (.if_icmp .ge 63, 3) := by decide +kernel
theorem dX7_makeAtRelay_94 : decode cX7_makeAtRelay 94 = .ok (.aload_n 0, 1) := by decide +kernel
theorem dX7_makeAtRelay_95 : decode cX7_makeAtRelay 95 = .ok (.iconst 2, 1) := by decide +kernel
theorem dX7_makeAtRelay_96 : decode cX7_makeAtRelay 96 = .ok (.invokevirtual 73, 3) := by decide +kernel
theorem dX7_makeAtRelay_99 : decode cX7_makeAtRelay 99 = .ok (.iconst 1, 1) := by decide +kernel
theorem dX7_makeAtRelay_100 : decode cX7_makeAtRelay 100 = .ok (.if_icmp .ne 48, 3) := by decide +kernel
theorem dX7_makeAtRelay_103 : decode cX7_makeAtRelay 103 = .ok (.iconst 1, 1) := by decide +kernel
theorem dX7_makeAtRelay_104 : decode cX7_makeAtRelay 104 = .ok (.istore 4, 2) := by decide +kernel
theorem dX7_makeAtRelay_106 : decode cX7_makeAtRelay 106 = .ok (.aload_n 0, 1) := by decide +kernel
theorem dX7_makeAtRelay_107 : decode cX7_makeAtRelay 107 = .ok (.dup, 1) := by decide +kernel
theorem dX7_makeAtRelay_108 : decode cX7_makeAtRelay 108 = .ok (.getfield 76, 3) := by decide +kernel
theorem dX7_makeAtRelay_111 : decode cX7_makeAtRelay 111 = .ok (.aload_n 0, 1) := by decide +kernel
theorem dX7_makeAtRelay_112 : decode cX7_makeAtRelay 112 = .ok (.getfield 7, 3) := by decide +kernel
theorem dX7_makeAtRelay_115 : decode cX7_makeAtRelay 115 = .ok (.iload_n 1, 1) := by decide +kernel
theorem dX7_makeAtRelay_116 : decode cX7_makeAtRelay 116 = .ok (.iload 5, 2) := by decide +kernel
theorem dX7_makeAtRelay_118 : decode cX7_makeAtRelay 118 = .ok (.invokestatic 42, 3) := by decide +kernel
theorem dX7_makeAtRelay_121 : decode cX7_makeAtRelay 121 = .ok (.iaload, 1) := by decide +kernel
theorem dX7_makeAtRelay_122 : decode cX7_makeAtRelay 122 = .ok (.ixor, 1) := by decide +kernel
theorem dX7_makeAtRelay_123 : decode cX7_makeAtRelay 123 = .ok (.putfield 76, 3) := by decide +kernel
theorem dX7_makeAtRelay_126 : decode cX7_makeAtRelay 126 = .ok (.aload_n 0, 1) := by decide +kernel
theorem dX7_makeAtRelay_127 : decode cX7_makeAtRelay 127 = .ok (.dup, 1) := by decide +kernel
theorem dX7_makeAtRelay_128 : decode cX7_makeAtRelay 128 = .ok (.getfield 82, 3) := by decide +kernel
theorem dX7_makeAtRelay_131 : decode cX7_makeAtRelay 131 = .ok (.aload_n 0, 1) := by decide +kernel
theorem dX7_makeAtRelay_132 : decode cX7_makeAtRelay 132 = .ok (.getfield 7, 3) := by decide +kernel
theorem dX7_makeAtRelay_135 : decode cX7_makeAtRelay 135 = .ok (.iload_n 1, 1) := by decide +kernel
theorem dX7_makeAtRelay_136 : decode cX7_makeAtRelay 136 = .ok (.iload 5, 2) := by decide +kernel
theorem dX7_makeAtRelay_138 : decode cX7_makeAtRelay 138 = .ok (.invokestatic 42, 3) := by decide +kernel
theorem dX7_makeAtRelay_141 : decode cX7_makeAtRelay 141 = .ok (.iconst 1, 1) := by decide +kernel
theorem dX7_makeAtRelay_142 : decode cX7_makeAtRelay 142 = .ok (.iadd, 1) := by decide +kernel
theorem dX7_makeAtRelay_143 : decode cX7_makeAtRelay 143 = .ok (.iaload, 1) := by decide +kernel
theorem dX7_makeAtRelay_144 : decode cX7_makeAtRelay 144 = .ok (.ixor, 1) := by decide +kernel
theorem dX7_makeAtRelay_145 : decode cX7_makeAtRelay 145 = .ok (.putfield 82, 3) := by decide +kernel
theorem dX7_makeAtRelay_148 : decode cX7_makeAtRelay 148 = .ok (.iinc 5 1, 3) := by decide +kernel
theorem dX7_makeAtRelay_151 : decode cX7_makeAtRelay 151 = .ok (.goto (-68), 3) := by decide +kernel
theorem dX7_makeAtRelay_154 : decode cX7_makeAtRelay 154 = .ok (.aload_n 0, 1) := by decide +kernel
theorem dX7_makeAtRelay_155 : decode cX7_makeAtRelay 155 = .ok (.iload 4, 2) := by decide +kernel
theorem dX7_makeAtRelay_157 : decode cX7_makeAtRelay 157 = .ok (.ifCond .eq 10, 3) := by decide +kernel
theorem dX7_makeAtRelay_160 : decode cX7_makeAtRelay 160 = .ok (.aload_n 0, 1) := by decide +kernel
theorem dX7_makeAtRelay_161 : decode cX7_makeAtRelay 161 = .ok (.getfield 76, 3) := by decide +kernel
theorem dX7_makeAtRelay_164 : decode cX7_makeAtRelay 164 = .ok (.goto 4, 3) := by decide +kernel
theorem dX7_makeAtRelay_167 : decode cX7_makeAtRelay 167 = .ok (.iload_n 2, 1) := by decide +kernel
theorem dX7_makeAtRelay_168 : decode cX7_makeAtRelay 168 = .ok (.putfield 76, 3) := by decide +kernel
theorem dX7_makeAtRelay_171 : decode cX7_makeAtRelay 171 = .ok (.aload_n 0, 1) := by decide +kernel
theorem dX7_makeAtRelay_172 : decode cX7_makeAtRelay 172 = .ok (.iload 4, 2) := by decide +kernel
theorem dX7_makeAtRelay_174 : decode cX7_makeAtRelay 174 = .ok (.ifCond .eq 10, 3) := by decide +kernel
theorem dX7_makeAtRelay_177 : decode cX7_makeAtRelay 177 = .ok (.aload_n 0, 1) := by decide +kernel
theorem dX7_makeAtRelay_178 : decode cX7_makeAtRelay 178 = .ok (.getfield 82, 3) := by decide +kernel
theorem dX7_makeAtRelay_181 : decode cX7_makeAtRelay 181 = .ok (.goto 4, 3) := by decide +kernel
theorem dX7_makeAtRelay_184 : decode cX7_makeAtRelay 184 = .ok (.iload_n 3, 1) := by decide +kernel
theorem dX7_makeAtRelay_185 : decode cX7_makeAtRelay 185 = .ok (.putfield 82, 3) := by decide +kernel
theorem dX7_makeAtRelay_188 : decode cX7_makeAtRelay 188 = .ok (.return_, 1) := by decide +kernel
theorem dX7_storeOf_0 : decode cX7_storeOf 0 = .ok (.bipush 34, 2) := by decide +kernel
theorem dX7_storeOf_2 : decode cX7_storeOf 2 = .ok (.bipush 9, 2) := by decide +kernel
theorem dX7_storeOf_4 : decode cX7_storeOf 4 = .ok (.iload_n 0, 1) := by decide +kernel
theorem dX7_storeOf_5 : decode cX7_storeOf 5 = .ok (.iconst 1, 1) := by decide +kernel
theorem dX7_storeOf_6 : decode cX7_storeOf 6 = .ok (.isub, 1) := by decide +kernel
theorem dX7_storeOf_7 : decode cX7_storeOf 7 = .ok (.imul, 1) := by decide +kernel
theorem dX7_storeOf_8 : decode cX7_storeOf 8 = .ok (.iadd, 1) := by decide +kernel
theorem dX7_storeOf_9 : decode cX7_storeOf 9 = .ok (.ireturn, 1) := by decide +kernel
theorem dX7_mostAlike_0 : decode cX7_mostAlike 0 = .ok (.iconst 0, 1) := by decide +kernel
theorem dX7_mostAlike_1 : decode cX7_mostAlike 1 = .ok (.istore_n 3, 1) := by decide +kernel
theorem dX7_mostAlike_2 : decode cX7_mostAlike 2 = .ok (.iconst 1, 1) := by decide +kernel
theorem dX7_mostAlike_3 : decode cX7_mostAlike 3 = .ok (.istore 4, 2) := by decide +kernel
theorem dX7_mostAlike_5 : decode cX7_mostAlike 5 = .ok (.iload 4, 2) := by decide +kernel
theorem dX7_mostAlike_7 : decode cX7_mostAlike 7 = .ok (.aload_n 0, 1) := by decide +kernel
theorem dX7_mostAlike_8 : decode cX7_mostAlike 8 = .ok (.getfield 7, 3) := by decide +kernel
theorem dX7_mostAlike_11 : decode cX7_mostAlike 11 = .ok (.iload_n 1, 1) := by decide +kernel
theorem dX7_mostAlike_12 : decode cX7_mostAlike 12 = .ok (.iaload, 1) := by decide +kernel
theorem dX7_mostAlike_13 : decode cX7_mostAlike 13 = .ok (.if_icmp .ge 50, 3) := by decide +kernel
theorem dX7_mostAlike_16 : decode cX7_mostAlike 16 = .ok (.aload_n 0, 1) := by decide +kernel
theorem dX7_mostAlike_17 : decode cX7_mostAlike 17 = .ok (.getfield 7, 3) := by decide +kernel
theorem dX7_mostAlike_20 : decode cX7_mostAlike 20 = .ok (.iload_n 1, 1) := by decide +kernel
theorem dX7_mostAlike_21 : decode cX7_mostAlike 21 = .ok (.iload 4, 2) := by decide +kernel
theorem dX7_mostAlike_23 : decode cX7_mostAlike 23 = .ok (.invokestatic 42, 3) := by decide +kernel
theorem dX7_mostAlike_26 : decode cX7_mostAlike 26 = .ok (.iaload, 1) := by decide +kernel
theorem dX7_mostAlike_27 : decode cX7_mostAlike 27 = .ok (.iload_n 2, 1) := by decide +kernel
theorem dX7_mostAlike_28 : decode cX7_mostAlike 28 = .ok (.iand, 1) := by decide +kernel
theorem dX7_mostAlike_29 : decode cX7_mostAlike 29 = .ok (.invokestatic 92, 3) := by decide +kernel
theorem dX7_mostAlike_32 : decode cX7_mostAlike 32 = .ok (.aload_n 0, 1) := by decide +kernel
theorem dX7_mostAlike_33 : decode cX7_mostAlike 33 = .ok (.getfield 7, 3) := by decide +kernel
theorem dX7_mostAlike_36 : decode cX7_mostAlike 36 = .ok (.iload_n 1, 1) := by decide +kernel
theorem dX7_mostAlike_37 : decode cX7_mostAlike 37 = .ok (.iload_n 3, 1) := by decide +kernel
theorem dX7_mostAlike_38 : decode cX7_mostAlike 38 = .ok (.invokestatic 42, 3) := by decide +kernel
theorem dX7_mostAlike_41 : decode cX7_mostAlike 41 = .ok (.iaload, 1) := by decide +kernel
theorem dX7_mostAlike_42 : decode cX7_mostAlike 42 = .ok (.iload_n 2, 1) := by decide +kernel
theorem dX7_mostAlike_43 : decode cX7_mostAlike 43 = .ok (.iand, 1) := by decide +kernel
theorem dX7_mostAlike_44 : decode cX7_mostAlike 44 = .ok (.invokestatic 92, 3) := by decide +kernel
theorem dX7_mostAlike_47 : decode cX7_mostAlike 47 = .ok (.if_icmp .le 8, 3) := by decide +kernel
theorem dX7_mostAlike_50 : decode cX7_mostAlike 50 = .ok (.iload 4, 2) := by decide +kernel
theorem dX7_mostAlike_52 : decode cX7_mostAlike 52 = .ok (.goto 4, 3) := by decide +kernel
theorem dX7_mostAlike_55 : decode cX7_mostAlike 55 = .ok (.iload_n 3, 1) := by decide +kernel
theorem dX7_mostAlike_56 : decode cX7_mostAlike 56 = .ok (.istore_n 3, 1) := by decide +kernel
theorem dX7_mostAlike_57 : decode cX7_mostAlike 57 = .ok (.iinc 4 1, 3) := by decide +kernel
theorem dX7_mostAlike_60 : decode cX7_mostAlike 60 = .ok (.goto (-55), 3) := by decide +kernel
theorem dX7_mostAlike_63 : decode cX7_mostAlike 63 = .ok (.iload_n 3, 1) := by decide +kernel
theorem dX7_mostAlike_64 : decode cX7_mostAlike 64 = .ok (.ireturn, 1) := by decide +kernel
theorem dX7_arriveAtRelay_0 : decode cX7_arriveAtRelay 0 = .ok (.aload_n 0, 1) := by decide +kernel
theorem dX7_arriveAtRelay_1 : decode cX7_arriveAtRelay 1 = .ok (.getfield 7, 3) := by decide +kernel
theorem dX7_arriveAtRelay_4 : decode cX7_arriveAtRelay 4 = .ok (.iconst 4, 1) := by decide +kernel
theorem dX7_arriveAtRelay_5 : decode cX7_arriveAtRelay 5 = .ok (.iaload, 1) := by decide +kernel
theorem dX7_arriveAtRelay_6 : decode cX7_arriveAtRelay 6 = .ok (.iconst 2, 1) := by decide +kernel
theorem dX7_arriveAtRelay_7 : decode cX7_arriveAtRelay 7 = .ok (.if_icmp .ne 12, 3) := by decide +kernel
theorem dX7_arriveAtRelay_10 : decode cX7_arriveAtRelay 10 = .ok (.aload_n 0, 1) := by decide +kernel
theorem dX7_arriveAtRelay_11 : decode cX7_arriveAtRelay 11 = .ok (.iload_n 1, 1) := by decide +kernel
theorem dX7_arriveAtRelay_12 : decode cX7_arriveAtRelay 12 = .ok (.iload_n 2, 1) := by decide +kernel
theorem dX7_arriveAtRelay_13 : decode cX7_arriveAtRelay 13 = .ok (.invokevirtual 95, 3) := by decide +kernel
theorem dX7_arriveAtRelay_16 : decode cX7_arriveAtRelay 16 = .ok (.ifCond .eq 7, 3) := by decide +kernel
theorem dX7_arriveAtRelay_19 : decode cX7_arriveAtRelay 19 = .ok (.iconst 1, 1) := by decide +kernel
theorem dX7_arriveAtRelay_20 : decode cX7_arriveAtRelay 20 = .ok (.goto 4, 3) := by decide +kernel
theorem dX7_arriveAtRelay_23 : decode cX7_arriveAtRelay 23 = .ok (.iconst 0, 1) := by decide +kernel
theorem dX7_arriveAtRelay_24 : decode cX7_arriveAtRelay 24 = .ok (.istore 4, 2) := by decide +kernel
theorem dX7_arriveAtRelay_26 : decode cX7_arriveAtRelay 26 = .ok (.aload_n 0, 1) := by decide +kernel
theorem dX7_arriveAtRelay_27 : decode cX7_arriveAtRelay 27 = .ok (.getfield 7, 3) := by decide +kernel
theorem dX7_arriveAtRelay_30 : decode cX7_arriveAtRelay 30 = .ok (.iload_n 1, 1) := by decide +kernel
theorem dX7_arriveAtRelay_31 : decode cX7_arriveAtRelay 31 = .ok (.iaload, 1) := by decide +kernel
theorem dX7_arriveAtRelay_32 : decode cX7_arriveAtRelay 32 = .ok (.aload_n 0, 1) := by decide +kernel
theorem dX7_arriveAtRelay_33 : decode cX7_arriveAtRelay 33 = .ok (.getfield 7, 3) := by decide +kernel
theorem dX7_arriveAtRelay_36 : decode cX7_arriveAtRelay 36 = .ok (.iconst 3, 1) := by decide +kernel
theorem dX7_arriveAtRelay_37 : decode cX7_arriveAtRelay 37 = .ok (.iaload, 1) := by decide +kernel
theorem dX7_arriveAtRelay_38 : decode cX7_arriveAtRelay 38 = .ok (.if_icmp .ge 16, 3) := by decide +kernel
theorem dX7_arriveAtRelay_41 : decode cX7_arriveAtRelay 41 = .ok (.iload 4, 2) := by decide +kernel
theorem dX7_arriveAtRelay_43 : decode cX7_arriveAtRelay 43 = .ok (.ifCond .eq 10, 3) := by decide +kernel
theorem dX7_arriveAtRelay_46 : decode cX7_arriveAtRelay 46 = .ok (.aload_n 0, 1) := by decide +kernel
theorem dX7_arriveAtRelay_47 : decode cX7_arriveAtRelay 47 = .ok (.iload_n 1, 1) := by decide +kernel
theorem dX7_arriveAtRelay_48 : decode cX7_arriveAtRelay 48 = .ok (.iload_n 2, 1) := by decide +kernel
theorem dX7_arriveAtRelay_49 : decode cX7_arriveAtRelay 49 = .ok (.iload_n 3, 1) := by decide +kernel
theorem dX7_arriveAtRelay_50 : decode cX7_arriveAtRelay 50 = .ok (.invokevirtual 88, 3) := by decide +kernel
theorem dX7_arriveAtRelay_53 : decode cX7_arriveAtRelay 53 = .ok (.return_, 1) := by decide +kernel
theorem dX7_arriveAtRelay_54 : decode cX7_arriveAtRelay 54 = .ok (.aload_n 0, 1) := by decide +kernel
theorem dX7_arriveAtRelay_55 : decode cX7_arriveAtRelay 55 = .ok (.getfield 7, 3) := by decide +kernel
theorem dX7_arriveAtRelay_58 : decode cX7_arriveAtRelay 58 = .ok (.iconst 4, 1) := by decide +kernel
theorem dX7_arriveAtRelay_59 : decode cX7_arriveAtRelay 59 = .ok (.iaload, 1) := by decide +kernel
theorem dX7_arriveAtRelay_60 : decode cX7_arriveAtRelay 60 = .ok (.tableswitch 73 0 2 #[28, 44, 47], 28) := by decide +kernel
theorem dX7_arriveAtRelay_88 : decode cX7_arriveAtRelay 88 = .ok (.aload_n 0, 1) := by decide +kernel
theorem dX7_arriveAtRelay_89 : decode cX7_arriveAtRelay 89 = .ok (.iload_n 1, 1) := by decide +kernel
theorem dX7_arriveAtRelay_90 : decode cX7_arriveAtRelay 90 = .ok (.iconst 0, 1) := by decide +kernel
theorem dX7_arriveAtRelay_91 : decode cX7_arriveAtRelay 91 = .ok (.invokevirtual 85, 3) := by decide +kernel
theorem dX7_arriveAtRelay_94 : decode cX7_arriveAtRelay 94 = .ok (.aload_n 0, 1) := by decide +kernel
theorem dX7_arriveAtRelay_95 : decode cX7_arriveAtRelay 95 = .ok (.iload_n 1, 1) := by decide +kernel
theorem dX7_arriveAtRelay_96 : decode cX7_arriveAtRelay 96 = .ok (.iload_n 2, 1) := by decide +kernel
theorem dX7_arriveAtRelay_97 : decode cX7_arriveAtRelay 97 = .ok (.iload_n 3, 1) := by decide +kernel
theorem dX7_arriveAtRelay_98 : decode cX7_arriveAtRelay 98 = .ok (.invokevirtual 88, 3) := by decide +kernel
theorem dX7_arriveAtRelay_101 : decode cX7_arriveAtRelay 101 = .ok (.goto 82, 3) := by decide +kernel
theorem dX7_arriveAtRelay_104 : decode cX7_arriveAtRelay 104 = .ok (.goto 79, 3) := by decide +kernel
theorem dX7_arriveAtRelay_107 : decode cX7_arriveAtRelay 107 = .ok (.iload 4, 2) := by decide +kernel
theorem dX7_arriveAtRelay_109 : decode cX7_arriveAtRelay 109 = .ok (.ifCond .eq 74, 3) := by decide +kernel
theorem dX7_arriveAtRelay_112 : decode cX7_arriveAtRelay 112 = .ok (.aload_n 0, 1) := by decide +kernel
theorem dX7_arriveAtRelay_113 : decode cX7_arriveAtRelay 113 = .ok (.iload_n 1, 1) := by decide +kernel
theorem dX7_arriveAtRelay_114 : decode cX7_arriveAtRelay 114 = .ok (.aload_n 0, 1) := by decide +kernel
theorem dX7_arriveAtRelay_115 : decode cX7_arriveAtRelay 115 = .ok (.iload_n 1, 1) := by decide +kernel
theorem dX7_arriveAtRelay_116 : decode cX7_arriveAtRelay 116 = .ok (.iload_n 2, 1) := by decide +kernel
theorem dX7_arriveAtRelay_117 : decode cX7_arriveAtRelay 117 = .ok (.invokevirtual 99, 3) := by decide +kernel
theorem dX7_arriveAtRelay_120 : decode cX7_arriveAtRelay 120 = .ok (.invokevirtual 85, 3) := by decide +kernel
theorem dX7_arriveAtRelay_123 : decode cX7_arriveAtRelay 123 = .ok (.aload_n 0, 1) := by decide +kernel
theorem dX7_arriveAtRelay_124 : decode cX7_arriveAtRelay 124 = .ok (.iload_n 1, 1) := by decide +kernel
theorem dX7_arriveAtRelay_125 : decode cX7_arriveAtRelay 125 = .ok (.iload_n 2, 1) := by decide +kernel
theorem dX7_arriveAtRelay_126 : decode cX7_arriveAtRelay 126 = .ok (.iload_n 3, 1) := by decide +kernel
theorem dX7_arriveAtRelay_127 : decode cX7_arriveAtRelay 127 = .ok (.invokevirtual 88, 3) := by decide +kernel
theorem dX7_arriveAtRelay_130 : decode cX7_arriveAtRelay 130 = .ok (.goto 53, 3) := by decide +kernel
theorem dX7_arriveAtRelay_133 : decode cX7_arriveAtRelay 133 = .ok (.aload_n 0, 1) := by decide +kernel
theorem dX7_arriveAtRelay_134 : decode cX7_arriveAtRelay 134 = .ok (.getfield 7, 3) := by decide +kernel
theorem dX7_arriveAtRelay_137 : decode cX7_arriveAtRelay 137 = .ok (.iload_n 1, 1) := by decide +kernel
theorem dX7_arriveAtRelay_138 : decode cX7_arriveAtRelay 138 = .ok (.iconst 0, 1) := by decide +kernel
theorem dX7_arriveAtRelay_139 : decode cX7_arriveAtRelay 139 = .ok (.invokestatic 42, 3) := by decide +kernel
theorem dX7_arriveAtRelay_142 : decode cX7_arriveAtRelay 142 = .ok (.iaload, 1) := by decide +kernel
theorem dX7_arriveAtRelay_143 : decode cX7_arriveAtRelay 143 = .ok (.iload_n 2, 1) := by decide +kernel
theorem dX7_arriveAtRelay_144 : decode cX7_arriveAtRelay 144 = .ok (.ixor, 1) := by decide +kernel
theorem dX7_arriveAtRelay_145 : decode cX7_arriveAtRelay 145 = .ok (.istore 5, 2) := by decide +kernel
theorem dX7_arriveAtRelay_147 : decode cX7_arriveAtRelay 147 = .ok (.aload_n 0, 1) := by decide +kernel
theorem dX7_arriveAtRelay_148 : decode cX7_arriveAtRelay 148 = .ok (.getfield 7, 3) := by decide +kernel
theorem dX7_arriveAtRelay_151 : decode cX7_arriveAtRelay 151 = .ok (.iload_n 1, 1) := by decide +kernel
theorem dX7_arriveAtRelay_152 : decode cX7_arriveAtRelay 152 = .ok (.iconst 0, 1) := by decide +kernel
theorem dX7_arriveAtRelay_153 : decode cX7_arriveAtRelay 153 = .ok (.invokestatic 42, 3) := by decide +kernel
theorem dX7_arriveAtRelay_156 : decode cX7_arriveAtRelay 156 = .ok (.iconst 1, 1) := by decide +kernel
theorem dX7_arriveAtRelay_157 : decode cX7_arriveAtRelay 157 = .ok (.iadd, 1) := by decide +kernel
theorem dX7_arriveAtRelay_158 : decode cX7_arriveAtRelay 158 = .ok (.iaload, 1) := by decide +kernel
theorem dX7_arriveAtRelay_159 : decode cX7_arriveAtRelay 159 = .ok (.iload_n 3, 1) := by decide +kernel
theorem dX7_arriveAtRelay_160 : decode cX7_arriveAtRelay 160 = .ok (.ixor, 1) := by decide +kernel
theorem dX7_arriveAtRelay_161 : decode cX7_arriveAtRelay 161 = .ok (.istore 6, 2) := by decide +kernel
theorem dX7_arriveAtRelay_163 : decode cX7_arriveAtRelay 163 = .ok (.aload_n 0, 1) := by decide +kernel
theorem dX7_arriveAtRelay_164 : decode cX7_arriveAtRelay 164 = .ok (.iload_n 1, 1) := by decide +kernel
theorem dX7_arriveAtRelay_165 : decode cX7_arriveAtRelay 165 = .ok (.iconst 0, 1) := by decide +kernel
theorem dX7_arriveAtRelay_166 : decode cX7_arriveAtRelay 166 = .ok (.invokevirtual 85, 3) := by decide +kernel
theorem dX7_arriveAtRelay_169 : decode cX7_arriveAtRelay 169 = .ok (.iload 5, 2) := by decide +kernel
theorem dX7_arriveAtRelay_171 : decode cX7_arriveAtRelay 171 = .ok (.ifCond .eq 12, 3) := by decide +kernel
theorem dX7_arriveAtRelay_174 : decode cX7_arriveAtRelay 174 = .ok (.aload_n 0, 1) := by decide +kernel
theorem dX7_arriveAtRelay_175 : decode cX7_arriveAtRelay 175 = .ok (.iload_n 1, 1) := by decide +kernel
theorem dX7_arriveAtRelay_176 : decode cX7_arriveAtRelay 176 = .ok (.iload 5, 2) := by decide +kernel
theorem dX7_arriveAtRelay_178 : decode cX7_arriveAtRelay 178 = .ok (.iload 6, 2) := by decide +kernel
theorem dX7_arriveAtRelay_180 : decode cX7_arriveAtRelay 180 = .ok (.invokevirtual 88, 3) := by decide +kernel
theorem dX7_arriveAtRelay_183 : decode cX7_arriveAtRelay 183 = .ok (.return_, 1) := by decide +kernel
theorem dX7_learn_0 : decode cX7_learn 0 = .ok (.aload_n 0, 1) := by decide +kernel
theorem dX7_learn_1 : decode cX7_learn 1 = .ok (.getfield 7, 3) := by decide +kernel
theorem dX7_learn_4 : decode cX7_learn 4 = .ok (.bipush 86, 2) := by decide +kernel
theorem dX7_learn_6 : decode cX7_learn 6 = .ok (.iload_n 1, 1) := by decide +kernel
theorem dX7_learn_7 : decode cX7_learn 7 = .ok (.iadd, 1) := by decide +kernel
theorem dX7_learn_8 : decode cX7_learn 8 = .ok (.iload_n 2, 1) := by decide +kernel
theorem dX7_learn_9 : decode cX7_learn 9 = .ok (.iastore, 1) := by decide +kernel
theorem dX7_learn_10 : decode cX7_learn 10 = .ok (.aload_n 0, 1) := by decide +kernel
theorem dX7_learn_11 : decode cX7_learn 11 = .ok (.getfield 7, 3) := by decide +kernel
theorem dX7_learn_14 : decode cX7_learn 14 = .ok (.bipush 98, 2) := by decide +kernel
theorem dX7_learn_16 : decode cX7_learn 16 = .ok (.iload_n 1, 1) := by decide +kernel
theorem dX7_learn_17 : decode cX7_learn 17 = .ok (.iadd, 1) := by decide +kernel
theorem dX7_learn_18 : decode cX7_learn 18 = .ok (.aload_n 0, 1) := by decide +kernel
theorem dX7_learn_19 : decode cX7_learn 19 = .ok (.getfield 7, 3) := by decide +kernel
theorem dX7_learn_22 : decode cX7_learn 22 = .ok (.iconst 2, 1) := by decide +kernel
theorem dX7_learn_23 : decode cX7_learn 23 = .ok (.iaload, 1) := by decide +kernel
theorem dX7_learn_24 : decode cX7_learn 24 = .ok (.iastore, 1) := by decide +kernel
theorem dX7_learn_25 : decode cX7_learn 25 = .ok (.aload_n 0, 1) := by decide +kernel
theorem dX7_learn_26 : decode cX7_learn 26 = .ok (.getfield 7, 3) := by decide +kernel
theorem dX7_learn_29 : decode cX7_learn 29 = .ok (.bipush 122, 2) := by decide +kernel
theorem dX7_learn_31 : decode cX7_learn 31 = .ok (.iaload, 1) := by decide +kernel
theorem dX7_learn_32 : decode cX7_learn 32 = .ok (.iconst 1, 1) := by decide +kernel
theorem dX7_learn_33 : decode cX7_learn 33 = .ok (.isub, 1) := by decide +kernel
theorem dX7_learn_34 : decode cX7_learn 34 = .ok (.istore_n 3, 1) := by decide +kernel
theorem dX7_learn_35 : decode cX7_learn 35 = .ok (.iload_n 3, 1) := by decide +kernel
theorem dX7_learn_36 : decode cX7_learn 36 = .ok (.ifCond .lt 75, 3) := by decide +kernel
theorem dX7_learn_39 : decode cX7_learn 39 = .ok (.bipush 122, 2) := by decide +kernel
theorem dX7_learn_41 : decode cX7_learn 41 = .ok (.iload_n 3, 1) := by decide +kernel
theorem dX7_learn_42 : decode cX7_learn 42 = .ok (.invokestatic 42, 3) := by decide +kernel
theorem dX7_learn_45 : decode cX7_learn 45 = .ok (.istore 4, 2) := by decide +kernel
theorem dX7_learn_47 : decode cX7_learn 47 = .ok (.aload_n 0, 1) := by decide +kernel
theorem dX7_learn_48 : decode cX7_learn 48 = .ok (.getfield 7, 3) := by decide +kernel
theorem dX7_learn_51 : decode cX7_learn 51 = .ok (.iload 4, 2) := by decide +kernel
theorem dX7_learn_53 : decode cX7_learn 53 = .ok (.iaload, 1) := by decide +kernel
theorem dX7_learn_54 : decode cX7_learn 54 = .ok (.iload_n 1, 1) := by decide +kernel
theorem dX7_learn_55 : decode cX7_learn 55 = .ok (.ishr, 1) := by decide +kernel
theorem dX7_learn_56 : decode cX7_learn 56 = .ok (.iconst 1, 1) := by decide +kernel
theorem dX7_learn_57 : decode cX7_learn 57 = .ok (.iand, 1) := by decide +kernel
theorem dX7_learn_58 : decode cX7_learn 58 = .ok (.iconst 1, 1) := by decide +kernel
theorem dX7_learn_59 : decode cX7_learn 59 = .ok (.if_icmp .ne 29, 3) := by decide +kernel
theorem dX7_learn_62 : decode cX7_learn 62 = .ok (.aload_n 0, 1) := by decide +kernel
theorem dX7_learn_63 : decode cX7_learn 63 = .ok (.getfield 7, 3) := by decide +kernel
theorem dX7_learn_66 : decode cX7_learn 66 = .ok (.iload 4, 2) := by decide +kernel
theorem dX7_learn_68 : decode cX7_learn 68 = .ok (.dup2, 1) := by decide +kernel
theorem dX7_learn_69 : decode cX7_learn 69 = .ok (.iaload, 1) := by decide +kernel
theorem dX7_learn_70 : decode cX7_learn 70 = .ok (.iconst 1, 1) := by decide +kernel
theorem dX7_learn_71 : decode cX7_learn 71 = .ok (.iload_n 1, 1) := by decide +kernel
theorem dX7_learn_72 : decode cX7_learn 72 = .ok (.ishl, 1) := by decide +kernel
theorem dX7_learn_73 : decode cX7_learn 73 = .ok (.ixor, 1) := by decide +kernel
theorem dX7_learn_74 : decode cX7_learn 74 = .ok (.iastore, 1) := by decide +kernel
theorem dX7_learn_75 : decode cX7_learn 75 = .ok (.aload_n 0, 1) := by decide +kernel
theorem dX7_learn_76 : decode cX7_learn 76 = .ok (.getfield 7, 3) := by decide +kernel
theorem dX7_learn_79 : decode cX7_learn 79 = .ok (.iload 4, 2) := by decide +kernel
theorem dX7_learn_81 : decode cX7_learn 81 = .ok (.iconst 1, 1) := by decide +kernel
theorem dX7_learn_82 : decode cX7_learn 82 = .ok (.iadd, 1) := by decide +kernel
theorem dX7_learn_83 : decode cX7_learn 83 = .ok (.dup2, 1) := by decide +kernel
theorem dX7_learn_84 : decode cX7_learn 84 = .ok (.iaload, 1) := by decide +kernel
theorem dX7_learn_85 : decode cX7_learn 85 = .ok (.iload_n 2, 1) := by decide +kernel
theorem dX7_learn_86 : decode cX7_learn 86 = .ok (.ixor, 1) := by decide +kernel
theorem dX7_learn_87 : decode cX7_learn 87 = .ok (.iastore, 1) := by decide +kernel
theorem dX7_learn_88 : decode cX7_learn 88 = .ok (.aload_n 0, 1) := by decide +kernel
theorem dX7_learn_89 : decode cX7_learn 89 = .ok (.getfield 7, 3) := by decide +kernel
theorem dX7_learn_92 : decode cX7_learn 92 = .ok (.iload 4, 2) := by decide +kernel
theorem dX7_learn_94 : decode cX7_learn 94 = .ok (.iaload, 1) := by decide +kernel
theorem dX7_learn_95 : decode cX7_learn 95 = .ok (.ifCond .ne 10, 3) := by decide +kernel
theorem dX7_learn_98 : decode cX7_learn 98 = .ok (.aload_n 0, 1) := by decide +kernel
theorem dX7_learn_99 : decode cX7_learn 99 = .ok (.bipush 122, 2) := by decide +kernel
theorem dX7_learn_101 : decode cX7_learn 101 = .ok (.iload_n 3, 1) := by decide +kernel
theorem dX7_learn_102 : decode cX7_learn 102 = .ok (.invokevirtual 85, 3) := by decide +kernel
theorem dX7_learn_105 : decode cX7_learn 105 = .ok (.iinc 3 (-1), 3) := by decide +kernel
theorem dX7_learn_108 : decode cX7_learn 108 = .ok (.goto (-73), 3) := by decide +kernel
theorem dX7_learn_111 : decode cX7_learn 111 = .ok (.return_, 1) := by decide +kernel
theorem dX7_firstAlone_0 : decode cX7_firstAlone 0 = .ok (.iconst 0, 1) := by decide +kernel
theorem dX7_firstAlone_1 : decode cX7_firstAlone 1 = .ok (.istore_n 1, 1) := by decide +kernel
theorem dX7_firstAlone_2 : decode cX7_firstAlone 2 = .ok (.iload_n 1, 1) := by decide +kernel
theorem dX7_firstAlone_3 : decode cX7_firstAlone 3 = .ok (.aload_n 0, 1) := by decide +kernel
theorem dX7_firstAlone_4 : decode cX7_firstAlone 4 = .ok (.getfield 7, 3) := by decide +kernel
theorem dX7_firstAlone_7 : decode cX7_firstAlone 7 = .ok (.bipush 122, 2) := by decide +kernel
theorem dX7_firstAlone_9 : decode cX7_firstAlone 9 = .ok (.iaload, 1) := by decide +kernel
theorem dX7_firstAlone_10 : decode cX7_firstAlone 10 = .ok (.if_icmp .ge 29, 3) := by decide +kernel
theorem dX7_firstAlone_13 : decode cX7_firstAlone 13 = .ok (.aload_n 0, 1) := by decide +kernel
theorem dX7_firstAlone_14 : decode cX7_firstAlone 14 = .ok (.getfield 7, 3) := by decide +kernel
theorem dX7_firstAlone_17 : decode cX7_firstAlone 17 = .ok (.bipush 122, 2) := by decide +kernel
theorem dX7_firstAlone_19 : decode cX7_firstAlone 19 = .ok (.iload_n 1, 1) := by decide +kernel
theorem dX7_firstAlone_20 : decode cX7_firstAlone 20 = .ok (.invokestatic 42, 3) := by decide +kernel
theorem dX7_firstAlone_23 : decode cX7_firstAlone 23 = .ok (.iaload, 1) := by decide +kernel
theorem dX7_firstAlone_24 : decode cX7_firstAlone 24 = .ok (.invokestatic 92, 3) := by decide +kernel
theorem dX7_firstAlone_27 : decode cX7_firstAlone 27 = .ok (.iconst 1, 1) := by decide +kernel
theorem dX7_firstAlone_28 : decode cX7_firstAlone 28 = .ok (.if_icmp .ne 5, 3) := by decide +kernel
theorem dX7_firstAlone_31 : decode cX7_firstAlone 31 = .ok (.iload_n 1, 1) := by decide +kernel
theorem dX7_firstAlone_32 : decode cX7_firstAlone 32 = .ok (.ireturn, 1) := by decide +kernel
theorem dX7_firstAlone_33 : decode cX7_firstAlone 33 = .ok (.iinc 1 1, 3) := by decide +kernel
theorem dX7_firstAlone_36 : decode cX7_firstAlone 36 = .ok (.goto (-34), 3) := by decide +kernel
theorem dX7_firstAlone_39 : decode cX7_firstAlone 39 = .ok (.bipush (-9), 2) := by decide +kernel
theorem dX7_firstAlone_41 : decode cX7_firstAlone 41 = .ok (.ireturn, 1) := by decide +kernel
theorem dX7_peel_0 : decode cX7_peel 0 = .ok (.iload_n 1, 1) := by decide +kernel
theorem dX7_peel_1 : decode cX7_peel 1 = .ok (.istore_n 3, 1) := by decide +kernel
theorem dX7_peel_2 : decode cX7_peel 2 = .ok (.iload_n 2, 1) := by decide +kernel
theorem dX7_peel_3 : decode cX7_peel 3 = .ok (.istore 4, 2) := by decide +kernel
theorem dX7_peel_5 : decode cX7_peel 5 = .ok (.iconst 0, 1) := by decide +kernel
theorem dX7_peel_6 : decode cX7_peel 6 = .ok (.istore 5, 2) := by decide +kernel
theorem dX7_peel_8 : decode cX7_peel 8 = .ok (.iload 5, 2) := by decide +kernel
theorem dX7_peel_10 : decode cX7_peel 10 = .ok (.aload_n 0, 1) := by decide +kernel
theorem dX7_peel_11 : decode cX7_peel 11 = .ok (.getfield 7, 3) := by decide +kernel
theorem dX7_peel_14 : decode cX7_peel 14 = .ok (.iconst 0, 1) := by decide +kernel
theorem dX7_peel_15 : decode cX7_peel 15 = .ok (.iaload, 1) := by decide +kernel
theorem dX7_peel_16 : decode cX7_peel 16 = .ok (.if_icmp .ge 56, 3) := by decide +kernel
theorem dX7_peel_19 : decode cX7_peel 19 = .ok (.iload_n 1, 1) := by decide +kernel
theorem dX7_peel_20 : decode cX7_peel 20 = .ok (.iload 5, 2) := by decide +kernel
theorem dX7_peel_22 : decode cX7_peel 22 = .ok (.ishr, 1) := by decide +kernel
theorem dX7_peel_23 : decode cX7_peel 23 = .ok (.iconst 1, 1) := by decide +kernel
theorem dX7_peel_24 : decode cX7_peel 24 = .ok (.iand, 1) := by decide +kernel
theorem dX7_peel_25 : decode cX7_peel 25 = .ok (.iconst 1, 1) := by decide +kernel
theorem dX7_peel_26 : decode cX7_peel 26 = .ok (.if_icmp .ne 40, 3) := by decide +kernel
theorem dX7_peel_29 : decode cX7_peel 29 = .ok (.aload_n 0, 1) := by decide +kernel
theorem dX7_peel_30 : decode cX7_peel 30 = .ok (.getfield 7, 3) := by decide +kernel
theorem dX7_peel_33 : decode cX7_peel 33 = .ok (.bipush 86, 2) := by decide +kernel
theorem dX7_peel_35 : decode cX7_peel 35 = .ok (.iload 5, 2) := by decide +kernel
theorem dX7_peel_37 : decode cX7_peel 37 = .ok (.iadd, 1) := by decide +kernel
theorem dX7_peel_38 : decode cX7_peel 38 = .ok (.iaload, 1) := by decide +kernel
theorem dX7_peel_39 : decode cX7_peel 39 = .ok (.bipush (-9), 2) := by decide +kernel
theorem dX7_peel_41 : decode cX7_peel 41 = .ok (.if_icmp .eq 25, 3) := by decide +kernel
theorem dX7_peel_44 : decode cX7_peel 44 = .ok (.iload_n 3, 1) := by decide +kernel
theorem dX7_peel_45 : decode cX7_peel 45 = .ok (.iconst 1, 1) := by decide +kernel
theorem dX7_peel_46 : decode cX7_peel 46 = .ok (.iload 5, 2) := by decide +kernel
theorem dX7_peel_48 : decode cX7_peel 48 = .ok (.ishl, 1) := by decide +kernel
theorem dX7_peel_49 : decode cX7_peel 49 = .ok (.ixor, 1) := by decide +kernel
theorem dX7_peel_50 : decode cX7_peel 50 = .ok (.istore_n 3, 1) := by decide +kernel
theorem dX7_peel_51 : decode cX7_peel 51 = .ok (.iload 4, 2) := by decide +kernel
theorem dX7_peel_53 : decode cX7_peel 53 = .ok (.aload_n 0, 1) := by decide +kernel
theorem dX7_peel_54 : decode cX7_peel 54 = .ok (.getfield 7, 3) := by decide +kernel
theorem dX7_peel_57 : decode cX7_peel 57 = .ok (.bipush 86, 2) := by decide +kernel
theorem dX7_peel_59 : decode cX7_peel 59 = .ok (.iload 5, 2) := by decide +kernel
theorem dX7_peel_61 : decode cX7_peel 61 = .ok (.iadd, 1) := by decide +kernel
theorem dX7_peel_62 : decode cX7_peel 62 = .ok (.iaload, 1) := by decide +kernel
theorem dX7_peel_63 : decode cX7_peel 63 = .ok (.ixor, 1) := by decide +kernel
theorem dX7_peel_64 : decode cX7_peel 64 = .ok (.istore 4, 2) := by decide +kernel
theorem dX7_peel_66 : decode cX7_peel 66 = .ok (.iinc 5 1, 3) := by decide +kernel
theorem dX7_peel_69 : decode cX7_peel 69 = .ok (.goto (-61), 3) := by decide +kernel
theorem dX7_peel_72 : decode cX7_peel 72 = .ok (.iload_n 3, 1) := by decide +kernel
theorem dX7_peel_73 : decode cX7_peel 73 = .ok (.invokestatic 92, 3) := by decide +kernel
theorem dX7_peel_76 : decode cX7_peel 76 = .ok (.iconst 1, 1) := by decide +kernel
theorem dX7_peel_77 : decode cX7_peel 77 = .ok (.if_icmp .le 31, 3) := by decide +kernel
theorem dX7_peel_80 : decode cX7_peel 80 = .ok (.aload_n 0, 1) := by decide +kernel
theorem dX7_peel_81 : decode cX7_peel 81 = .ok (.bipush 122, 2) := by decide +kernel
theorem dX7_peel_83 : decode cX7_peel 83 = .ok (.iload_n 3, 1) := by decide +kernel
theorem dX7_peel_84 : decode cX7_peel 84 = .ok (.iload 4, 2) := by decide +kernel
theorem dX7_peel_86 : decode cX7_peel 86 = .ok (.invokevirtual 88, 3) := by decide +kernel
theorem dX7_peel_89 : decode cX7_peel 89 = .ok (.aload_n 0, 1) := by decide +kernel
theorem dX7_peel_90 : decode cX7_peel 90 = .ok (.getfield 7, 3) := by decide +kernel
theorem dX7_peel_93 : decode cX7_peel 93 = .ok (.bipush 122, 2) := by decide +kernel
theorem dX7_peel_95 : decode cX7_peel 95 = .ok (.iaload, 1) := by decide +kernel
theorem dX7_peel_96 : decode cX7_peel 96 = .ok (.bipush 20, 2) := by decide +kernel
theorem dX7_peel_98 : decode cX7_peel 98 = .ok (.if_icmp .le 10, 3) := by decide +kernel
theorem dX7_peel_101 : decode cX7_peel 101 = .ok (.aload_n 0, 1) := by decide +kernel
theorem dX7_peel_102 : decode cX7_peel 102 = .ok (.bipush 122, 2) := by decide +kernel
theorem dX7_peel_104 : decode cX7_peel 104 = .ok (.iconst 0, 1) := by decide +kernel
theorem dX7_peel_105 : decode cX7_peel 105 = .ok (.invokevirtual 85, 3) := by decide +kernel
theorem dX7_peel_108 : decode cX7_peel 108 = .ok (.iload_n 3, 1) := by decide +kernel
theorem dX7_peel_109 : decode cX7_peel 109 = .ok (.invokestatic 92, 3) := by decide +kernel
theorem dX7_peel_112 : decode cX7_peel 112 = .ok (.iconst 1, 1) := by decide +kernel
theorem dX7_peel_113 : decode cX7_peel 113 = .ok (.if_icmp .ne 84, 3) := by decide +kernel
theorem dX7_peel_116 : decode cX7_peel 116 = .ok (.aload_n 0, 1) := by decide +kernel
theorem dX7_peel_117 : decode cX7_peel 117 = .ok (.iload_n 3, 1) := by decide +kernel
theorem dX7_peel_118 : decode cX7_peel 118 = .ok (.invokestatic 102, 3) := by decide +kernel
theorem dX7_peel_121 : decode cX7_peel 121 = .ok (.iload 4, 2) := by decide +kernel
theorem dX7_peel_123 : decode cX7_peel 123 = .ok (.invokevirtual 105, 3) := by decide +kernel
theorem dX7_peel_126 : decode cX7_peel 126 = .ok (.aload_n 0, 1) := by decide +kernel
theorem dX7_peel_127 : decode cX7_peel 127 = .ok (.invokevirtual 108, 3) := by decide +kernel
theorem dX7_peel_130 : decode cX7_peel 130 = .ok (.istore 5, 2) := by decide +kernel
theorem dX7_peel_132 : decode cX7_peel 132 = .ok (.iload 5, 2) := by decide +kernel
theorem dX7_peel_134 : decode cX7_peel 134 = .ok (.bipush (-9), 2) := by decide +kernel
theorem dX7_peel_136 : decode cX7_peel 136 = .ok (.if_icmp .eq 61, 3) := by decide +kernel
theorem dX7_peel_139 : decode cX7_peel 139 = .ok (.aload_n 0, 1) := by decide +kernel
theorem dX7_peel_140 : decode cX7_peel 140 = .ok (.getfield 7, 3) := by decide +kernel
theorem dX7_peel_143 : decode cX7_peel 143 = .ok (.bipush 122, 2) := by decide +kernel
theorem dX7_peel_145 : decode cX7_peel 145 = .ok (.iload 5, 2) := by decide +kernel
theorem dX7_peel_147 : decode cX7_peel 147 = .ok (.invokestatic 42, 3) := by decide +kernel
theorem dX7_peel_150 : decode cX7_peel 150 = .ok (.iaload, 1) := by decide +kernel
theorem dX7_peel_151 : decode cX7_peel 151 = .ok (.istore 6, 2) := by decide +kernel
theorem dX7_peel_153 : decode cX7_peel 153 = .ok (.aload_n 0, 1) := by decide +kernel
theorem dX7_peel_154 : decode cX7_peel 154 = .ok (.getfield 7, 3) := by decide +kernel
theorem dX7_peel_157 : decode cX7_peel 157 = .ok (.bipush 122, 2) := by decide +kernel
theorem dX7_peel_159 : decode cX7_peel 159 = .ok (.iload 5, 2) := by decide +kernel
theorem dX7_peel_161 : decode cX7_peel 161 = .ok (.invokestatic 42, 3) := by decide +kernel
theorem dX7_peel_164 : decode cX7_peel 164 = .ok (.iconst 1, 1) := by decide +kernel
theorem dX7_peel_165 : decode cX7_peel 165 = .ok (.iadd, 1) := by decide +kernel
theorem dX7_peel_166 : decode cX7_peel 166 = .ok (.iaload, 1) := by decide +kernel
theorem dX7_peel_167 : decode cX7_peel 167 = .ok (.istore 7, 2) := by decide +kernel
theorem dX7_peel_169 : decode cX7_peel 169 = .ok (.aload_n 0, 1) := by decide +kernel
theorem dX7_peel_170 : decode cX7_peel 170 = .ok (.bipush 122, 2) := by decide +kernel
theorem dX7_peel_172 : decode cX7_peel 172 = .ok (.iload 5, 2) := by decide +kernel
theorem dX7_peel_174 : decode cX7_peel 174 = .ok (.invokevirtual 85, 3) := by decide +kernel
theorem dX7_peel_177 : decode cX7_peel 177 = .ok (.aload_n 0, 1) := by decide +kernel
theorem dX7_peel_178 : decode cX7_peel 178 = .ok (.iload 6, 2) := by decide +kernel
theorem dX7_peel_180 : decode cX7_peel 180 = .ok (.invokestatic 102, 3) := by decide +kernel
theorem dX7_peel_183 : decode cX7_peel 183 = .ok (.iload 7, 2) := by decide +kernel
theorem dX7_peel_185 : decode cX7_peel 185 = .ok (.invokevirtual 105, 3) := by decide +kernel
theorem dX7_peel_188 : decode cX7_peel 188 = .ok (.aload_n 0, 1) := by decide +kernel
theorem dX7_peel_189 : decode cX7_peel 189 = .ok (.invokevirtual 108, 3) := by decide +kernel
theorem dX7_peel_192 : decode cX7_peel 192 = .ok (.istore 5, 2) := by decide +kernel
theorem dX7_peel_194 : decode cX7_peel 194 = .ok (.goto (-62), 3) := by decide +kernel
theorem dX7_peel_197 : decode cX7_peel 197 = .ok (.return_, 1) := by decide +kernel
theorem dX7_solved_0 : decode cX7_solved 0 = .ok (.aload_n 0, 1) := by decide +kernel
theorem dX7_solved_1 : decode cX7_solved 1 = .ok (.iconst 1, 1) := by decide +kernel
theorem dX7_solved_2 : decode cX7_solved 2 = .ok (.iload_n 1, 1) := by decide +kernel
theorem dX7_solved_3 : decode cX7_solved 3 = .ok (.ishl, 1) := by decide +kernel
theorem dX7_solved_4 : decode cX7_solved 4 = .ok (.iconst 0, 1) := by decide +kernel
theorem dX7_solved_5 : decode cX7_solved 5 = .ok (.invokevirtual 52, 3) := by decide +kernel
theorem dX7_solved_8 : decode cX7_solved 8 = .ok (.aload_n 0, 1) := by decide +kernel
theorem dX7_solved_9 : decode cX7_solved 9 = .ok (.getfield 46, 3) := by decide +kernel
theorem dX7_solved_12 : decode cX7_solved 12 = .ok (.ifCond .ne 10, 3) := by decide +kernel
theorem dX7_solved_15 : decode cX7_solved 15 = .ok (.aload_n 0, 1) := by decide +kernel
theorem dX7_solved_16 : decode cX7_solved 16 = .ok (.getfield 49, 3) := by decide +kernel
theorem dX7_solved_19 : decode cX7_solved 19 = .ok (.goto 5, 3) := by decide +kernel
theorem dX7_solved_22 : decode cX7_solved 22 = .ok (.bipush (-9), 2) := by decide +kernel
theorem dX7_solved_24 : decode cX7_solved 24 = .ok (.ireturn, 1) := by decide +kernel
theorem dX7_arriveAtReceiver_0 : decode cX7_arriveAtReceiver 0 = .ok (.aload_n 0, 1) := by decide +kernel
theorem dX7_arriveAtReceiver_1 : decode cX7_arriveAtReceiver 1 = .ok (.getfield 7, 3) := by decide +kernel
theorem dX7_arriveAtReceiver_4 : decode cX7_arriveAtReceiver 4 = .ok (.bipush 31, 2) := by decide +kernel
theorem dX7_arriveAtReceiver_6 : decode cX7_arriveAtReceiver 6 = .ok (.dup2, 1) := by decide +kernel
theorem dX7_arriveAtReceiver_7 : decode cX7_arriveAtReceiver 7 = .ok (.iaload, 1) := by decide +kernel
theorem dX7_arriveAtReceiver_8 : decode cX7_arriveAtReceiver 8 = .ok (.iconst 1, 1) := by decide +kernel
theorem dX7_arriveAtReceiver_9 : decode cX7_arriveAtReceiver 9 = .ok (.iadd, 1) := by decide +kernel
theorem dX7_arriveAtReceiver_10 : decode cX7_arriveAtReceiver 10 = .ok (.iastore, 1) := by decide +kernel
theorem dX7_arriveAtReceiver_11 : decode cX7_arriveAtReceiver 11 = .ok (.aload_n 0, 1) := by decide +kernel
theorem dX7_arriveAtReceiver_12 : decode cX7_arriveAtReceiver 12 = .ok (.iload_n 1, 1) := by decide +kernel
theorem dX7_arriveAtReceiver_13 : decode cX7_arriveAtReceiver 13 = .ok (.iload_n 2, 1) := by decide +kernel
theorem dX7_arriveAtReceiver_14 : decode cX7_arriveAtReceiver 14 = .ok (.invokevirtual 111, 3) := by decide +kernel
theorem dX7_arriveAtReceiver_17 : decode cX7_arriveAtReceiver 17 = .ok (.aload_n 0, 1) := by decide +kernel
theorem dX7_arriveAtReceiver_18 : decode cX7_arriveAtReceiver 18 = .ok (.bipush 61, 2) := by decide +kernel
theorem dX7_arriveAtReceiver_20 : decode cX7_arriveAtReceiver 20 = .ok (.iload_n 1, 1) := by decide +kernel
theorem dX7_arriveAtReceiver_21 : decode cX7_arriveAtReceiver 21 = .ok (.invokevirtual 95, 3) := by decide +kernel
theorem dX7_arriveAtReceiver_24 : decode cX7_arriveAtReceiver 24 = .ok (.ifCond .ne 16, 3) := by decide +kernel
theorem dX7_arriveAtReceiver_27 : decode cX7_arriveAtReceiver 27 = .ok (.aload_n 0, 1) := by decide +kernel
theorem dX7_arriveAtReceiver_28 : decode cX7_arriveAtReceiver 28 = .ok (.getfield 7, 3) := by decide +kernel
theorem dX7_arriveAtReceiver_31 : decode cX7_arriveAtReceiver 31 = .ok (.bipush 32, 2) := by decide +kernel
