theorem dX7_arriveAtReceiver_33 : decode cX7_arriveAtReceiver 33 = .ok (.dup2, 1) := by decide +kernel
theorem dX7_arriveAtReceiver_34 : decode cX7_arriveAtReceiver 34 = .ok (.iaload, 1) := by decide +kernel
theorem dX7_arriveAtReceiver_35 : decode cX7_arriveAtReceiver 35 = .ok (.iconst 1, 1) := by decide +kernel
theorem dX7_arriveAtReceiver_36 : decode cX7_arriveAtReceiver 36 = .ok (.iadd, 1) := by decide +kernel
theorem dX7_arriveAtReceiver_37 : decode cX7_arriveAtReceiver 37 = .ok (.iastore, 1) := by decide +kernel
theorem dX7_arriveAtReceiver_38 : decode cX7_arriveAtReceiver 38 = .ok (.iconst 0, 1) := by decide +kernel
theorem dX7_arriveAtReceiver_39 : decode cX7_arriveAtReceiver 39 = .ok (.ireturn, 1) := by decide +kernel
theorem dX7_arriveAtReceiver_40 : decode cX7_arriveAtReceiver 40 = .ok (.aload_n 0, 1) := by decide +kernel
theorem dX7_arriveAtReceiver_41 : decode cX7_arriveAtReceiver 41 = .ok (.bipush 61, 2) := by decide +kernel
theorem dX7_arriveAtReceiver_43 : decode cX7_arriveAtReceiver 43 = .ok (.iload_n 1, 1) := by decide +kernel
theorem dX7_arriveAtReceiver_44 : decode cX7_arriveAtReceiver 44 = .ok (.iload_n 2, 1) := by decide +kernel
theorem dX7_arriveAtReceiver_45 : decode cX7_arriveAtReceiver 45 = .ok (.invokevirtual 88, 3) := by decide +kernel
theorem dX7_arriveAtReceiver_48 : decode cX7_arriveAtReceiver 48 = .ok (.aload_n 0, 1) := by decide +kernel
theorem dX7_arriveAtReceiver_49 : decode cX7_arriveAtReceiver 49 = .ok (.bipush 61, 2) := by decide +kernel
theorem dX7_arriveAtReceiver_51 : decode cX7_arriveAtReceiver 51 = .ok (.invokevirtual 59, 3) := by decide +kernel
theorem dX7_arriveAtReceiver_54 : decode cX7_arriveAtReceiver 54 = .ok (.istore_n 3, 1) := by decide +kernel
theorem dX7_arriveAtReceiver_55 : decode cX7_arriveAtReceiver 55 = .ok (.iconst 0, 1) := by decide +kernel
theorem dX7_arriveAtReceiver_56 : decode cX7_arriveAtReceiver 56 = .ok (.istore 4, 2) := by decide +kernel
theorem dX7_arriveAtReceiver_58 : decode cX7_arriveAtReceiver 58 = .ok (.iload 4, 2) := by decide +kernel
theorem dX7_arriveAtReceiver_60 : decode cX7_arriveAtReceiver 60 = .ok (.aload_n 0, 1) := by decide +kernel
theorem dX7_arriveAtReceiver_61 : decode cX7_arriveAtReceiver 61 = .ok (.getfield 7, 3) := by decide +kernel
theorem dX7_arriveAtReceiver_64 : decode cX7_arriveAtReceiver 64 = .ok (.iconst 0, 1) := by decide +kernel
theorem dX7_arriveAtReceiver_65 : decode cX7_arriveAtReceiver 65 = .ok (.iaload, 1) := by decide +kernel
theorem dX7_arriveAtReceiver_66 : decode cX7_arriveAtReceiver 66 = .ok (.if_icmp .ge 51, 3) := by decide +kernel
theorem dX7_arriveAtReceiver_69 : decode cX7_arriveAtReceiver 69 = .ok (.aload_n 0, 1) := by decide +kernel
theorem dX7_arriveAtReceiver_70 : decode cX7_arriveAtReceiver 70 = .ok (.getfield 7, 3) := by decide +kernel
theorem dX7_arriveAtReceiver_73 : decode cX7_arriveAtReceiver 73 = .ok (.bipush 110, 2) := by decide +kernel
theorem dX7_arriveAtReceiver_75 : decode cX7_arriveAtReceiver 75 = .ok (.iload 4, 2) := by decide +kernel
theorem dX7_arriveAtReceiver_77 : decode cX7_arriveAtReceiver 77 = .ok (.iadd, 1) := by decide +kernel
theorem dX7_arriveAtReceiver_78 : decode cX7_arriveAtReceiver 78 = .ok (.iaload, 1) := by decide +kernel
theorem dX7_arriveAtReceiver_79 : decode cX7_arriveAtReceiver 79 = .ok (.bipush (-9), 2) := by decide +kernel
theorem dX7_arriveAtReceiver_81 : decode cX7_arriveAtReceiver 81 = .ok (.if_icmp .ne 30, 3) := by decide +kernel
theorem dX7_arriveAtReceiver_84 : decode cX7_arriveAtReceiver 84 = .ok (.aload_n 0, 1) := by decide +kernel
theorem dX7_arriveAtReceiver_85 : decode cX7_arriveAtReceiver 85 = .ok (.iload 4, 2) := by decide +kernel
theorem dX7_arriveAtReceiver_87 : decode cX7_arriveAtReceiver 87 = .ok (.invokevirtual 114, 3) := by decide +kernel
theorem dX7_arriveAtReceiver_90 : decode cX7_arriveAtReceiver 90 = .ok (.bipush (-9), 2) := by decide +kernel
theorem dX7_arriveAtReceiver_92 : decode cX7_arriveAtReceiver 92 = .ok (.if_icmp .eq 19, 3) := by decide +kernel
theorem dX7_arriveAtReceiver_95 : decode cX7_arriveAtReceiver 95 = .ok (.aload_n 0, 1) := by decide +kernel
theorem dX7_arriveAtReceiver_96 : decode cX7_arriveAtReceiver 96 = .ok (.getfield 7, 3) := by decide +kernel
theorem dX7_arriveAtReceiver_99 : decode cX7_arriveAtReceiver 99 = .ok (.bipush 110, 2) := by decide +kernel
theorem dX7_arriveAtReceiver_101 : decode cX7_arriveAtReceiver 101 = .ok (.iload 4, 2) := by decide +kernel
theorem dX7_arriveAtReceiver_103 : decode cX7_arriveAtReceiver 103 = .ok (.iadd, 1) := by decide +kernel
theorem dX7_arriveAtReceiver_104 : decode cX7_arriveAtReceiver 104 = .ok (.aload_n 0, 1) := by decide +kernel
theorem dX7_arriveAtReceiver_105 : decode cX7_arriveAtReceiver 105 = .ok (.getfield 7, 3) := by decide +kernel
theorem dX7_arriveAtReceiver_108 : decode cX7_arriveAtReceiver 108 = .ok (.iconst 2, 1) := by decide +kernel
theorem dX7_arriveAtReceiver_109 : decode cX7_arriveAtReceiver 109 = .ok (.iaload, 1) := by decide +kernel
theorem dX7_arriveAtReceiver_110 : decode cX7_arriveAtReceiver 110 = .ok (.iastore, 1) := by decide +kernel
theorem dX7_arriveAtReceiver_111 : decode cX7_arriveAtReceiver 111 = .ok (.iinc 4 1, 3) := by decide +kernel
theorem dX7_arriveAtReceiver_114 : decode cX7_arriveAtReceiver 114 = .ok (.goto (-56), 3) := by decide +kernel
theorem dX7_arriveAtReceiver_117 : decode cX7_arriveAtReceiver 117 = .ok (.iconst 1, 1) := by decide +kernel
theorem dX7_arriveAtReceiver_118 : decode cX7_arriveAtReceiver 118 = .ok (.ireturn, 1) := by decide +kernel
theorem dX7_note_0 : decode cX7_note 0 = .ok (.aload_n 0, 1) := by decide +kernel
theorem dX7_note_1 : decode cX7_note 1 = .ok (.getfield 7, 3) := by decide +kernel
theorem dX7_note_4 : decode cX7_note 4 = .ok (.bipush 33, 2) := by decide +kernel
theorem dX7_note_6 : decode cX7_note 6 = .ok (.aload_n 0, 1) := by decide +kernel
theorem dX7_note_7 : decode cX7_note 7 = .ok (.getfield 7, 3) := by decide +kernel
theorem dX7_note_10 : decode cX7_note 10 = .ok (.bipush 122, 2) := by decide +kernel
theorem dX7_note_12 : decode cX7_note 12 = .ok (.iaload, 1) := by decide +kernel
theorem dX7_note_13 : decode cX7_note 13 = .ok (.aload_n 0, 1) := by decide +kernel
theorem dX7_note_14 : decode cX7_note 14 = .ok (.getfield 7, 3) := by decide +kernel
theorem dX7_note_17 : decode cX7_note 17 = .ok (.bipush 33, 2) := by decide +kernel
theorem dX7_note_19 : decode cX7_note 19 = .ok (.iaload, 1) := by decide +kernel
theorem dX7_note_20 : decode cX7_note 20 = .ok (.if_icmp .le 13, 3) := by decide +kernel
theorem dX7_note_23 : decode cX7_note 23 = .ok (.aload_n 0, 1) := by decide +kernel
theorem dX7_note_24 : decode cX7_note 24 = .ok (.getfield 7, 3) := by decide +kernel
theorem dX7_note_27 : decode cX7_note 27 = .ok (.bipush 122, 2) := by decide +kernel
theorem dX7_note_29 : decode cX7_note 29 = .ok (.iaload, 1) := by decide +kernel
theorem dX7_note_30 : decode cX7_note 30 = .ok (.goto 10, 3) := by decide +kernel
theorem dX7_note_33 : decode cX7_note 33 = .ok (.aload_n 0, 1) := by decide +kernel
theorem dX7_note_34 : decode cX7_note 34 = .ok (.getfield 7, 3) := by decide +kernel
theorem dX7_note_37 : decode cX7_note 37 = .ok (.bipush 33, 2) := by decide +kernel
theorem dX7_note_39 : decode cX7_note 39 = .ok (.iaload, 1) := by decide +kernel
theorem dX7_note_40 : decode cX7_note 40 = .ok (.iastore, 1) := by decide +kernel
theorem dX7_note_41 : decode cX7_note 41 = .ok (.return_, 1) := by decide +kernel
theorem dX7_tick_0 : decode cX7_tick 0 = .ok (.aload_n 0, 1) := by decide +kernel
theorem dX7_tick_1 : decode cX7_tick 1 = .ok (.getfield 7, 3) := by decide +kernel
theorem dX7_tick_4 : decode cX7_tick 4 = .ok (.iconst 2, 1) := by decide +kernel
theorem dX7_tick_5 : decode cX7_tick 5 = .ok (.dup2, 1) := by decide +kernel
theorem dX7_tick_6 : decode cX7_tick 6 = .ok (.iaload, 1) := by decide +kernel
theorem dX7_tick_7 : decode cX7_tick 7 = .ok (.iconst 1, 1) := by decide +kernel
theorem dX7_tick_8 : decode cX7_tick 8 = .ok (.iadd, 1) := by decide +kernel
theorem dX7_tick_9 : decode cX7_tick 9 = .ok (.iastore, 1) := by decide +kernel
theorem dX7_tick_10 : decode cX7_tick 10 = .ok (.iconst 0, 1) := by decide +kernel
theorem dX7_tick_11 : decode cX7_tick 11 = .ok (.istore_n 1, 1) := by decide +kernel
theorem dX7_tick_12 : decode cX7_tick 12 = .ok (.iload_n 1, 1) := by decide +kernel
theorem dX7_tick_13 : decode cX7_tick 13 = .ok (.aload_n 0, 1) := by decide +kernel
theorem dX7_tick_14 : decode cX7_tick 14 = .ok (.getfield 7, 3) := by decide +kernel
theorem dX7_tick_17 : decode cX7_tick 17 = .ok (.iconst 1, 1) := by decide +kernel
theorem dX7_tick_18 : decode cX7_tick 18 = .ok (.iaload, 1) := by decide +kernel
theorem dX7_tick_19 : decode cX7_tick 19 = .ok (.if_icmp .gt 106, 3) := by decide +kernel
theorem dX7_tick_22 : decode cX7_tick 22 = .ok (.iload_n 1, 1) := by decide +kernel
theorem dX7_tick_23 : decode cX7_tick 23 = .ok (.ifCond .ne 10, 3) := by decide +kernel
theorem dX7_tick_26 : decode cX7_tick 26 = .ok (.aload_n 0, 1) := by decide +kernel
theorem dX7_tick_27 : decode cX7_tick 27 = .ok (.invokevirtual 117, 3) := by decide +kernel
theorem dX7_tick_30 : decode cX7_tick 30 = .ok (.goto 11, 3) := by decide +kernel
theorem dX7_tick_33 : decode cX7_tick 33 = .ok (.aload_n 0, 1) := by decide +kernel
theorem dX7_tick_34 : decode cX7_tick 34 = .ok (.iload_n 1, 1) := by decide +kernel
theorem dX7_tick_35 : decode cX7_tick 35 = .ok (.invokestatic 120, 3) := by decide +kernel
theorem dX7_tick_38 : decode cX7_tick 38 = .ok (.invokevirtual 123, 3) := by decide +kernel
theorem dX7_tick_41 : decode cX7_tick 41 = .ok (.aload_n 0, 1) := by decide +kernel
theorem dX7_tick_42 : decode cX7_tick 42 = .ok (.getfield 76, 3) := by decide +kernel
theorem dX7_tick_45 : decode cX7_tick 45 = .ok (.ifCond .eq 25, 3) := by decide +kernel
theorem dX7_tick_48 : decode cX7_tick 48 = .ok (.aload_n 0, 1) := by decide +kernel
theorem dX7_tick_49 : decode cX7_tick 49 = .ok (.bipush 100, 2) := by decide +kernel
theorem dX7_tick_51 : decode cX7_tick 51 = .ok (.invokevirtual 73, 3) := by decide +kernel
theorem dX7_tick_54 : decode cX7_tick 54 = .ok (.aload_n 0, 1) := by decide +kernel
theorem dX7_tick_55 : decode cX7_tick 55 = .ok (.getfield 7, 3) := by decide +kernel
theorem dX7_tick_58 : decode cX7_tick 58 = .ok (.bipush 7, 2) := by decide +kernel
theorem dX7_tick_60 : decode cX7_tick 60 = .ok (.iload_n 1, 1) := by decide +kernel
theorem dX7_tick_61 : decode cX7_tick 61 = .ok (.iadd, 1) := by decide +kernel
theorem dX7_tick_62 : decode cX7_tick 62 = .ok (.iaload, 1) := by decide +kernel
theorem dX7_tick_63 : decode cX7_tick 63 = .ok (.if_icmp .ge 7, 3) := by decide +kernel
theorem dX7_tick_66 : decode cX7_tick 66 = .ok (.iconst 1, 1) := by decide +kernel
theorem dX7_tick_67 : decode cX7_tick 67 = .ok (.goto 4, 3) := by decide +kernel
theorem dX7_tick_70 : decode cX7_tick 70 = .ok (.iconst 0, 1) := by decide +kernel
theorem dX7_tick_71 : decode cX7_tick 71 = .ok (.istore_n 2, 1) := by decide +kernel
theorem dX7_tick_72 : decode cX7_tick 72 = .ok (.aload_n 0, 1) := by decide +kernel
theorem dX7_tick_73 : decode cX7_tick 73 = .ok (.getfield 7, 3) := by decide +kernel
theorem dX7_tick_76 : decode cX7_tick 76 = .ok (.bipush 30, 2) := by decide +kernel
theorem dX7_tick_78 : decode cX7_tick 78 = .ok (.dup2, 1) := by decide +kernel
theorem dX7_tick_79 : decode cX7_tick 79 = .ok (.iaload, 1) := by decide +kernel
theorem dX7_tick_80 : decode cX7_tick 80 = .ok (.iload_n 2, 1) := by decide +kernel
theorem dX7_tick_81 : decode cX7_tick 81 = .ok (.ifCond .eq 7, 3) := by decide +kernel
theorem dX7_tick_84 : decode cX7_tick 84 = .ok (.iconst 1, 1) := by decide +kernel
theorem dX7_tick_85 : decode cX7_tick 85 = .ok (.goto 4, 3) := by decide +kernel
theorem dX7_tick_88 : decode cX7_tick 88 = .ok (.iconst 0, 1) := by decide +kernel
theorem dX7_tick_89 : decode cX7_tick 89 = .ok (.iadd, 1) := by decide +kernel
theorem dX7_tick_90 : decode cX7_tick 90 = .ok (.iastore, 1) := by decide +kernel
theorem dX7_tick_91 : decode cX7_tick 91 = .ok (.aload_n 0, 1) := by decide +kernel
theorem dX7_tick_92 : decode cX7_tick 92 = .ok (.getfield 25, 3) := by decide +kernel
theorem dX7_tick_95 : decode cX7_tick 95 = .ok (.iload_n 1, 1) := by decide +kernel
theorem dX7_tick_96 : decode cX7_tick 96 = .ok (.iload_n 2, 1) := by decide +kernel
theorem dX7_tick_97 : decode cX7_tick 97 = .ok (.ifCond .eq 7, 3) := by decide +kernel
theorem dX7_tick_100 : decode cX7_tick 100 = .ok (.iconst 0, 1) := by decide +kernel
theorem dX7_tick_101 : decode cX7_tick 101 = .ok (.goto 7, 3) := by decide +kernel
theorem dX7_tick_104 : decode cX7_tick 104 = .ok (.aload_n 0, 1) := by decide +kernel
theorem dX7_tick_105 : decode cX7_tick 105 = .ok (.getfield 76, 3) := by decide +kernel
theorem dX7_tick_108 : decode cX7_tick 108 = .ok (.iastore, 1) := by decide +kernel
theorem dX7_tick_109 : decode cX7_tick 109 = .ok (.aload_n 0, 1) := by decide +kernel
theorem dX7_tick_110 : decode cX7_tick 110 = .ok (.getfield 28, 3) := by decide +kernel
theorem dX7_tick_113 : decode cX7_tick 113 = .ok (.iload_n 1, 1) := by decide +kernel
theorem dX7_tick_114 : decode cX7_tick 114 = .ok (.aload_n 0, 1) := by decide +kernel
theorem dX7_tick_115 : decode cX7_tick 115 = .ok (.getfield 82, 3) := by decide +kernel
theorem dX7_tick_118 : decode cX7_tick 118 = .ok (.iastore, 1) := by decide +kernel
theorem dX7_tick_119 : decode cX7_tick 119 = .ok (.iinc 1 1, 3) := by decide +kernel
theorem dX7_tick_122 : decode cX7_tick 122 = .ok (.goto (-110), 3) := by decide +kernel
theorem dX7_tick_125 : decode cX7_tick 125 = .ok (.iconst 0, 1) := by decide +kernel
theorem dX7_tick_126 : decode cX7_tick 126 = .ok (.istore_n 1, 1) := by decide +kernel
theorem dX7_tick_127 : decode cX7_tick 127 = .ok (.iload_n 1, 1) := by decide +kernel
theorem dX7_tick_128 : decode cX7_tick 128 = .ok (.aload_n 0, 1) := by decide +kernel
theorem dX7_tick_129 : decode cX7_tick 129 = .ok (.getfield 7, 3) := by decide +kernel
theorem dX7_tick_132 : decode cX7_tick 132 = .ok (.iconst 1, 1) := by decide +kernel
theorem dX7_tick_133 : decode cX7_tick 133 = .ok (.iaload, 1) := by decide +kernel
theorem dX7_tick_134 : decode cX7_tick 134 = .ok (.if_icmp .gt 86, 3) := by decide +kernel
theorem dX7_tick_137 : decode cX7_tick 137 = .ok (.aload_n 0, 1) := by decide +kernel
theorem dX7_tick_138 : decode cX7_tick 138 = .ok (.getfield 25, 3) := by decide +kernel
theorem dX7_tick_141 : decode cX7_tick 141 = .ok (.iload_n 1, 1) := by decide +kernel
theorem dX7_tick_142 : decode cX7_tick 142 = .ok (.iaload, 1) := by decide +kernel
theorem dX7_tick_143 : decode cX7_tick 143 = .ok (.ifCond .eq 35, 3) := by decide +kernel
theorem dX7_tick_146 : decode cX7_tick 146 = .ok (.iload_n 1, 1) := by decide +kernel
theorem dX7_tick_147 : decode cX7_tick 147 = .ok (.aload_n 0, 1) := by decide +kernel
theorem dX7_tick_148 : decode cX7_tick 148 = .ok (.getfield 7, 3) := by decide +kernel
theorem dX7_tick_151 : decode cX7_tick 151 = .ok (.iconst 1, 1) := by decide +kernel
theorem dX7_tick_152 : decode cX7_tick 152 = .ok (.iaload, 1) := by decide +kernel
theorem dX7_tick_153 : decode cX7_tick 153 = .ok (.if_icmp .ge 25, 3) := by decide +kernel
theorem dX7_tick_156 : decode cX7_tick 156 = .ok (.aload_n 0, 1) := by decide +kernel
theorem dX7_tick_157 : decode cX7_tick 157 = .ok (.iload_n 1, 1) := by decide +kernel
theorem dX7_tick_158 : decode cX7_tick 158 = .ok (.iconst 1, 1) := by decide +kernel
theorem dX7_tick_159 : decode cX7_tick 159 = .ok (.iadd, 1) := by decide +kernel
theorem dX7_tick_160 : decode cX7_tick 160 = .ok (.invokestatic 120, 3) := by decide +kernel
theorem dX7_tick_163 : decode cX7_tick 163 = .ok (.aload_n 0, 1) := by decide +kernel
theorem dX7_tick_164 : decode cX7_tick 164 = .ok (.getfield 25, 3) := by decide +kernel
theorem dX7_tick_167 : decode cX7_tick 167 = .ok (.iload_n 1, 1) := by decide +kernel
theorem dX7_tick_168 : decode cX7_tick 168 = .ok (.iaload, 1) := by decide +kernel
theorem dX7_tick_169 : decode cX7_tick 169 = .ok (.aload_n 0, 1) := by decide +kernel
theorem dX7_tick_170 : decode cX7_tick 170 = .ok (.getfield 28, 3) := by decide +kernel
theorem dX7_tick_173 : decode cX7_tick 173 = .ok (.iload_n 1, 1) := by decide +kernel
theorem dX7_tick_174 : decode cX7_tick 174 = .ok (.iaload, 1) := by decide +kernel
theorem dX7_tick_175 : decode cX7_tick 175 = .ok (.invokevirtual 127, 3) := by decide +kernel
theorem dX7_tick_178 : decode cX7_tick 178 = .ok (.aload_n 0, 1) := by decide +kernel
theorem dX7_tick_179 : decode cX7_tick 179 = .ok (.getfield 25, 3) := by decide +kernel
theorem dX7_tick_182 : decode cX7_tick 182 = .ok (.iload_n 1, 1) := by decide +kernel
theorem dX7_tick_183 : decode cX7_tick 183 = .ok (.iaload, 1) := by decide +kernel
theorem dX7_tick_184 : decode cX7_tick 184 = .ok (.ifCond .eq 30, 3) := by decide +kernel
theorem dX7_tick_187 : decode cX7_tick 187 = .ok (.iload_n 1, 1) := by decide +kernel
theorem dX7_tick_188 : decode cX7_tick 188 = .ok (.aload_n 0, 1) := by decide +kernel
theorem dX7_tick_189 : decode cX7_tick 189 = .ok (.getfield 7, 3) := by decide +kernel
theorem dX7_tick_192 : decode cX7_tick 192 = .ok (.iconst 1, 1) := by decide +kernel
theorem dX7_tick_193 : decode cX7_tick 193 = .ok (.iaload, 1) := by decide +kernel
theorem dX7_tick_194 : decode cX7_tick 194 = .ok (.if_icmp .ne 20, 3) := by decide +kernel
theorem dX7_tick_197 : decode cX7_tick 197 = .ok (.aload_n 0, 1) := by decide +kernel
theorem dX7_tick_198 : decode cX7_tick 198 = .ok (.aload_n 0, 1) := by decide +kernel
theorem dX7_tick_199 : decode cX7_tick 199 = .ok (.getfield 25, 3) := by decide +kernel
theorem dX7_tick_202 : decode cX7_tick 202 = .ok (.iload_n 1, 1) := by decide +kernel
theorem dX7_tick_203 : decode cX7_tick 203 = .ok (.iaload, 1) := by decide +kernel
theorem dX7_tick_204 : decode cX7_tick 204 = .ok (.aload_n 0, 1) := by decide +kernel
theorem dX7_tick_205 : decode cX7_tick 205 = .ok (.getfield 28, 3) := by decide +kernel
theorem dX7_tick_208 : decode cX7_tick 208 = .ok (.iload_n 1, 1) := by decide +kernel
theorem dX7_tick_209 : decode cX7_tick 209 = .ok (.iaload, 1) := by decide +kernel
theorem dX7_tick_210 : decode cX7_tick 210 = .ok (.invokevirtual 130, 3) := by decide +kernel
theorem dX7_tick_213 : decode cX7_tick 213 = .ok (.istore_n 2, 1) := by decide +kernel
theorem dX7_tick_214 : decode cX7_tick 214 = .ok (.iinc 1 1, 3) := by decide +kernel
theorem dX7_tick_217 : decode cX7_tick 217 = .ok (.goto (-90), 3) := by decide +kernel
theorem dX7_tick_220 : decode cX7_tick 220 = .ok (.aload_n 0, 1) := by decide +kernel
theorem dX7_tick_221 : decode cX7_tick 221 = .ok (.invokevirtual 133, 3) := by decide +kernel
theorem dX7_tick_224 : decode cX7_tick 224 = .ok (.return_, 1) := by decide +kernel
theorem dX7_begin_0 : decode cX7_begin 0 = .ok (.iload_n 1, 1) := by decide +kernel
theorem dX7_begin_1 : decode cX7_begin 1 = .ok (.iconst 2, 1) := by decide +kernel
theorem dX7_begin_2 : decode cX7_begin 2 = .ok (.bipush 12, 2) := by decide +kernel
theorem dX7_begin_4 : decode cX7_begin 4 = .ok (.invokestatic 136, 3) := by decide +kernel
theorem dX7_begin_7 : decode cX7_begin 7 = .ok (.ifCond .eq 12, 3) := by decide +kernel
theorem dX7_begin_10 : decode cX7_begin 10 = .ok (.iload_n 2, 1) := by decide +kernel
theorem dX7_begin_11 : decode cX7_begin 11 = .ok (.iconst 0, 1) := by decide +kernel
theorem dX7_begin_12 : decode cX7_begin 12 = .ok (.iconst 3, 1) := by decide +kernel
theorem dX7_begin_13 : decode cX7_begin 13 = .ok (.invokestatic 136, 3) := by decide +kernel
theorem dX7_begin_16 : decode cX7_begin 16 = .ok (.ifCond .ne 5, 3) := by decide +kernel
theorem dX7_begin_19 : decode cX7_begin 19 = .ok (.iconst (-1), 1) := by decide +kernel
theorem dX7_begin_20 : decode cX7_begin 20 = .ok (.ireturn, 1) := by decide +kernel
theorem dX7_begin_21 : decode cX7_begin 21 = .ok (.aload_n 0, 1) := by decide +kernel
theorem dX7_begin_22 : decode cX7_begin 22 = .ok (.invokevirtual 140, 3) := by decide +kernel
theorem dX7_begin_25 : decode cX7_begin 25 = .ok (.aload_n 0, 1) := by decide +kernel
theorem dX7_begin_26 : decode cX7_begin 26 = .ok (.getfield 7, 3) := by decide +kernel
theorem dX7_begin_29 : decode cX7_begin 29 = .ok (.iconst 2, 1) := by decide +kernel
theorem dX7_begin_30 : decode cX7_begin 30 = .ok (.iaload, 1) := by decide +kernel
theorem dX7_begin_31 : decode cX7_begin 31 = .ok (.istore_n 3, 1) := by decide +kernel
theorem dX7_begin_32 : decode cX7_begin 32 = .ok (.aload_n 0, 1) := by decide +kernel
theorem dX7_begin_33 : decode cX7_begin 33 = .ok (.iload_n 1, 1) := by decide +kernel
theorem dX7_begin_34 : decode cX7_begin 34 = .ok (.iload_n 2, 1) := by decide +kernel
theorem dX7_begin_35 : decode cX7_begin 35 = .ok (.invokevirtual 34, 3) := by decide +kernel
theorem dX7_begin_38 : decode cX7_begin 38 = .ok (.iload_n 3, 1) := by decide +kernel
theorem dX7_begin_39 : decode cX7_begin 39 = .ok (.ireturn, 1) := by decide +kernel
theorem dX7_isBlock_0 : decode cX7_isBlock 0 = .ok (.iload_n 1, 1) := by decide +kernel
theorem dX7_isBlock_1 : decode cX7_isBlock 1 = .ok (.iconst 0, 1) := by decide +kernel
theorem dX7_isBlock_2 : decode cX7_isBlock 2 = .ok (.aload_n 0, 1) := by decide +kernel
theorem dX7_isBlock_3 : decode cX7_isBlock 3 = .ok (.getfield 7, 3) := by decide +kernel
theorem dX7_isBlock_6 : decode cX7_isBlock 6 = .ok (.iconst 0, 1) := by decide +kernel
theorem dX7_isBlock_7 : decode cX7_isBlock 7 = .ok (.iaload, 1) := by decide +kernel
theorem dX7_isBlock_8 : decode cX7_isBlock 8 = .ok (.iconst 1, 1) := by decide +kernel
theorem dX7_isBlock_9 : decode cX7_isBlock 9 = .ok (.isub, 1) := by decide +kernel
theorem dX7_isBlock_10 : decode cX7_isBlock 10 = .ok (.invokestatic 136, 3) := by decide +kernel
theorem dX7_isBlock_13 : decode cX7_isBlock 13 = .ok (.ireturn, 1) := by decide +kernel
theorem dX7_put_0 : decode cX7_put 0 = .ok (.aload_n 0, 1) := by decide +kernel
theorem dX7_put_1 : decode cX7_put 1 = .ok (.invokevirtual 140, 3) := by decide +kernel
theorem dX7_put_4 : decode cX7_put 4 = .ok (.aload_n 0, 1) := by decide +kernel
theorem dX7_put_5 : decode cX7_put 5 = .ok (.getfield 7, 3) := by decide +kernel
theorem dX7_put_8 : decode cX7_put 8 = .ok (.iload_n 1, 1) := by decide +kernel
theorem dX7_put_9 : decode cX7_put 9 = .ok (.iaload, 1) := by decide +kernel
theorem dX7_put_10 : decode cX7_put 10 = .ok (.istore_n 3, 1) := by decide +kernel
theorem dX7_put_11 : decode cX7_put 11 = .ok (.aload_n 0, 1) := by decide +kernel
theorem dX7_put_12 : decode cX7_put 12 = .ok (.getfield 7, 3) := by decide +kernel
theorem dX7_put_15 : decode cX7_put 15 = .ok (.iload_n 1, 1) := by decide +kernel
theorem dX7_put_16 : decode cX7_put 16 = .ok (.iload_n 2, 1) := by decide +kernel
theorem dX7_put_17 : decode cX7_put 17 = .ok (.iastore, 1) := by decide +kernel
theorem dX7_put_18 : decode cX7_put 18 = .ok (.iload_n 3, 1) := by decide +kernel
theorem dX7_put_19 : decode cX7_put 19 = .ok (.ireturn, 1) := by decide +kernel
theorem dX7_setBlock_0 : decode cX7_setBlock 0 = .ok (.aload_n 0, 1) := by decide +kernel
theorem dX7_setBlock_1 : decode cX7_setBlock 1 = .ok (.iload_n 1, 1) := by decide +kernel
theorem dX7_setBlock_2 : decode cX7_setBlock 2 = .ok (.invokevirtual 143, 3) := by decide +kernel
theorem dX7_setBlock_5 : decode cX7_setBlock 5 = .ok (.ifCond .eq 14, 3) := by decide +kernel
theorem dX7_setBlock_8 : decode cX7_setBlock 8 = .ok (.iload_n 2, 1) := by decide +kernel
theorem dX7_setBlock_9 : decode cX7_setBlock 9 = .ok (.iconst 0, 1) := by decide +kernel
theorem dX7_setBlock_10 : decode cX7_setBlock 10 = .ok (.sipush 255, 3) := by decide +kernel
theorem dX7_setBlock_13 : decode cX7_setBlock 13 = .ok (.invokestatic 136, 3) := by decide +kernel
theorem dX7_setBlock_16 : decode cX7_setBlock 16 = .ok (.ifCond .ne 5, 3) := by decide +kernel
theorem dX7_setBlock_19 : decode cX7_setBlock 19 = .ok (.iconst (-1), 1) := by decide +kernel
theorem dX7_setBlock_20 : decode cX7_setBlock 20 = .ok (.ireturn, 1) := by decide +kernel
theorem dX7_setBlock_21 : decode cX7_setBlock 21 = .ok (.aload_n 0, 1) := by decide +kernel
theorem dX7_setBlock_22 : decode cX7_setBlock 22 = .ok (.getfield 7, 3) := by decide +kernel
theorem dX7_setBlock_25 : decode cX7_setBlock 25 = .ok (.iconst 2, 1) := by decide +kernel
theorem dX7_setBlock_26 : decode cX7_setBlock 26 = .ok (.iaload, 1) := by decide +kernel
theorem dX7_setBlock_27 : decode cX7_setBlock 27 = .ok (.ifCond .gt 13, 3) := by decide +kernel
theorem dX7_setBlock_30 : decode cX7_setBlock 30 = .ok (.aload_n 0, 1) := by decide +kernel
theorem dX7_setBlock_31 : decode cX7_setBlock 31 = .ok (.getfield 7, 3) := by decide +kernel
theorem dX7_setBlock_34 : decode cX7_setBlock 34 = .ok (.bipush 31, 2) := by decide +kernel
theorem dX7_setBlock_36 : decode cX7_setBlock 36 = .ok (.iaload, 1) := by decide +kernel
theorem dX7_setBlock_37 : decode cX7_setBlock 37 = .ok (.ifCond .le 8, 3) := by decide +kernel
theorem dX7_setBlock_40 : decode cX7_setBlock 40 = .ok (.bipush (-2), 2) := by decide +kernel
theorem dX7_setBlock_42 : decode cX7_setBlock 42 = .ok (.goto 12, 3) := by decide +kernel
theorem dX7_setBlock_45 : decode cX7_setBlock 45 = .ok (.aload_n 0, 1) := by decide +kernel
theorem dX7_setBlock_46 : decode cX7_setBlock 46 = .ok (.bipush 17, 2) := by decide +kernel
theorem dX7_setBlock_48 : decode cX7_setBlock 48 = .ok (.iload_n 1, 1) := by decide +kernel
theorem dX7_setBlock_49 : decode cX7_setBlock 49 = .ok (.iadd, 1) := by decide +kernel
theorem dX7_setBlock_50 : decode cX7_setBlock 50 = .ok (.iload_n 2, 1) := by decide +kernel
theorem dX7_setBlock_51 : decode cX7_setBlock 51 = .ok (.invokevirtual 147, 3) := by decide +kernel
theorem dX7_setBlock_54 : decode cX7_setBlock 54 = .ok (.ireturn, 1) := by decide +kernel
theorem dX7_setLoss_0 : decode cX7_setLoss 0 = .ok (.iload_n 1, 1) := by decide +kernel
theorem dX7_setLoss_1 : decode cX7_setLoss 1 = .ok (.iconst 0, 1) := by decide +kernel
theorem dX7_setLoss_2 : decode cX7_setLoss 2 = .ok (.aload_n 0, 1) := by decide +kernel
theorem dX7_setLoss_3 : decode cX7_setLoss 3 = .ok (.getfield 7, 3) := by decide +kernel
theorem dX7_setLoss_6 : decode cX7_setLoss 6 = .ok (.iconst 1, 1) := by decide +kernel
theorem dX7_setLoss_7 : decode cX7_setLoss 7 = .ok (.iaload, 1) := by decide +kernel
theorem dX7_setLoss_8 : decode cX7_setLoss 8 = .ok (.invokestatic 136, 3) := by decide +kernel
theorem dX7_setLoss_11 : decode cX7_setLoss 11 = .ok (.ifCond .eq 25, 3) := by decide +kernel
theorem dX7_setLoss_14 : decode cX7_setLoss 14 = .ok (.iload_n 2, 1) := by decide +kernel
theorem dX7_setLoss_15 : decode cX7_setLoss 15 = .ok (.iconst 0, 1) := by decide +kernel
theorem dX7_setLoss_16 : decode cX7_setLoss 16 = .ok (.bipush 99, 2) := by decide +kernel
theorem dX7_setLoss_18 : decode cX7_setLoss 18 = .ok (.invokestatic 136, 3) := by decide +kernel
theorem dX7_setLoss_21 : decode cX7_setLoss 21 = .ok (.ifCond .eq 15, 3) := by decide +kernel
theorem dX7_setLoss_24 : decode cX7_setLoss 24 = .ok (.aload_n 0, 1) := by decide +kernel
theorem dX7_setLoss_25 : decode cX7_setLoss 25 = .ok (.bipush 7, 2) := by decide +kernel
theorem dX7_setLoss_27 : decode cX7_setLoss 27 = .ok (.iload_n 1, 1) := by decide +kernel
theorem dX7_setLoss_28 : decode cX7_setLoss 28 = .ok (.iadd, 1) := by decide +kernel
theorem dX7_setLoss_29 : decode cX7_setLoss 29 = .ok (.iload_n 2, 1) := by decide +kernel
theorem dX7_setLoss_30 : decode cX7_setLoss 30 = .ok (.invokevirtual 147, 3) := by decide +kernel
theorem dX7_setLoss_33 : decode cX7_setLoss 33 = .ok (.goto 4, 3) := by decide +kernel
theorem dX7_setLoss_36 : decode cX7_setLoss 36 = .ok (.iconst (-1), 1) := by decide +kernel
theorem dX7_setLoss_37 : decode cX7_setLoss 37 = .ok (.ireturn, 1) := by decide +kernel
theorem dX7_setWeight_0 : decode cX7_setWeight 0 = .ok (.iload_n 1, 1) := by decide +kernel
theorem dX7_setWeight_1 : decode cX7_setWeight 1 = .ok (.iconst 1, 1) := by decide +kernel
theorem dX7_setWeight_2 : decode cX7_setWeight 2 = .ok (.bipush 6, 2) := by decide +kernel
theorem dX7_setWeight_4 : decode cX7_setWeight 4 = .ok (.invokestatic 136, 3) := by decide +kernel
theorem dX7_setWeight_7 : decode cX7_setWeight 7 = .ok (.ifCond .eq 13, 3) := by decide +kernel
theorem dX7_setWeight_10 : decode cX7_setWeight 10 = .ok (.iload_n 2, 1) := by decide +kernel
theorem dX7_setWeight_11 : decode cX7_setWeight 11 = .ok (.iconst 0, 1) := by decide +kernel
theorem dX7_setWeight_12 : decode cX7_setWeight 12 = .ok (.bipush 9, 2) := by decide +kernel
theorem dX7_setWeight_14 : decode cX7_setWeight 14 = .ok (.invokestatic 136, 3) := by decide +kernel
theorem dX7_setWeight_17 : decode cX7_setWeight 17 = .ok (.ifCond .ne 5, 3) := by decide +kernel
theorem dX7_setWeight_20 : decode cX7_setWeight 20 = .ok (.iconst (-1), 1) := by decide +kernel
theorem dX7_setWeight_21 : decode cX7_setWeight 21 = .ok (.ireturn, 1) := by decide +kernel
theorem dX7_setWeight_22 : decode cX7_setWeight 22 = .ok (.bipush 11, 2) := by decide +kernel
theorem dX7_setWeight_24 : decode cX7_setWeight 24 = .ok (.iload_n 1, 1) := by decide +kernel
theorem dX7_setWeight_25 : decode cX7_setWeight 25 = .ok (.iadd, 1) := by decide +kernel
theorem dX7_setWeight_26 : decode cX7_setWeight 26 = .ok (.iconst 1, 1) := by decide +kernel
theorem dX7_setWeight_27 : decode cX7_setWeight 27 = .ok (.isub, 1) := by decide +kernel
theorem dX7_setWeight_28 : decode cX7_setWeight 28 = .ok (.istore_n 3, 1) := by decide +kernel
theorem dX7_setWeight_29 : decode cX7_setWeight 29 = .ok (.aload_n 0, 1) := by decide +kernel
theorem dX7_setWeight_30 : decode cX7_setWeight 30 = .ok (.invokevirtual 69, 3) := by decide +kernel
theorem dX7_setWeight_33 : decode cX7_setWeight 33 = .ok (.aload_n 0, 1) := by decide +kernel
theorem dX7_setWeight_34 : decode cX7_setWeight 34 = .ok (.getfield 7, 3) := by decide +kernel
theorem dX7_setWeight_37 : decode cX7_setWeight 37 = .ok (.iload_n 3, 1) := by decide +kernel
theorem dX7_setWeight_38 : decode cX7_setWeight 38 = .ok (.iaload, 1) := by decide +kernel
theorem dX7_setWeight_39 : decode cX7_setWeight 39 = .ok (.isub, 1) := by decide +kernel
theorem dX7_setWeight_40 : decode cX7_setWeight 40 = .ok (.iload_n 2, 1) := by decide +kernel
theorem dX7_setWeight_41 : decode cX7_setWeight 41 = .ok (.iadd, 1) := by decide +kernel
theorem dX7_setWeight_42 : decode cX7_setWeight 42 = .ok (.ifCond .ne 8, 3) := by decide +kernel
theorem dX7_setWeight_45 : decode cX7_setWeight 45 = .ok (.bipush (-2), 2) := by decide +kernel
theorem dX7_setWeight_47 : decode cX7_setWeight 47 = .ok (.goto 9, 3) := by decide +kernel
theorem dX7_setWeight_50 : decode cX7_setWeight 50 = .ok (.aload_n 0, 1) := by decide +kernel
theorem dX7_setWeight_51 : decode cX7_setWeight 51 = .ok (.iload_n 3, 1) := by decide +kernel
theorem dX7_setWeight_52 : decode cX7_setWeight 52 = .ok (.iload_n 2, 1) := by decide +kernel
theorem dX7_setWeight_53 : decode cX7_setWeight 53 = .ok (.invokevirtual 147, 3) := by decide +kernel
theorem dX7_setWeight_56 : decode cX7_setWeight 56 = .ok (.ireturn, 1) := by decide +kernel
theorem dX7_set_0 : decode cX7_set 0 = .ok (.iload_n 1, 1) := by decide +kernel
theorem dX7_set_1 : decode cX7_set 1 = .ok (.ifCond .ne 12, 3) := by decide +kernel
theorem dX7_set_4 : decode cX7_set 4 = .ok (.iload_n 2, 1) := by decide +kernel
theorem dX7_set_5 : decode cX7_set 5 = .ok (.iconst 1, 1) := by decide +kernel
theorem dX7_set_6 : decode cX7_set 6 = .ok (.iconst 4, 1) := by decide +kernel
theorem dX7_set_7 : decode cX7_set 7 = .ok (.invokestatic 136, 3) := by decide +kernel
theorem dX7_set_10 : decode cX7_set 10 = .ok (.goto 45, 3) := by decide +kernel
theorem dX7_set_13 : decode cX7_set 13 = .ok (.iload_n 1, 1) := by decide +kernel
theorem dX7_set_14 : decode cX7_set 14 = .ok (.iconst 1, 1) := by decide +kernel
theorem dX7_set_15 : decode cX7_set 15 = .ok (.if_icmp .ne 12, 3) := by decide +kernel
theorem dX7_set_18 : decode cX7_set 18 = .ok (.iload_n 2, 1) := by decide +kernel
theorem dX7_set_19 : decode cX7_set 19 = .ok (.iconst 0, 1) := by decide +kernel
theorem dX7_set_20 : decode cX7_set 20 = .ok (.iconst 3, 1) := by decide +kernel
theorem dX7_set_21 : decode cX7_set 21 = .ok (.invokestatic 136, 3) := by decide +kernel
theorem dX7_set_24 : decode cX7_set 24 = .ok (.goto 31, 3) := by decide +kernel
theorem dX7_set_27 : decode cX7_set 27 = .ok (.iload_n 1, 1) := by decide +kernel
theorem dX7_set_28 : decode cX7_set 28 = .ok (.iconst 2, 1) := by decide +kernel
theorem dX7_set_29 : decode cX7_set 29 = .ok (.if_icmp .ne 12, 3) := by decide +kernel
theorem dX7_set_32 : decode cX7_set 32 = .ok (.iload_n 2, 1) := by decide +kernel
theorem dX7_set_33 : decode cX7_set 33 = .ok (.iconst 0, 1) := by decide +kernel
theorem dX7_set_34 : decode cX7_set 34 = .ok (.iconst 1, 1) := by decide +kernel
theorem dX7_set_35 : decode cX7_set 35 = .ok (.invokestatic 136, 3) := by decide +kernel
theorem dX7_set_38 : decode cX7_set 38 = .ok (.goto 17, 3) := by decide +kernel
theorem dX7_set_41 : decode cX7_set 41 = .ok (.iload_n 1, 1) := by decide +kernel
theorem dX7_set_42 : decode cX7_set 42 = .ok (.iconst 3, 1) := by decide +kernel
theorem dX7_set_43 : decode cX7_set 43 = .ok (.if_icmp .ne 11, 3) := by decide +kernel
theorem dX7_set_46 : decode cX7_set 46 = .ok (.iload_n 2, 1) := by decide +kernel
theorem dX7_set_47 : decode cX7_set 47 = .ok (.ifCond .lt 7, 3) := by decide +kernel
theorem dX7_set_50 : decode cX7_set 50 = .ok (.iconst 1, 1) := by decide +kernel
theorem dX7_set_51 : decode cX7_set 51 = .ok (.goto 4, 3) := by decide +kernel
theorem dX7_set_54 : decode cX7_set 54 = .ok (.iconst 0, 1) := by decide +kernel
theorem dX7_set_55 : decode cX7_set 55 = .ok (.istore_n 3, 1) := by decide +kernel
theorem dX7_set_56 : decode cX7_set 56 = .ok (.iload_n 3, 1) := by decide +kernel
theorem dX7_set_57 : decode cX7_set 57 = .ok (.ifCond .ne 5, 3) := by decide +kernel
theorem dX7_set_60 : decode cX7_set 60 = .ok (.iconst (-1), 1) := by decide +kernel
theorem dX7_set_61 : decode cX7_set 61 = .ok (.ireturn, 1) := by decide +kernel
theorem dX7_set_62 : decode cX7_set 62 = .ok (.aload_n 0, 1) := by decide +kernel
theorem dX7_set_63 : decode cX7_set 63 = .ok (.iconst 3, 1) := by decide +kernel
theorem dX7_set_64 : decode cX7_set 64 = .ok (.iload_n 1, 1) := by decide +kernel
theorem dX7_set_65 : decode cX7_set 65 = .ok (.iadd, 1) := by decide +kernel
theorem dX7_set_66 : decode cX7_set 66 = .ok (.iload_n 2, 1) := by decide +kernel
theorem dX7_set_67 : decode cX7_set 67 = .ok (.invokevirtual 147, 3) := by decide +kernel
theorem dX7_set_70 : decode cX7_set 70 = .ok (.istore 4, 2) := by decide +kernel
theorem dX7_set_72 : decode cX7_set 72 = .ok (.iconst 1, 1) := by decide +kernel
theorem dX7_set_73 : decode cX7_set 73 = .ok (.istore 5, 2) := by decide +kernel
theorem dX7_set_75 : decode cX7_set 75 = .ok (.iload 5, 2) := by decide +kernel
theorem dX7_set_77 : decode cX7_set 77 = .ok (.aload_n 0, 1) := by decide +kernel
theorem dX7_set_78 : decode cX7_set 78 = .ok (.getfield 7, 3) := by decide +kernel
theorem dX7_set_81 : decode cX7_set 81 = .ok (.iconst 1, 1) := by decide +kernel
theorem dX7_set_82 : decode cX7_set 82 = .ok (.iaload, 1) := by decide +kernel
theorem dX7_set_83 : decode cX7_set 83 = .ok (.if_icmp .gt 41, 3) := by decide +kernel
theorem dX7_set_86 : decode cX7_set 86 = .ok (.aload_n 0, 1) := by decide +kernel
theorem dX7_set_87 : decode cX7_set 87 = .ok (.getfield 7, 3) := by decide +kernel
theorem dX7_set_90 : decode cX7_set 90 = .ok (.iload 5, 2) := by decide +kernel
theorem dX7_set_92 : decode cX7_set 92 = .ok (.invokestatic 120, 3) := by decide +kernel
theorem dX7_set_95 : decode cX7_set 95 = .ok (.iaload, 1) := by decide +kernel
theorem dX7_set_96 : decode cX7_set 96 = .ok (.aload_n 0, 1) := by decide +kernel
theorem dX7_set_97 : decode cX7_set 97 = .ok (.getfield 7, 3) := by decide +kernel
theorem dX7_set_100 : decode cX7_set 100 = .ok (.iconst 3, 1) := by decide +kernel
theorem dX7_set_101 : decode cX7_set 101 = .ok (.iaload, 1) := by decide +kernel
theorem dX7_set_102 : decode cX7_set 102 = .ok (.if_icmp .le 16, 3) := by decide +kernel
theorem dX7_set_105 : decode cX7_set 105 = .ok (.aload_n 0, 1) := by decide +kernel
theorem dX7_set_106 : decode cX7_set 106 = .ok (.iload 5, 2) := by decide +kernel
theorem dX7_set_108 : decode cX7_set 108 = .ok (.invokestatic 120, 3) := by decide +kernel
theorem dX7_set_111 : decode cX7_set 111 = .ok (.iconst 0, 1) := by decide +kernel
theorem dX7_set_112 : decode cX7_set 112 = .ok (.invokevirtual 85, 3) := by decide +kernel
theorem dX7_set_115 : decode cX7_set 115 = .ok (.goto (-29), 3) := by decide +kernel
theorem dX7_set_118 : decode cX7_set 118 = .ok (.iinc 5 1, 3) := by decide +kernel
theorem dX7_set_121 : decode cX7_set 121 = .ok (.goto (-46), 3) := by decide +kernel
theorem dX7_set_124 : decode cX7_set 124 = .ok (.iload 4, 2) := by decide +kernel
theorem dX7_set_126 : decode cX7_set 126 = .ok (.ireturn, 1) := by decide +kernel
theorem dX7_run_0 : decode cX7_run 0 = .ok (.iload_n 1, 1) := by decide +kernel
theorem dX7_run_1 : decode cX7_run 1 = .ok (.iconst 1, 1) := by decide +kernel
theorem dX7_run_2 : decode cX7_run 2 = .ok (.bipush 100, 2) := by decide +kernel
theorem dX7_run_4 : decode cX7_run 4 = .ok (.invokestatic 136, 3) := by decide +kernel
theorem dX7_run_7 : decode cX7_run 7 = .ok (.ifCond .ne 5, 3) := by decide +kernel
theorem dX7_run_10 : decode cX7_run 10 = .ok (.iconst (-1), 1) := by decide +kernel
theorem dX7_run_11 : decode cX7_run 11 = .ok (.ireturn, 1) := by decide +kernel
theorem dX7_run_12 : decode cX7_run 12 = .ok (.aload_n 0, 1) := by decide +kernel
theorem dX7_run_13 : decode cX7_run 13 = .ok (.invokevirtual 140, 3) := by decide +kernel
theorem dX7_run_16 : decode cX7_run 16 = .ok (.iconst 0, 1) := by decide +kernel
theorem dX7_run_17 : decode cX7_run 17 = .ok (.istore_n 2, 1) := by decide +kernel
theorem dX7_run_18 : decode cX7_run 18 = .ok (.iload_n 2, 1) := by decide +kernel
theorem dX7_run_19 : decode cX7_run 19 = .ok (.iload_n 1, 1) := by decide +kernel
theorem dX7_run_20 : decode cX7_run 20 = .ok (.if_icmp .ge 13, 3) := by decide +kernel
theorem dX7_run_23 : decode cX7_run 23 = .ok (.aload_n 0, 1) := by decide +kernel
theorem dX7_run_24 : decode cX7_run 24 = .ok (.invokevirtual 150, 3) := by decide +kernel
theorem dX7_run_27 : decode cX7_run 27 = .ok (.iinc 2 1, 3) := by decide +kernel
theorem dX7_run_30 : decode cX7_run 30 = .ok (.goto (-12), 3) := by decide +kernel
theorem dX7_run_33 : decode cX7_run 33 = .ok (.aload_n 0, 1) := by decide +kernel
theorem dX7_run_34 : decode cX7_run 34 = .ok (.getfield 7, 3) := by decide +kernel
theorem dX7_run_37 : decode cX7_run 37 = .ok (.bipush 61, 2) := by decide +kernel
theorem dX7_run_39 : decode cX7_run 39 = .ok (.iaload, 1) := by decide +kernel
theorem dX7_run_40 : decode cX7_run 40 = .ok (.ireturn, 1) := by decide +kernel
theorem dX7_isSet_0 : decode cX7_isSet 0 = .ok (.iload_n 1, 1) := by decide +kernel
theorem dX7_isSet_1 : decode cX7_isSet 1 = .ok (.iconst 1, 1) := by decide +kernel
theorem dX7_isSet_2 : decode cX7_isSet 2 = .ok (.iconst 1, 1) := by decide +kernel
theorem dX7_isSet_3 : decode cX7_isSet 3 = .ok (.aload_n 0, 1) := by decide +kernel
theorem dX7_isSet_4 : decode cX7_isSet 4 = .ok (.getfield 7, 3) := by decide +kernel
theorem dX7_isSet_7 : decode cX7_isSet 7 = .ok (.iconst 0, 1) := by decide +kernel
theorem dX7_isSet_8 : decode cX7_isSet 8 = .ok (.iaload, 1) := by decide +kernel
theorem dX7_isSet_9 : decode cX7_isSet 9 = .ok (.ishl, 1) := by decide +kernel
theorem dX7_isSet_10 : decode cX7_isSet 10 = .ok (.iconst 1, 1) := by decide +kernel
theorem dX7_isSet_11 : decode cX7_isSet 11 = .ok (.isub, 1) := by decide +kernel
theorem dX7_isSet_12 : decode cX7_isSet 12 = .ok (.invokestatic 136, 3) := by decide +kernel
theorem dX7_isSet_15 : decode cX7_isSet 15 = .ok (.ireturn, 1) := by decide +kernel
theorem dX7_inject_0 : decode cX7_inject 0 = .ok (.aload_n 0, 1) := by decide +kernel
theorem dX7_inject_1 : decode cX7_inject 1 = .ok (.iload_n 1, 1) := by decide +kernel
theorem dX7_inject_2 : decode cX7_inject 2 = .ok (.invokevirtual 153, 3) := by decide +kernel
theorem dX7_inject_5 : decode cX7_inject 5 = .ok (.ifCond .ne 5, 3) := by decide +kernel
theorem dX7_inject_8 : decode cX7_inject 8 = .ok (.iconst (-1), 1) := by decide +kernel
theorem dX7_inject_9 : decode cX7_inject 9 = .ok (.ireturn, 1) := by decide +kernel
theorem dX7_inject_10 : decode cX7_inject 10 = .ok (.aload_n 0, 1) := by decide +kernel
theorem dX7_inject_11 : decode cX7_inject 11 = .ok (.invokevirtual 140, 3) := by decide +kernel
theorem dX7_inject_14 : decode cX7_inject 14 = .ok (.aload_n 0, 1) := by decide +kernel
theorem dX7_inject_15 : decode cX7_inject 15 = .ok (.iload_n 1, 1) := by decide +kernel
theorem dX7_inject_16 : decode cX7_inject 16 = .ok (.aload_n 0, 1) := by decide +kernel
theorem dX7_inject_17 : decode cX7_inject 17 = .ok (.iload_n 1, 1) := by decide +kernel
theorem dX7_inject_18 : decode cX7_inject 18 = .ok (.invokevirtual 79, 3) := by decide +kernel
theorem dX7_inject_21 : decode cX7_inject 21 = .ok (.invokevirtual 130, 3) := by decide +kernel
theorem dX7_inject_24 : decode cX7_inject 24 = .ok (.istore_n 2, 1) := by decide +kernel
theorem dX7_inject_25 : decode cX7_inject 25 = .ok (.aload_n 0, 1) := by decide +kernel
theorem dX7_inject_26 : decode cX7_inject 26 = .ok (.invokevirtual 133, 3) := by decide +kernel
theorem dX7_inject_29 : decode cX7_inject 29 = .ok (.iload_n 2, 1) := by decide +kernel
theorem dX7_inject_30 : decode cX7_inject 30 = .ok (.ireturn, 1) := by decide +kernel
theorem dX7_undo_0 : decode cX7_undo 0 = .ok (.aload_n 0, 1) := by decide +kernel
theorem dX7_undo_1 : decode cX7_undo 1 = .ok (.getfield 38, 3) := by decide +kernel
theorem dX7_undo_4 : decode cX7_undo 4 = .ok (.ifCond .ne 6, 3) := by decide +kernel
theorem dX7_undo_7 : decode cX7_undo 7 = .ok (.bipush (-2), 2) := by decide +kernel
theorem dX7_undo_9 : decode cX7_undo 9 = .ok (.ireturn, 1) := by decide +kernel
theorem dX7_undo_10 : decode cX7_undo 10 = .ok (.aload_n 0, 1) := by decide +kernel
theorem dX7_undo_11 : decode cX7_undo 11 = .ok (.dup, 1) := by decide +kernel
theorem dX7_undo_12 : decode cX7_undo 12 = .ok (.getfield 38, 3) := by decide +kernel
theorem dX7_undo_15 : decode cX7_undo 15 = .ok (.iconst 1, 1) := by decide +kernel
theorem dX7_undo_16 : decode cX7_undo 16 = .ok (.isub, 1) := by decide +kernel
theorem dX7_undo_17 : decode cX7_undo 17 = .ok (.putfield 38, 3) := by decide +kernel
theorem dX7_undo_20 : decode cX7_undo 20 = .ok (.iconst 0, 1) := by decide +kernel
theorem dX7_undo_21 : decode cX7_undo 21 = .ok (.istore_n 1, 1) := by decide +kernel
theorem dX7_undo_22 : decode cX7_undo 22 = .ok (.iload_n 1, 1) := by decide +kernel
theorem dX7_undo_23 : decode cX7_undo 23 = .ok (.sipush 165, 3) := by decide +kernel
theorem dX7_undo_26 : decode cX7_undo 26 = .ok (.if_icmp .ge 30, 3) := by decide +kernel
theorem dX7_undo_29 : decode cX7_undo 29 = .ok (.aload_n 0, 1) := by decide +kernel
theorem dX7_undo_30 : decode cX7_undo 30 = .ok (.getfield 7, 3) := by decide +kernel
theorem dX7_undo_33 : decode cX7_undo 33 = .ok (.iload_n 1, 1) := by decide +kernel
theorem dX7_undo_34 : decode cX7_undo 34 = .ok (.aload_n 0, 1) := by decide +kernel
theorem dX7_undo_35 : decode cX7_undo 35 = .ok (.getfield 13, 3) := by decide +kernel
theorem dX7_undo_38 : decode cX7_undo 38 = .ok (.sipush 165, 3) := by decide +kernel
theorem dX7_undo_41 : decode cX7_undo 41 = .ok (.aload_n 0, 1) := by decide +kernel
theorem dX7_undo_42 : decode cX7_undo 42 = .ok (.getfield 38, 3) := by decide +kernel
theorem dX7_undo_45 : decode cX7_undo 45 = .ok (.imul, 1) := by decide +kernel
theorem dX7_undo_46 : decode cX7_undo 46 = .ok (.iload_n 1, 1) := by decide +kernel
theorem dX7_undo_47 : decode cX7_undo 47 = .ok (.iadd, 1) := by decide +kernel
theorem dX7_undo_48 : decode cX7_undo 48 = .ok (.iaload, 1) := by decide +kernel
theorem dX7_undo_49 : decode cX7_undo 49 = .ok (.iastore, 1) := by decide +kernel
theorem dX7_undo_50 : decode cX7_undo 50 = .ok (.iinc 1 1, 3) := by decide +kernel
theorem dX7_undo_53 : decode cX7_undo 53 = .ok (.goto (-31), 3) := by decide +kernel
theorem dX7_undo_56 : decode cX7_undo 56 = .ok (.aload_n 0, 1) := by decide +kernel
theorem dX7_undo_57 : decode cX7_undo 57 = .ok (.getfield 38, 3) := by decide +kernel
theorem dX7_undo_60 : decode cX7_undo 60 = .ok (.ireturn, 1) := by decide +kernel
theorem dX7_known_0 : decode cX7_known 0 = .ok (.iconst 0, 1) := by decide +kernel
theorem dX7_known_1 : decode cX7_known 1 = .ok (.istore_n 1, 1) := by decide +kernel
theorem dX7_known_2 : decode cX7_known 2 = .ok (.iconst 0, 1) := by decide +kernel
theorem dX7_known_3 : decode cX7_known 3 = .ok (.istore_n 2, 1) := by decide +kernel
theorem dX7_known_4 : decode cX7_known 4 = .ok (.iload_n 2, 1) := by decide +kernel
theorem dX7_known_5 : decode cX7_known 5 = .ok (.aload_n 0, 1) := by decide +kernel
theorem dX7_known_6 : decode cX7_known 6 = .ok (.getfield 7, 3) := by decide +kernel
theorem dX7_known_9 : decode cX7_known 9 = .ok (.iconst 0, 1) := by decide +kernel
theorem dX7_known_10 : decode cX7_known 10 = .ok (.iaload, 1) := by decide +kernel
theorem dX7_known_11 : decode cX7_known 11 = .ok (.if_icmp .ge 31, 3) := by decide +kernel
theorem dX7_known_14 : decode cX7_known 14 = .ok (.iload_n 1, 1) := by decide +kernel
theorem dX7_known_15 : decode cX7_known 15 = .ok (.aload_n 0, 1) := by decide +kernel
theorem dX7_known_16 : decode cX7_known 16 = .ok (.getfield 7, 3) := by decide +kernel
theorem dX7_known_19 : decode cX7_known 19 = .ok (.bipush 86, 2) := by decide +kernel
theorem dX7_known_21 : decode cX7_known 21 = .ok (.iload_n 2, 1) := by decide +kernel
theorem dX7_known_22 : decode cX7_known 22 = .ok (.iadd, 1) := by decide +kernel
theorem dX7_known_23 : decode cX7_known 23 = .ok (.iaload, 1) := by decide +kernel
theorem dX7_known_24 : decode cX7_known 24 = .ok (.bipush (-9), 2) := by decide +kernel
theorem dX7_known_26 : decode cX7_known 26 = .ok (.if_icmp .eq 7, 3) := by decide +kernel
theorem dX7_known_29 : decode cX7_known 29 = .ok (.iconst 1, 1) := by decide +kernel
theorem dX7_known_30 : decode cX7_known 30 = .ok (.goto 4, 3) := by decide +kernel
theorem dX7_known_33 : decode cX7_known 33 = .ok (.iconst 0, 1) := by decide +kernel
theorem dX7_known_34 : decode cX7_known 34 = .ok (.iadd, 1) := by decide +kernel
theorem dX7_known_35 : decode cX7_known 35 = .ok (.istore_n 1, 1) := by decide +kernel
theorem dX7_known_36 : decode cX7_known 36 = .ok (.iinc 2 1, 3) := by decide +kernel
theorem dX7_known_39 : decode cX7_known 39 = .ok (.goto (-35), 3) := by decide +kernel
theorem dX7_known_42 : decode cX7_known 42 = .ok (.iload_n 1, 1) := by decide +kernel
theorem dX7_known_43 : decode cX7_known 43 = .ok (.ireturn, 1) := by decide +kernel
theorem dX7_solvedBlocks_0 : decode cX7_solvedBlocks 0 = .ok (.iconst 0, 1) := by decide +kernel
theorem dX7_solvedBlocks_1 : decode cX7_solvedBlocks 1 = .ok (.istore_n 1, 1) := by decide +kernel
theorem dX7_solvedBlocks_2 : decode cX7_solvedBlocks 2 = .ok (.iconst 0, 1) := by decide +kernel
theorem dX7_solvedBlocks_3 : decode cX7_solvedBlocks 3 = .ok (.istore_n 2, 1) := by decide +kernel
theorem dX7_solvedBlocks_4 : decode cX7_solvedBlocks 4 = .ok (.iload_n 2, 1) := by decide +kernel
theorem dX7_solvedBlocks_5 : decode cX7_solvedBlocks 5 = .ok (.aload_n 0, 1) := by decide +kernel
theorem dX7_solvedBlocks_6 : decode cX7_solvedBlocks 6 = .ok (.getfield 7, 3) := by decide +kernel
theorem dX7_solvedBlocks_9 : decode cX7_solvedBlocks 9 = .ok (.iconst 0, 1) := by decide +kernel
theorem dX7_solvedBlocks_10 : decode cX7_solvedBlocks 10 = .ok (.iaload, 1) := by decide +kernel
theorem dX7_solvedBlocks_11 : decode cX7_solvedBlocks 11 = .ok (.if_icmp .ge 31, 3) := by decide +kernel
theorem dX7_solvedBlocks_14 : decode cX7_solvedBlocks 14 = .ok (.iload_n 1, 1) := by decide +kernel
theorem dX7_solvedBlocks_15 : decode cX7_solvedBlocks 15 = .ok (.aload_n 0, 1) := by decide +kernel
theorem dX7_solvedBlocks_16 : decode cX7_solvedBlocks 16 = .ok (.getfield 7, 3) := by decide +kernel
theorem dX7_solvedBlocks_19 : decode cX7_solvedBlocks 19 = .ok (.bipush 110, 2) := by decide +kernel
theorem dX7_solvedBlocks_21 : decode cX7_solvedBlocks 21 = .ok (.iload_n 2, 1) := by decide +kernel
theorem dX7_solvedBlocks_22 : decode cX7_solvedBlocks 22 = .ok (.iadd, 1) := by decide +kernel
theorem dX7_solvedBlocks_23 : decode cX7_solvedBlocks 23 = .ok (.iaload, 1) := by decide +kernel
theorem dX7_solvedBlocks_24 : decode cX7_solvedBlocks 24 = .ok (.bipush (-9), 2) := by decide +kernel
theorem dX7_solvedBlocks_26 : decode cX7_solvedBlocks 26 = .ok (.if_icmp .eq 7, 3) := by decide +kernel
theorem dX7_solvedBlocks_29 : decode cX7_solvedBlocks 29 = .ok (.iconst 1, 1) := by decide +kernel
theorem dX7_solvedBlocks_30 : decode cX7_solvedBlocks 30 = .ok (.goto 4, 3) := by decide +kernel
theorem dX7_solvedBlocks_33 : decode cX7_solvedBlocks 33 = .ok (.iconst 0, 1) := by decide +kernel
theorem dX7_solvedBlocks_34 : decode cX7_solvedBlocks 34 = .ok (.iadd, 1) := by decide +kernel
theorem dX7_solvedBlocks_35 : decode cX7_solvedBlocks 35 = .ok (.istore_n 1, 1) := by decide +kernel
theorem dX7_solvedBlocks_36 : decode cX7_solvedBlocks 36 = .ok (.iinc 2 1, 3) := by decide +kernel
theorem dX7_solvedBlocks_39 : decode cX7_solvedBlocks 39 = .ok (.goto (-35), 3) := by decide +kernel
theorem dX7_solvedBlocks_42 : decode cX7_solvedBlocks 42 = .ok (.iload_n 1, 1) := by decide +kernel
theorem dX7_solvedBlocks_43 : decode cX7_solvedBlocks 43 = .ok (.ireturn, 1) := by decide +kernel
theorem dX7_told_0 : decode cX7_told 0 = .ok (.iload_n 1, 1) := by decide +kernel
theorem dX7_told_1 : decode cX7_told 1 = .ok (.tableswitch 204 0 16 #[83, 90, 97, 104, 111, 118, 125, 133, 141, 149, 157, 165, 173, 178, 186, 191, 199], 83) := by decide +kernel
theorem dX7_told_84 : decode cX7_told 84 = .ok (.aload_n 0, 1) := by decide +kernel
theorem dX7_told_85 : decode cX7_told 85 = .ok (.getfield 7, 3) := by decide +kernel
theorem dX7_told_88 : decode cX7_told 88 = .ok (.iconst 0, 1) := by decide +kernel
theorem dX7_told_89 : decode cX7_told 89 = .ok (.iaload, 1) := by decide +kernel
theorem dX7_told_90 : decode cX7_told 90 = .ok (.ireturn, 1) := by decide +kernel
theorem dX7_told_91 : decode cX7_told 91 = .ok (.aload_n 0, 1) := by decide +kernel
theorem dX7_told_92 : decode cX7_told 92 = .ok (.getfield 7, 3) := by decide +kernel
theorem dX7_told_95 : decode cX7_told 95 = .ok (.iconst 1, 1) := by decide +kernel
theorem dX7_told_96 : decode cX7_told 96 = .ok (.iaload, 1) := by decide +kernel
theorem dX7_told_97 : decode cX7_told 97 = .ok (.ireturn, 1) := by decide +kernel
theorem dX7_told_98 : decode cX7_told 98 = .ok (.aload_n 0, 1) := by decide +kernel
theorem dX7_told_99 : decode cX7_told 99 = .ok (.getfield 7, 3) := by decide +kernel
theorem dX7_told_102 : decode cX7_told 102 = .ok (.iconst 2, 1) := by decide +kernel
theorem dX7_told_103 : decode cX7_told 103 = .ok (.iaload, 1) := by decide +kernel
theorem dX7_told_104 : decode cX7_told 104 = .ok (.ireturn, 1) := by decide +kernel
theorem dX7_told_105 : decode cX7_told 105 = .ok (.aload_n 0, 1) := by decide +kernel
theorem dX7_told_106 : decode cX7_told 106 = .ok (.getfield 7, 3) := by decide +kernel
theorem dX7_told_109 : decode cX7_told 109 = .ok (.iconst 3, 1) := by decide +kernel
theorem dX7_told_110 : decode cX7_told 110 = .ok (.iaload, 1) := by decide +kernel
theorem dX7_told_111 : decode cX7_told 111 = .ok (.ireturn, 1) := by decide +kernel
theorem dX7_told_112 : decode cX7_told 112 = .ok (.aload_n 0, 1) := by decide +kernel
theorem dX7_told_113 : decode cX7_told 113 = .ok (.getfield 7, 3) := by decide +kernel
theorem dX7_told_116 : decode cX7_told 116 = .ok (.iconst 4, 1) := by decide +kernel
theorem dX7_told_117 : decode cX7_told 117 = .ok (.iaload, 1) := by decide +kernel
theorem dX7_told_118 : decode cX7_told 118 = .ok (.ireturn, 1) := by decide +kernel
theorem dX7_told_119 : decode cX7_told 119 = .ok (.aload_n 0, 1) := by decide +kernel
theorem dX7_told_120 : decode cX7_told 120 = .ok (.getfield 7, 3) := by decide +kernel
theorem dX7_told_123 : decode cX7_told 123 = .ok (.iconst 5, 1) := by decide +kernel
theorem dX7_told_124 : decode cX7_told 124 = .ok (.iaload, 1) := by decide +kernel
theorem dX7_told_125 : decode cX7_told 125 = .ok (.ireturn, 1) := by decide +kernel
theorem dX7_told_126 : decode cX7_told 126 = .ok (.aload_n 0, 1) := by decide +kernel
theorem dX7_told_127 : decode cX7_told 127 = .ok (.getfield 7, 3) := by decide +kernel
theorem dX7_told_130 : decode cX7_told 130 = .ok (.bipush 6, 2) := by decide +kernel
theorem dX7_told_132 : decode cX7_told 132 = .ok (.iaload, 1) := by decide +kernel
theorem dX7_told_133 : decode cX7_told 133 = .ok (.ireturn, 1) := by decide +kernel
theorem dX7_told_134 : decode cX7_told 134 = .ok (.aload_n 0, 1) := by decide +kernel
theorem dX7_told_135 : decode cX7_told 135 = .ok (.getfield 7, 3) := by decide +kernel
theorem dX7_told_138 : decode cX7_told 138 = .ok (.bipush 29, 2) := by decide +kernel
theorem dX7_told_140 : decode cX7_told 140 = .ok (.iaload, 1) := by decide +kernel
theorem dX7_told_141 : decode cX7_told 141 = .ok (.ireturn, 1) := by decide +kernel
theorem dX7_told_142 : decode cX7_told 142 = .ok (.aload_n 0, 1) := by decide +kernel
theorem dX7_told_143 : decode cX7_told 143 = .ok (.getfield 7, 3) := by decide +kernel
theorem dX7_told_146 : decode cX7_told 146 = .ok (.bipush 30, 2) := by decide +kernel
theorem dX7_told_148 : decode cX7_told 148 = .ok (.iaload, 1) := by decide +kernel
theorem dX7_told_149 : decode cX7_told 149 = .ok (.ireturn, 1) := by decide +kernel
theorem dX7_told_150 : decode cX7_told 150 = .ok (.aload_n 0, 1) := by decide +kernel
theorem dX7_told_151 : decode cX7_told 151 = .ok (.getfield 7, 3) := by decide +kernel
theorem dX7_told_154 : decode cX7_told 154 = .ok (.bipush 31, 2) := by decide +kernel
theorem dX7_told_156 : decode cX7_told 156 = .ok (.iaload, 1) := by decide +kernel
theorem dX7_told_157 : decode cX7_told 157 = .ok (.ireturn, 1) := by decide +kernel
theorem dX7_told_158 : decode cX7_told 158 = .ok (.aload_n 0, 1) := by decide +kernel
theorem dX7_told_159 : decode cX7_told 159 = .ok (.getfield 7, 3) := by decide +kernel
theorem dX7_told_162 : decode cX7_told 162 = .ok (.bipush 32, 2) := by decide +kernel
theorem dX7_told_164 : decode cX7_told 164 = .ok (.iaload, 1) := by decide +kernel
theorem dX7_told_165 : decode cX7_told 165 = .ok (.ireturn, 1) := by decide +kernel
theorem dX7_told_166 : decode cX7_told 166 = .ok (.aload_n 0, 1) := by decide +kernel
theorem dX7_told_167 : decode cX7_told 167 = .ok (.getfield 7, 3) := by decide +kernel
theorem dX7_told_170 : decode cX7_told 170 = .ok (.bipush 61, 2) := by decide +kernel
theorem dX7_told_172 : decode cX7_told 172 = .ok (.iaload, 1) := by decide +kernel
theorem dX7_told_173 : decode cX7_told 173 = .ok (.ireturn, 1) := by decide +kernel
theorem dX7_told_174 : decode cX7_told 174 = .ok (.aload_n 0, 1) := by decide +kernel
theorem dX7_told_175 : decode cX7_told 175 = .ok (.invokevirtual 156, 3) := by decide +kernel
theorem dX7_told_178 : decode cX7_told 178 = .ok (.ireturn, 1) := by decide +kernel
theorem dX7_told_179 : decode cX7_told 179 = .ok (.aload_n 0, 1) := by decide +kernel
theorem dX7_told_180 : decode cX7_told 180 = .ok (.getfield 7, 3) := by decide +kernel
theorem dX7_told_183 : decode cX7_told 183 = .ok (.bipush 122, 2) := by decide +kernel
theorem dX7_told_185 : decode cX7_told 185 = .ok (.iaload, 1) := by decide +kernel
theorem dX7_told_186 : decode cX7_told 186 = .ok (.ireturn, 1) := by decide +kernel
theorem dX7_told_187 : decode cX7_told 187 = .ok (.aload_n 0, 1) := by decide +kernel
theorem dX7_told_188 : decode cX7_told 188 = .ok (.invokevirtual 159, 3) := by decide +kernel
theorem dX7_told_191 : decode cX7_told 191 = .ok (.ireturn, 1) := by decide +kernel
theorem dX7_told_192 : decode cX7_told 192 = .ok (.aload_n 0, 1) := by decide +kernel
theorem dX7_told_193 : decode cX7_told 193 = .ok (.getfield 7, 3) := by decide +kernel
theorem dX7_told_196 : decode cX7_told 196 = .ok (.bipush 33, 2) := by decide +kernel
theorem dX7_told_198 : decode cX7_told 198 = .ok (.iaload, 1) := by decide +kernel
theorem dX7_told_199 : decode cX7_told 199 = .ok (.ireturn, 1) := by decide +kernel
theorem dX7_told_200 : decode cX7_told 200 = .ok (.aload_n 0, 1) := by decide +kernel
theorem dX7_told_201 : decode cX7_told 201 = .ok (.getfield 38, 3) := by decide +kernel
theorem dX7_told_204 : decode cX7_told 204 = .ok (.ireturn, 1) := by decide +kernel
theorem dX7_told_205 : decode cX7_told 205 = .ok (.iconst (-1), 1) := by decide +kernel
theorem dX7_told_206 : decode cX7_told 206 = .ok (.ireturn, 1) := by decide +kernel
theorem dX7_block_0 : decode cX7_block 0 = .ok (.aload_n 0, 1) := by decide +kernel
theorem dX7_block_1 : decode cX7_block 1 = .ok (.iload_n 1, 1) := by decide +kernel
theorem dX7_block_2 : decode cX7_block 2 = .ok (.invokevirtual 143, 3) := by decide +kernel
theorem dX7_block_5 : decode cX7_block 5 = .ok (.ifCond .ne 5, 3) := by decide +kernel
theorem dX7_block_8 : decode cX7_block 8 = .ok (.iconst (-1), 1) := by decide +kernel
theorem dX7_block_9 : decode cX7_block 9 = .ok (.ireturn, 1) := by decide +kernel
theorem dX7_block_10 : decode cX7_block 10 = .ok (.iload_n 2, 1) := by decide +kernel
theorem dX7_block_11 : decode cX7_block 11 = .ok (.tableswitch 86 0 4 #[33, 43, 53, 66, 76], 33) := by decide +kernel
theorem dX7_block_44 : decode cX7_block 44 = .ok (.aload_n 0, 1) := by decide +kernel
theorem dX7_block_45 : decode cX7_block 45 = .ok (.getfield 7, 3) := by decide +kernel
theorem dX7_block_48 : decode cX7_block 48 = .ok (.bipush 17, 2) := by decide +kernel
theorem dX7_block_50 : decode cX7_block 50 = .ok (.iload_n 1, 1) := by decide +kernel
theorem dX7_block_51 : decode cX7_block 51 = .ok (.iadd, 1) := by decide +kernel
theorem dX7_block_52 : decode cX7_block 52 = .ok (.iaload, 1) := by decide +kernel
theorem dX7_block_53 : decode cX7_block 53 = .ok (.ireturn, 1) := by decide +kernel
theorem dX7_block_54 : decode cX7_block 54 = .ok (.aload_n 0, 1) := by decide +kernel
theorem dX7_block_55 : decode cX7_block 55 = .ok (.getfield 7, 3) := by decide +kernel
theorem dX7_block_58 : decode cX7_block 58 = .ok (.bipush 86, 2) := by decide +kernel
theorem dX7_block_60 : decode cX7_block 60 = .ok (.iload_n 1, 1) := by decide +kernel
theorem dX7_block_61 : decode cX7_block 61 = .ok (.iadd, 1) := by decide +kernel
theorem dX7_block_62 : decode cX7_block 62 = .ok (.iaload, 1) := by decide +kernel
theorem dX7_block_63 : decode cX7_block 63 = .ok (.ireturn, 1) := by decide +kernel
theorem dX7_block_64 : decode cX7_block 64 = .ok (.aload_n 0, 1) := by decide +kernel
theorem dX7_block_65 : decode cX7_block 65 = .ok (.bipush 61, 2) := by decide +kernel
theorem dX7_block_67 : decode cX7_block 67 = .ok (.invokevirtual 59, 3) := by decide +kernel
theorem dX7_block_70 : decode cX7_block 70 = .ok (.istore_n 3, 1) := by decide +kernel
theorem dX7_block_71 : decode cX7_block 71 = .ok (.aload_n 0, 1) := by decide +kernel
theorem dX7_block_72 : decode cX7_block 72 = .ok (.iload_n 1, 1) := by decide +kernel
theorem dX7_block_73 : decode cX7_block 73 = .ok (.invokevirtual 114, 3) := by decide +kernel
theorem dX7_block_76 : decode cX7_block 76 = .ok (.ireturn, 1) := by decide +kernel
theorem dX7_block_77 : decode cX7_block 77 = .ok (.aload_n 0, 1) := by decide +kernel
theorem dX7_block_78 : decode cX7_block 78 = .ok (.getfield 7, 3) := by decide +kernel
theorem dX7_block_81 : decode cX7_block 81 = .ok (.bipush 98, 2) := by decide +kernel
theorem dX7_block_83 : decode cX7_block 83 = .ok (.iload_n 1, 1) := by decide +kernel
theorem dX7_block_84 : decode cX7_block 84 = .ok (.iadd, 1) := by decide +kernel
theorem dX7_block_85 : decode cX7_block 85 = .ok (.iaload, 1) := by decide +kernel
theorem dX7_block_86 : decode cX7_block 86 = .ok (.ireturn, 1) := by decide +kernel
theorem dX7_block_87 : decode cX7_block 87 = .ok (.aload_n 0, 1) := by decide +kernel
theorem dX7_block_88 : decode cX7_block 88 = .ok (.getfield 7, 3) := by decide +kernel
theorem dX7_block_91 : decode cX7_block 91 = .ok (.bipush 110, 2) := by decide +kernel
theorem dX7_block_93 : decode cX7_block 93 = .ok (.iload_n 1, 1) := by decide +kernel
theorem dX7_block_94 : decode cX7_block 94 = .ok (.iadd, 1) := by decide +kernel
theorem dX7_block_95 : decode cX7_block 95 = .ok (.iaload, 1) := by decide +kernel
theorem dX7_block_96 : decode cX7_block 96 = .ok (.ireturn, 1) := by decide +kernel
theorem dX7_block_97 : decode cX7_block 97 = .ok (.iconst (-1), 1) := by decide +kernel
theorem dX7_block_98 : decode cX7_block 98 = .ok (.ireturn, 1) := by decide +kernel
theorem dX7_listOf_0 : decode cX7_listOf 0 = .ok (.iload_n 1, 1) := by decide +kernel
theorem dX7_listOf_1 : decode cX7_listOf 1 = .ok (.aload_n 0, 1) := by decide +kernel
theorem dX7_listOf_2 : decode cX7_listOf 2 = .ok (.getfield 7, 3) := by decide +kernel
theorem dX7_listOf_5 : decode cX7_listOf 5 = .ok (.iconst 1, 1) := by decide +kernel
theorem dX7_listOf_6 : decode cX7_listOf 6 = .ok (.iaload, 1) := by decide +kernel
theorem dX7_listOf_7 : decode cX7_listOf 7 = .ok (.if_icmp .le 8, 3) := by decide +kernel
theorem dX7_listOf_10 : decode cX7_listOf 10 = .ok (.bipush 61, 2) := by decide +kernel
theorem dX7_listOf_12 : decode cX7_listOf 12 = .ok (.goto 7, 3) := by decide +kernel
theorem dX7_listOf_15 : decode cX7_listOf 15 = .ok (.iload_n 1, 1) := by decide +kernel
theorem dX7_listOf_16 : decode cX7_listOf 16 = .ok (.invokestatic 120, 3) := by decide +kernel
theorem dX7_listOf_19 : decode cX7_listOf 19 = .ok (.ireturn, 1) := by decide +kernel
theorem dX7_part_0 : decode cX7_part 0 = .ok (.iload_n 2, 1) := by decide +kernel
theorem dX7_part_1 : decode cX7_part 1 = .ok (.aload_n 0, 1) := by decide +kernel
theorem dX7_part_2 : decode cX7_part 2 = .ok (.getfield 7, 3) := by decide +kernel
theorem dX7_part_5 : decode cX7_part 5 = .ok (.iload_n 1, 1) := by decide +kernel
theorem dX7_part_6 : decode cX7_part 6 = .ok (.iaload, 1) := by decide +kernel
theorem dX7_part_7 : decode cX7_part 7 = .ok (.if_icmp .lt 6, 3) := by decide +kernel
theorem dX7_part_10 : decode cX7_part 10 = .ok (.bipush (-9), 2) := by decide +kernel
theorem dX7_part_12 : decode cX7_part 12 = .ok (.ireturn, 1) := by decide +kernel
theorem dX7_part_13 : decode cX7_part 13 = .ok (.aload_n 0, 1) := by decide +kernel
theorem dX7_part_14 : decode cX7_part 14 = .ok (.getfield 7, 3) := by decide +kernel
theorem dX7_part_17 : decode cX7_part 17 = .ok (.iload_n 1, 1) := by decide +kernel
theorem dX7_part_18 : decode cX7_part 18 = .ok (.iload_n 2, 1) := by decide +kernel
theorem dX7_part_19 : decode cX7_part 19 = .ok (.invokestatic 42, 3) := by decide +kernel
theorem dX7_part_22 : decode cX7_part 22 = .ok (.iaload, 1) := by decide +kernel
theorem dX7_part_23 : decode cX7_part 23 = .ok (.istore 4, 2) := by decide +kernel
theorem dX7_part_25 : decode cX7_part 25 = .ok (.iload_n 3, 1) := by decide +kernel
theorem dX7_part_26 : decode cX7_part 26 = .ok (.ifCond .ne 8, 3) := by decide +kernel
theorem dX7_part_29 : decode cX7_part 29 = .ok (.iload 4, 2) := by decide +kernel
theorem dX7_part_31 : decode cX7_part 31 = .ok (.goto 28, 3) := by decide +kernel
theorem dX7_part_34 : decode cX7_part 34 = .ok (.iload_n 3, 1) := by decide +kernel
theorem dX7_part_35 : decode cX7_part 35 = .ok (.iconst 1, 1) := by decide +kernel
theorem dX7_part_36 : decode cX7_part 36 = .ok (.if_icmp .ne 18, 3) := by decide +kernel
theorem dX7_part_39 : decode cX7_part 39 = .ok (.aload_n 0, 1) := by decide +kernel
theorem dX7_part_40 : decode cX7_part 40 = .ok (.getfield 7, 3) := by decide +kernel
theorem dX7_part_43 : decode cX7_part 43 = .ok (.iload_n 1, 1) := by decide +kernel
theorem dX7_part_44 : decode cX7_part 44 = .ok (.iload_n 2, 1) := by decide +kernel
theorem dX7_part_45 : decode cX7_part 45 = .ok (.invokestatic 42, 3) := by decide +kernel
theorem dX7_part_48 : decode cX7_part 48 = .ok (.iconst 1, 1) := by decide +kernel
theorem dX7_part_49 : decode cX7_part 49 = .ok (.iadd, 1) := by decide +kernel
theorem dX7_part_50 : decode cX7_part 50 = .ok (.iaload, 1) := by decide +kernel
theorem dX7_part_51 : decode cX7_part 51 = .ok (.goto 8, 3) := by decide +kernel
theorem dX7_part_54 : decode cX7_part 54 = .ok (.iload 4, 2) := by decide +kernel
theorem dX7_part_56 : decode cX7_part 56 = .ok (.invokestatic 92, 3) := by decide +kernel
theorem dX7_part_59 : decode cX7_part 59 = .ok (.ireturn, 1) := by decide +kernel
theorem dX7_hasList_0 : decode cX7_hasList 0 = .ok (.iload_n 1, 1) := by decide +kernel
theorem dX7_hasList_1 : decode cX7_hasList 1 = .ok (.iconst 1, 1) := by decide +kernel
theorem dX7_hasList_2 : decode cX7_hasList 2 = .ok (.aload_n 0, 1) := by decide +kernel
theorem dX7_hasList_3 : decode cX7_hasList 3 = .ok (.getfield 7, 3) := by decide +kernel
theorem dX7_hasList_6 : decode cX7_hasList 6 = .ok (.iconst 1, 1) := by decide +kernel
theorem dX7_hasList_7 : decode cX7_hasList 7 = .ok (.iaload, 1) := by decide +kernel
theorem dX7_hasList_8 : decode cX7_hasList 8 = .ok (.iconst 1, 1) := by decide +kernel
theorem dX7_hasList_9 : decode cX7_hasList 9 = .ok (.iadd, 1) := by decide +kernel
theorem dX7_hasList_10 : decode cX7_hasList 10 = .ok (.invokestatic 136, 3) := by decide +kernel
theorem dX7_hasList_13 : decode cX7_hasList 13 = .ok (.ireturn, 1) := by decide +kernel
theorem dX7_packet_0 : decode cX7_packet 0 = .ok (.aload_n 0, 1) := by decide +kernel
theorem dX7_packet_1 : decode cX7_packet 1 = .ok (.iload_n 1, 1) := by decide +kernel
theorem dX7_packet_2 : decode cX7_packet 2 = .ok (.invokevirtual 162, 3) := by decide +kernel
theorem dX7_packet_5 : decode cX7_packet 5 = .ok (.ifCond .eq 30, 3) := by decide +kernel
theorem dX7_packet_8 : decode cX7_packet 8 = .ok (.iload_n 2, 1) := by decide +kernel
theorem dX7_packet_9 : decode cX7_packet 9 = .ok (.ifCond .lt 26, 3) := by decide +kernel
theorem dX7_packet_12 : decode cX7_packet 12 = .ok (.iload_n 3, 1) := by decide +kernel
theorem dX7_packet_13 : decode cX7_packet 13 = .ok (.iconst 0, 1) := by decide +kernel
theorem dX7_packet_14 : decode cX7_packet 14 = .ok (.iconst 2, 1) := by decide +kernel
theorem dX7_packet_15 : decode cX7_packet 15 = .ok (.invokestatic 136, 3) := by decide +kernel
theorem dX7_packet_18 : decode cX7_packet 18 = .ok (.ifCond .eq 17, 3) := by decide +kernel
theorem dX7_packet_21 : decode cX7_packet 21 = .ok (.aload_n 0, 1) := by decide +kernel
theorem dX7_packet_22 : decode cX7_packet 22 = .ok (.aload_n 0, 1) := by decide +kernel
theorem dX7_packet_23 : decode cX7_packet 23 = .ok (.iload_n 1, 1) := by decide +kernel
theorem dX7_packet_24 : decode cX7_packet 24 = .ok (.invokevirtual 165, 3) := by decide +kernel
theorem dX7_packet_27 : decode cX7_packet 27 = .ok (.iload_n 2, 1) := by decide +kernel
theorem dX7_packet_28 : decode cX7_packet 28 = .ok (.iload_n 3, 1) := by decide +kernel
theorem dX7_packet_29 : decode cX7_packet 29 = .ok (.invokevirtual 168, 3) := by decide +kernel
theorem dX7_packet_32 : decode cX7_packet 32 = .ok (.goto 4, 3) := by decide +kernel
theorem dX7_packet_35 : decode cX7_packet 35 = .ok (.iconst (-1), 1) := by decide +kernel
theorem dX7_packet_36 : decode cX7_packet 36 = .ok (.ireturn, 1) := by decide +kernel
theorem dX7_waiting_0 : decode cX7_waiting 0 = .ok (.iload_n 1, 1) := by decide +kernel
theorem dX7_waiting_1 : decode cX7_waiting 1 = .ok (.ifCond .lt 23, 3) := by decide +kernel
theorem dX7_waiting_4 : decode cX7_waiting 4 = .ok (.iload_n 2, 1) := by decide +kernel
theorem dX7_waiting_5 : decode cX7_waiting 5 = .ok (.iconst 0, 1) := by decide +kernel
theorem dX7_waiting_6 : decode cX7_waiting 6 = .ok (.iconst 2, 1) := by decide +kernel
theorem dX7_waiting_7 : decode cX7_waiting 7 = .ok (.invokestatic 136, 3) := by decide +kernel
theorem dX7_waiting_10 : decode cX7_waiting 10 = .ok (.ifCond .eq 14, 3) := by decide +kernel
theorem dX7_waiting_13 : decode cX7_waiting 13 = .ok (.aload_n 0, 1) := by decide +kernel
theorem dX7_waiting_14 : decode cX7_waiting 14 = .ok (.bipush 122, 2) := by decide +kernel
theorem dX7_waiting_16 : decode cX7_waiting 16 = .ok (.iload_n 1, 1) := by decide +kernel
theorem dX7_waiting_17 : decode cX7_waiting 17 = .ok (.iload_n 2, 1) := by decide +kernel
theorem dX7_waiting_18 : decode cX7_waiting 18 = .ok (.invokevirtual 168, 3) := by decide +kernel
theorem dX7_waiting_21 : decode cX7_waiting 21 = .ok (.goto 4, 3) := by decide +kernel
theorem dX7_waiting_24 : decode cX7_waiting 24 = .ok (.iconst (-1), 1) := by decide +kernel
theorem dX7_waiting_25 : decode cX7_waiting 25 = .ok (.ireturn, 1) := by decide +kernel
theorem dX7_node_0 : decode cX7_node 0 = .ok (.iload_n 1, 1) := by decide +kernel
theorem dX7_node_1 : decode cX7_node 1 = .ok (.iconst 0, 1) := by decide +kernel
theorem dX7_node_2 : decode cX7_node 2 = .ok (.aload_n 0, 1) := by decide +kernel
theorem dX7_node_3 : decode cX7_node 3 = .ok (.getfield 7, 3) := by decide +kernel
theorem dX7_node_6 : decode cX7_node 6 = .ok (.iconst 1, 1) := by decide +kernel
theorem dX7_node_7 : decode cX7_node 7 = .ok (.iaload, 1) := by decide +kernel
theorem dX7_node_8 : decode cX7_node 8 = .ok (.iconst 1, 1) := by decide +kernel
theorem dX7_node_9 : decode cX7_node 9 = .ok (.iadd, 1) := by decide +kernel
theorem dX7_node_10 : decode cX7_node 10 = .ok (.invokestatic 136, 3) := by decide +kernel
theorem dX7_node_13 : decode cX7_node 13 = .ok (.ifCond .eq 12, 3) := by decide +kernel
theorem dX7_node_16 : decode cX7_node 16 = .ok (.iload_n 2, 1) := by decide +kernel
theorem dX7_node_17 : decode cX7_node 17 = .ok (.iconst 0, 1) := by decide +kernel
theorem dX7_node_18 : decode cX7_node 18 = .ok (.iconst 2, 1) := by decide +kernel
theorem dX7_node_19 : decode cX7_node 19 = .ok (.invokestatic 136, 3) := by decide +kernel
theorem dX7_node_22 : decode cX7_node 22 = .ok (.ifCond .ne 5, 3) := by decide +kernel
theorem dX7_node_25 : decode cX7_node 25 = .ok (.iconst (-1), 1) := by decide +kernel
theorem dX7_node_26 : decode cX7_node 26 = .ok (.ireturn, 1) := by decide +kernel
theorem dX7_node_27 : decode cX7_node 27 = .ok (.iload_n 2, 1) := by decide +kernel
theorem dX7_node_28 : decode cX7_node 28 = .ok (.iconst 2, 1) := by decide +kernel
theorem dX7_node_29 : decode cX7_node 29 = .ok (.if_icmp .ne 28, 3) := by decide +kernel
theorem dX7_node_32 : decode cX7_node 32 = .ok (.iload_n 1, 1) := by decide +kernel
theorem dX7_node_33 : decode cX7_node 33 = .ok (.aload_n 0, 1) := by decide +kernel
theorem dX7_node_34 : decode cX7_node 34 = .ok (.getfield 7, 3) := by decide +kernel
theorem dX7_node_37 : decode cX7_node 37 = .ok (.iconst 1, 1) := by decide +kernel
theorem dX7_node_38 : decode cX7_node 38 = .ok (.iaload, 1) := by decide +kernel
theorem dX7_node_39 : decode cX7_node 39 = .ok (.if_icmp .le 8, 3) := by decide +kernel
theorem dX7_node_42 : decode cX7_node 42 = .ok (.bipush (-9), 2) := by decide +kernel
theorem dX7_node_44 : decode cX7_node 44 = .ok (.goto 12, 3) := by decide +kernel
theorem dX7_node_47 : decode cX7_node 47 = .ok (.aload_n 0, 1) := by decide +kernel
theorem dX7_node_48 : decode cX7_node 48 = .ok (.getfield 7, 3) := by decide +kernel
theorem dX7_node_51 : decode cX7_node 51 = .ok (.bipush 7, 2) := by decide +kernel
theorem dX7_node_53 : decode cX7_node 53 = .ok (.iload_n 1, 1) := by decide +kernel
theorem dX7_node_54 : decode cX7_node 54 = .ok (.iadd, 1) := by decide +kernel
theorem dX7_node_55 : decode cX7_node 55 = .ok (.iaload, 1) := by decide +kernel
theorem dX7_node_56 : decode cX7_node 56 = .ok (.ireturn, 1) := by decide +kernel
theorem dX7_node_57 : decode cX7_node 57 = .ok (.iload_n 1, 1) := by decide +kernel
theorem dX7_node_58 : decode cX7_node 58 = .ok (.ifCond .ne 12, 3) := by decide +kernel
theorem dX7_node_61 : decode cX7_node 61 = .ok (.aload_n 0, 1) := by decide +kernel
theorem dX7_node_62 : decode cX7_node 62 = .ok (.getfield 7, 3) := by decide +kernel
theorem dX7_node_65 : decode cX7_node 65 = .ok (.iconst 0, 1) := by decide +kernel
theorem dX7_node_66 : decode cX7_node 66 = .ok (.iaload, 1) := by decide +kernel
theorem dX7_node_67 : decode cX7_node 67 = .ok (.goto 29, 3) := by decide +kernel
theorem dX7_node_70 : decode cX7_node 70 = .ok (.iload_n 2, 1) := by decide +kernel
theorem dX7_node_71 : decode cX7_node 71 = .ok (.ifCond .ne 16, 3) := by decide +kernel
theorem dX7_node_74 : decode cX7_node 74 = .ok (.aload_n 0, 1) := by decide +kernel
theorem dX7_node_75 : decode cX7_node 75 = .ok (.getfield 7, 3) := by decide +kernel
theorem dX7_node_78 : decode cX7_node 78 = .ok (.aload_n 0, 1) := by decide +kernel
theorem dX7_node_79 : decode cX7_node 79 = .ok (.iload_n 1, 1) := by decide +kernel
theorem dX7_node_80 : decode cX7_node 80 = .ok (.invokevirtual 165, 3) := by decide +kernel
theorem dX7_node_83 : decode cX7_node 83 = .ok (.iaload, 1) := by decide +kernel
theorem dX7_node_84 : decode cX7_node 84 = .ok (.goto 12, 3) := by decide +kernel
theorem dX7_node_87 : decode cX7_node 87 = .ok (.aload_n 0, 1) := by decide +kernel
theorem dX7_node_88 : decode cX7_node 88 = .ok (.aload_n 0, 1) := by decide +kernel
theorem dX7_node_89 : decode cX7_node 89 = .ok (.iload_n 1, 1) := by decide +kernel
theorem dX7_node_90 : decode cX7_node 90 = .ok (.invokevirtual 165, 3) := by decide +kernel
theorem dX7_node_93 : decode cX7_node 93 = .ok (.invokevirtual 59, 3) := by decide +kernel
theorem dX7_node_96 : decode cX7_node 96 = .ok (.ireturn, 1) := by decide +kernel
theorem dX7_novel_0 : decode cX7_novel 0 = .ok (.aload_n 0, 1) := by decide +kernel
theorem dX7_novel_1 : decode cX7_novel 1 = .ok (.iload_n 1, 1) := by decide +kernel
theorem dX7_novel_2 : decode cX7_novel 2 = .ok (.invokevirtual 162, 3) := by decide +kernel
theorem dX7_novel_5 : decode cX7_novel 5 = .ok (.ifCond .eq 11, 3) := by decide +kernel
theorem dX7_novel_8 : decode cX7_novel 8 = .ok (.aload_n 0, 1) := by decide +kernel
theorem dX7_novel_9 : decode cX7_novel 9 = .ok (.iload_n 2, 1) := by decide +kernel
theorem dX7_novel_10 : decode cX7_novel 10 = .ok (.invokevirtual 153, 3) := by decide +kernel
theorem dX7_novel_13 : decode cX7_novel 13 = .ok (.ifCond .ne 5, 3) := by decide +kernel
theorem dX7_novel_16 : decode cX7_novel 16 = .ok (.iconst (-1), 1) := by decide +kernel
theorem dX7_novel_17 : decode cX7_novel 17 = .ok (.ireturn, 1) := by decide +kernel
theorem dX7_novel_18 : decode cX7_novel 18 = .ok (.aload_n 0, 1) := by decide +kernel
theorem dX7_novel_19 : decode cX7_novel 19 = .ok (.aload_n 0, 1) := by decide +kernel
theorem dX7_novel_20 : decode cX7_novel 20 = .ok (.iload_n 1, 1) := by decide +kernel
theorem dX7_novel_21 : decode cX7_novel 21 = .ok (.invokevirtual 165, 3) := by decide +kernel
theorem dX7_novel_24 : decode cX7_novel 24 = .ok (.iload_n 2, 1) := by decide +kernel
theorem dX7_novel_25 : decode cX7_novel 25 = .ok (.invokevirtual 95, 3) := by decide +kernel
theorem dX7_novel_28 : decode cX7_novel 28 = .ok (.ifCond .eq 7, 3) := by decide +kernel
theorem dX7_novel_31 : decode cX7_novel 31 = .ok (.iconst 1, 1) := by decide +kernel
theorem dX7_novel_32 : decode cX7_novel 32 = .ok (.goto 4, 3) := by decide +kernel
theorem dX7_novel_35 : decode cX7_novel 35 = .ok (.iconst 0, 1) := by decide +kernel
theorem dX7_novel_36 : decode cX7_novel 36 = .ok (.ireturn, 1) := by decide +kernel
theorem dX7_overhead_0 : decode cX7_overhead 0 = .ok (.aload_n 0, 1) := by decide +kernel
theorem dX7_overhead_1 : decode cX7_overhead 1 = .ok (.getfield 7, 3) := by decide +kernel
theorem dX7_overhead_4 : decode cX7_overhead 4 = .ok (.bipush 61, 2) := by decide +kernel
theorem dX7_overhead_6 : decode cX7_overhead 6 = .ok (.iaload, 1) := by decide +kernel
theorem dX7_overhead_7 : decode cX7_overhead 7 = .ok (.ifCond .ne 7, 3) := by decide +kernel
theorem dX7_overhead_10 : decode cX7_overhead 10 = .ok (.fconst 0, 1) := by decide +kernel
theorem dX7_overhead_11 : decode cX7_overhead 11 = .ok (.goto 20, 3) := by decide +kernel
theorem dX7_overhead_14 : decode cX7_overhead 14 = .ok (.aload_n 0, 1) := by decide +kernel
theorem dX7_overhead_15 : decode cX7_overhead 15 = .ok (.getfield 7, 3) := by decide +kernel
theorem dX7_overhead_18 : decode cX7_overhead 18 = .ok (.bipush 31, 2) := by decide +kernel
theorem dX7_overhead_20 : decode cX7_overhead 20 = .ok (.iaload, 1) := by decide +kernel
theorem dX7_overhead_21 : decode cX7_overhead 21 = .ok (.i2f, 1) := by decide +kernel
theorem dX7_overhead_22 : decode cX7_overhead 22 = .ok (.aload_n 0, 1) := by decide +kernel
theorem dX7_overhead_23 : decode cX7_overhead 23 = .ok (.getfield 7, 3) := by decide +kernel
theorem dX7_overhead_26 : decode cX7_overhead 26 = .ok (.bipush 61, 2) := by decide +kernel
theorem dX7_overhead_28 : decode cX7_overhead 28 = .ok (.iaload, 1) := by decide +kernel
theorem dX7_overhead_29 : decode cX7_overhead 29 = .ok (.i2f, 1) := by decide +kernel
theorem dX7_overhead_30 : decode cX7_overhead 30 = .ok (.fdiv, 1) := by decide +kernel
theorem dX7_overhead_31 : decode cX7_overhead 31 = .ok (.freturn, 1) := by decide +kernel
theorem dX7_hold_0 : decode cX7_hold 0 = .ok (.iconst 0, 1) := by decide +kernel
theorem dX7_hold_1 : decode cX7_hold 1 = .ok (.istore_n 1, 1) := by decide +kernel
theorem dX7_hold_2 : decode cX7_hold 2 = .ok (.iload_n 1, 1) := by decide +kernel
theorem dX7_hold_3 : decode cX7_hold 3 = .ok (.sipush 165, 3) := by decide +kernel
theorem dX7_hold_6 : decode cX7_hold 6 = .ok (.if_icmp .ge 21, 3) := by decide +kernel
theorem dX7_hold_9 : decode cX7_hold 9 = .ok (.aload_n 0, 1) := by decide +kernel
theorem dX7_hold_10 : decode cX7_hold 10 = .ok (.getfield 31, 3) := by decide +kernel
theorem dX7_hold_13 : decode cX7_hold 13 = .ok (.iload_n 1, 1) := by decide +kernel
theorem dX7_hold_14 : decode cX7_hold 14 = .ok (.aload_n 0, 1) := by decide +kernel
theorem dX7_hold_15 : decode cX7_hold 15 = .ok (.getfield 7, 3) := by decide +kernel
theorem dX7_hold_18 : decode cX7_hold 18 = .ok (.iload_n 1, 1) := by decide +kernel
theorem dX7_hold_19 : decode cX7_hold 19 = .ok (.iaload, 1) := by decide +kernel
theorem dX7_hold_20 : decode cX7_hold 20 = .ok (.iastore, 1) := by decide +kernel
theorem dX7_hold_21 : decode cX7_hold 21 = .ok (.iinc 1 1, 3) := by decide +kernel
theorem dX7_hold_24 : decode cX7_hold 24 = .ok (.goto (-22), 3) := by decide +kernel
theorem dX7_hold_27 : decode cX7_hold 27 = .ok (.return_, 1) := by decide +kernel
theorem dX7_release_0 : decode cX7_release 0 = .ok (.iconst 0, 1) := by decide +kernel
theorem dX7_release_1 : decode cX7_release 1 = .ok (.istore_n 1, 1) := by decide +kernel
theorem dX7_release_2 : decode cX7_release 2 = .ok (.iload_n 1, 1) := by decide +kernel
theorem dX7_release_3 : decode cX7_release 3 = .ok (.sipush 165, 3) := by decide +kernel
theorem dX7_release_6 : decode cX7_release 6 = .ok (.if_icmp .ge 21, 3) := by decide +kernel
theorem dX7_release_9 : decode cX7_release 9 = .ok (.aload_n 0, 1) := by decide +kernel
theorem dX7_release_10 : decode cX7_release 10 = .ok (.getfield 7, 3) := by decide +kernel
theorem dX7_release_13 : decode cX7_release 13 = .ok (.iload_n 1, 1) := by decide +kernel
theorem dX7_release_14 : decode cX7_release 14 = .ok (.aload_n 0, 1) := by decide +kernel
theorem dX7_release_15 : decode cX7_release 15 = .ok (.getfield 31, 3) := by decide +kernel
theorem dX7_release_18 : decode cX7_release 18 = .ok (.iload_n 1, 1) := by decide +kernel
theorem dX7_release_19 : decode cX7_release 19 = .ok (.iaload, 1) := by decide +kernel
theorem dX7_release_20 : decode cX7_release 20 = .ok (.iastore, 1) := by decide +kernel
theorem dX7_release_21 : decode cX7_release 21 = .ok (.iinc 1 1, 3) := by decide +kernel
theorem dX7_release_24 : decode cX7_release 24 = .ok (.goto (-22), 3) := by decide +kernel
theorem dX7_release_27 : decode cX7_release 27 = .ok (.return_, 1) := by decide +kernel
theorem dX7_isWhole_0 : decode cX7_isWhole 0 = .ok (.iload_n 1, 1) := by decide +kernel
theorem dX7_isWhole_1 : decode cX7_isWhole 1 = .ok (.ifCond .ne 10, 3) := by decide +kernel
theorem dX7_isWhole_4 : decode cX7_isWhole 4 = .ok (.aload_n 0, 1) := by decide +kernel
theorem dX7_isWhole_5 : decode cX7_isWhole 5 = .ok (.invokevirtual 156, 3) := by decide +kernel
theorem dX7_isWhole_8 : decode cX7_isWhole 8 = .ok (.goto 10, 3) := by decide +kernel
theorem dX7_isWhole_11 : decode cX7_isWhole 11 = .ok (.aload_n 0, 1) := by decide +kernel
theorem dX7_isWhole_12 : decode cX7_isWhole 12 = .ok (.getfield 7, 3) := by decide +kernel
theorem dX7_isWhole_15 : decode cX7_isWhole 15 = .ok (.bipush 61, 2) := by decide +kernel
theorem dX7_isWhole_17 : decode cX7_isWhole 17 = .ok (.iaload, 1) := by decide +kernel
theorem dX7_isWhole_18 : decode cX7_isWhole 18 = .ok (.aload_n 0, 1) := by decide +kernel
theorem dX7_isWhole_19 : decode cX7_isWhole 19 = .ok (.getfield 7, 3) := by decide +kernel
theorem dX7_isWhole_22 : decode cX7_isWhole 22 = .ok (.iconst 0, 1) := by decide +kernel
theorem dX7_isWhole_23 : decode cX7_isWhole 23 = .ok (.iaload, 1) := by decide +kernel
theorem dX7_isWhole_24 : decode cX7_isWhole 24 = .ok (.if_icmp .ne 7, 3) := by decide +kernel
theorem dX7_isWhole_27 : decode cX7_isWhole 27 = .ok (.iconst 1, 1) := by decide +kernel
theorem dX7_isWhole_28 : decode cX7_isWhole 28 = .ok (.goto 4, 3) := by decide +kernel
theorem dX7_isWhole_31 : decode cX7_isWhole 31 = .ok (.iconst 0, 1) := by decide +kernel
theorem dX7_isWhole_32 : decode cX7_isWhole 32 = .ok (.ireturn, 1) := by decide +kernel
theorem dX7_ticksTo_0 : decode cX7_ticksTo 0 = .ok (.iconst 0, 1) := by decide +kernel
theorem dX7_ticksTo_1 : decode cX7_ticksTo 1 = .ok (.istore_n 3, 1) := by decide +kernel
theorem dX7_ticksTo_2 : decode cX7_ticksTo 2 = .ok (.iload_n 3, 1) := by decide +kernel
theorem dX7_ticksTo_3 : decode cX7_ticksTo 3 = .ok (.iload_n 2, 1) := by decide +kernel
theorem dX7_ticksTo_4 : decode cX7_ticksTo 4 = .ok (.if_icmp .ge 21, 3) := by decide +kernel
theorem dX7_ticksTo_7 : decode cX7_ticksTo 7 = .ok (.aload_n 0, 1) := by decide +kernel
theorem dX7_ticksTo_8 : decode cX7_ticksTo 8 = .ok (.iload_n 1, 1) := by decide +kernel
theorem dX7_ticksTo_9 : decode cX7_ticksTo 9 = .ok (.invokevirtual 172, 3) := by decide +kernel
theorem dX7_ticksTo_12 : decode cX7_ticksTo 12 = .ok (.ifCond .ne 13, 3) := by decide +kernel
theorem dX7_ticksTo_15 : decode cX7_ticksTo 15 = .ok (.aload_n 0, 1) := by decide +kernel
theorem dX7_ticksTo_16 : decode cX7_ticksTo 16 = .ok (.invokevirtual 150, 3) := by decide +kernel
theorem dX7_ticksTo_19 : decode cX7_ticksTo 19 = .ok (.iinc 3 1, 3) := by decide +kernel
theorem dX7_ticksTo_22 : decode cX7_ticksTo 22 = .ok (.goto (-20), 3) := by decide +kernel
theorem dX7_ticksTo_25 : decode cX7_ticksTo 25 = .ok (.aload_n 0, 1) := by decide +kernel
theorem dX7_ticksTo_26 : decode cX7_ticksTo 26 = .ok (.iload_n 1, 1) := by decide +kernel
theorem dX7_ticksTo_27 : decode cX7_ticksTo 27 = .ok (.invokevirtual 172, 3) := by decide +kernel
theorem dX7_ticksTo_30 : decode cX7_ticksTo 30 = .ok (.ifCond .eq 7, 3) := by decide +kernel
theorem dX7_ticksTo_33 : decode cX7_ticksTo 33 = .ok (.iload_n 3, 1) := by decide +kernel
theorem dX7_ticksTo_34 : decode cX7_ticksTo 34 = .ok (.goto 5, 3) := by decide +kernel
theorem dX7_ticksTo_37 : decode cX7_ticksTo 37 = .ok (.bipush (-9), 2) := by decide +kernel
theorem dX7_ticksTo_39 : decode cX7_ticksTo 39 = .ok (.ireturn, 1) := by decide +kernel
theorem dX7_forecast_0 : decode cX7_forecast 0 = .ok (.iload_n 1, 1) := by decide +kernel
theorem dX7_forecast_1 : decode cX7_forecast 1 = .ok (.iconst 0, 1) := by decide +kernel
theorem dX7_forecast_2 : decode cX7_forecast 2 = .ok (.iconst 1, 1) := by decide +kernel
theorem dX7_forecast_3 : decode cX7_forecast 3 = .ok (.invokestatic 136, 3) := by decide +kernel
theorem dX7_forecast_6 : decode cX7_forecast 6 = .ok (.ifCond .ne 5, 3) := by decide +kernel
theorem dX7_forecast_9 : decode cX7_forecast 9 = .ok (.iconst (-1), 1) := by decide +kernel
theorem dX7_forecast_10 : decode cX7_forecast 10 = .ok (.ireturn, 1) := by decide +kernel
theorem dX7_forecast_11 : decode cX7_forecast 11 = .ok (.aload_n 0, 1) := by decide +kernel
theorem dX7_forecast_12 : decode cX7_forecast 12 = .ok (.invokevirtual 175, 3) := by decide +kernel
theorem dX7_forecast_15 : decode cX7_forecast 15 = .ok (.aload_n 0, 1) := by decide +kernel
theorem dX7_forecast_16 : decode cX7_forecast 16 = .ok (.iload_n 1, 1) := by decide +kernel
theorem dX7_forecast_17 : decode cX7_forecast 17 = .ok (.sipush 300, 3) := by decide +kernel
theorem dX7_forecast_20 : decode cX7_forecast 20 = .ok (.invokevirtual 178, 3) := by decide +kernel
theorem dX7_forecast_23 : decode cX7_forecast 23 = .ok (.istore_n 2, 1) := by decide +kernel
theorem dX7_forecast_24 : decode cX7_forecast 24 = .ok (.aload_n 0, 1) := by decide +kernel
theorem dX7_forecast_25 : decode cX7_forecast 25 = .ok (.invokevirtual 181, 3) := by decide +kernel
theorem dX7_forecast_28 : decode cX7_forecast 28 = .ok (.iload_n 2, 1) := by decide +kernel
theorem dX7_forecast_29 : decode cX7_forecast 29 = .ok (.ireturn, 1) := by decide +kernel
theorem dX7_bestPolicy_0 : decode cX7_bestPolicy 0 = .ok (.aload_n 0, 1) := by decide +kernel
theorem dX7_bestPolicy_1 : decode cX7_bestPolicy 1 = .ok (.invokevirtual 175, 3) := by decide +kernel
theorem dX7_bestPolicy_4 : decode cX7_bestPolicy 4 = .ok (.bipush (-9), 2) := by decide +kernel
theorem dX7_bestPolicy_6 : decode cX7_bestPolicy 6 = .ok (.istore_n 1, 1) := by decide +kernel
theorem dX7_bestPolicy_7 : decode cX7_bestPolicy 7 = .ok (.sipush 301, 3) := by decide +kernel
theorem dX7_bestPolicy_10 : decode cX7_bestPolicy 10 = .ok (.istore_n 2, 1) := by decide +kernel
theorem dX7_bestPolicy_11 : decode cX7_bestPolicy 11 = .ok (.iconst 0, 1) := by decide +kernel
theorem dX7_bestPolicy_12 : decode cX7_bestPolicy 12 = .ok (.istore_n 3, 1) := by decide +kernel
theorem dX7_bestPolicy_13 : decode cX7_bestPolicy 13 = .ok (.iload_n 3, 1) := by decide +kernel
theorem dX7_bestPolicy_14 : decode cX7_bestPolicy 14 = .ok (.iconst 4, 1) := by decide +kernel
theorem dX7_bestPolicy_15 : decode cX7_bestPolicy 15 = .ok (.if_icmp .ge 48, 3) := by decide +kernel
theorem dX7_bestPolicy_18 : decode cX7_bestPolicy 18 = .ok (.aload_n 0, 1) := by decide +kernel
theorem dX7_bestPolicy_19 : decode cX7_bestPolicy 19 = .ok (.getfield 7, 3) := by decide +kernel
theorem dX7_bestPolicy_22 : decode cX7_bestPolicy 22 = .ok (.iconst 4, 1) := by decide +kernel
theorem dX7_bestPolicy_23 : decode cX7_bestPolicy 23 = .ok (.iload_n 3, 1) := by decide +kernel
theorem dX7_bestPolicy_24 : decode cX7_bestPolicy 24 = .ok (.iastore, 1) := by decide +kernel
theorem dX7_bestPolicy_25 : decode cX7_bestPolicy 25 = .ok (.aload_n 0, 1) := by decide +kernel
theorem dX7_bestPolicy_26 : decode cX7_bestPolicy 26 = .ok (.iconst 1, 1) := by decide +kernel
theorem dX7_bestPolicy_27 : decode cX7_bestPolicy 27 = .ok (.sipush 300, 3) := by decide +kernel
theorem dX7_bestPolicy_30 : decode cX7_bestPolicy 30 = .ok (.invokevirtual 178, 3) := by decide +kernel
theorem dX7_bestPolicy_33 : decode cX7_bestPolicy 33 = .ok (.istore 4, 2) := by decide +kernel
theorem dX7_bestPolicy_35 : decode cX7_bestPolicy 35 = .ok (.aload_n 0, 1) := by decide +kernel
theorem dX7_bestPolicy_36 : decode cX7_bestPolicy 36 = .ok (.invokevirtual 181, 3) := by decide +kernel
theorem dX7_bestPolicy_39 : decode cX7_bestPolicy 39 = .ok (.iload 4, 2) := by decide +kernel
theorem dX7_bestPolicy_41 : decode cX7_bestPolicy 41 = .ok (.bipush (-9), 2) := by decide +kernel
theorem dX7_bestPolicy_43 : decode cX7_bestPolicy 43 = .ok (.if_icmp .eq 14, 3) := by decide +kernel
theorem dX7_bestPolicy_46 : decode cX7_bestPolicy 46 = .ok (.iload 4, 2) := by decide +kernel
theorem dX7_bestPolicy_48 : decode cX7_bestPolicy 48 = .ok (.iload_n 2, 1) := by decide +kernel
theorem dX7_bestPolicy_49 : decode cX7_bestPolicy 49 = .ok (.if_icmp .ge 8, 3) := by decide +kernel
theorem dX7_bestPolicy_52 : decode cX7_bestPolicy 52 = .ok (.iload_n 3, 1) := by decide +kernel
theorem dX7_bestPolicy_53 : decode cX7_bestPolicy 53 = .ok (.istore_n 1, 1) := by decide +kernel
theorem dX7_bestPolicy_54 : decode cX7_bestPolicy 54 = .ok (.iload 4, 2) := by decide +kernel
theorem dX7_bestPolicy_56 : decode cX7_bestPolicy 56 = .ok (.istore_n 2, 1) := by decide +kernel
theorem dX7_bestPolicy_57 : decode cX7_bestPolicy 57 = .ok (.iinc 3 1, 3) := by decide +kernel
theorem dX7_bestPolicy_60 : decode cX7_bestPolicy 60 = .ok (.goto (-47), 3) := by decide +kernel
theorem dX7_bestPolicy_63 : decode cX7_bestPolicy 63 = .ok (.iload_n 1, 1) := by decide +kernel
theorem dX7_bestPolicy_64 : decode cX7_bestPolicy 64 = .ok (.ireturn, 1) := by decide +kernel
theorem dX7_bearable_0 : decode cX7_bearable 0 = .ok (.iload_n 1, 1) := by decide +kernel
theorem dX7_bearable_1 : decode cX7_bearable 1 = .ok (.iconst 0, 1) := by decide +kernel
theorem dX7_bearable_2 : decode cX7_bearable 2 = .ok (.aload_n 0, 1) := by decide +kernel
theorem dX7_bearable_3 : decode cX7_bearable 3 = .ok (.getfield 7, 3) := by decide +kernel
theorem dX7_bearable_6 : decode cX7_bearable 6 = .ok (.iconst 1, 1) := by decide +kernel
theorem dX7_bearable_7 : decode cX7_bearable 7 = .ok (.iaload, 1) := by decide +kernel
theorem dX7_bearable_8 : decode cX7_bearable 8 = .ok (.invokestatic 136, 3) := by decide +kernel
theorem dX7_bearable_11 : decode cX7_bearable 11 = .ok (.ifCond .eq 13, 3) := by decide +kernel
theorem dX7_bearable_14 : decode cX7_bearable 14 = .ok (.iload_n 2, 1) := by decide +kernel
theorem dX7_bearable_15 : decode cX7_bearable 15 = .ok (.iconst 0, 1) := by decide +kernel
theorem dX7_bearable_16 : decode cX7_bearable 16 = .ok (.bipush 100, 2) := by decide +kernel
theorem dX7_bearable_18 : decode cX7_bearable 18 = .ok (.invokestatic 136, 3) := by decide +kernel
theorem dX7_bearable_21 : decode cX7_bearable 21 = .ok (.ifCond .ne 5, 3) := by decide +kernel
theorem dX7_bearable_24 : decode cX7_bearable 24 = .ok (.iconst (-1), 1) := by decide +kernel
theorem dX7_bearable_25 : decode cX7_bearable 25 = .ok (.ireturn, 1) := by decide +kernel
theorem dX7_bearable_26 : decode cX7_bearable 26 = .ok (.aload_n 0, 1) := by decide +kernel
theorem dX7_bearable_27 : decode cX7_bearable 27 = .ok (.invokevirtual 175, 3) := by decide +kernel
theorem dX7_bearable_30 : decode cX7_bearable 30 = .ok (.bipush 99, 2) := by decide +kernel
theorem dX7_bearable_32 : decode cX7_bearable 32 = .ok (.istore_n 3, 1) := by decide +kernel
theorem dX7_bearable_33 : decode cX7_bearable 33 = .ok (.iload_n 3, 1) := by decide +kernel
theorem dX7_bearable_34 : decode cX7_bearable 34 = .ok (.ifCond .lt 40, 3) := by decide +kernel
theorem dX7_bearable_37 : decode cX7_bearable 37 = .ok (.aload_n 0, 1) := by decide +kernel
theorem dX7_bearable_38 : decode cX7_bearable 38 = .ok (.getfield 7, 3) := by decide +kernel
theorem dX7_bearable_41 : decode cX7_bearable 41 = .ok (.bipush 7, 2) := by decide +kernel
theorem dX7_bearable_43 : decode cX7_bearable 43 = .ok (.iload_n 1, 1) := by decide +kernel
theorem dX7_bearable_44 : decode cX7_bearable 44 = .ok (.iadd, 1) := by decide +kernel
theorem dX7_bearable_45 : decode cX7_bearable 45 = .ok (.iload_n 3, 1) := by decide +kernel
theorem dX7_bearable_46 : decode cX7_bearable 46 = .ok (.iastore, 1) := by decide +kernel
theorem dX7_bearable_47 : decode cX7_bearable 47 = .ok (.aload_n 0, 1) := by decide +kernel
theorem dX7_bearable_48 : decode cX7_bearable 48 = .ok (.iconst 1, 1) := by decide +kernel
theorem dX7_bearable_49 : decode cX7_bearable 49 = .ok (.iload_n 2, 1) := by decide +kernel
theorem dX7_bearable_50 : decode cX7_bearable 50 = .ok (.invokevirtual 178, 3) := by decide +kernel
theorem dX7_bearable_53 : decode cX7_bearable 53 = .ok (.istore 4, 2) := by decide +kernel
theorem dX7_bearable_55 : decode cX7_bearable 55 = .ok (.aload_n 0, 1) := by decide +kernel
theorem dX7_bearable_56 : decode cX7_bearable 56 = .ok (.invokevirtual 181, 3) := by decide +kernel
theorem dX7_bearable_59 : decode cX7_bearable 59 = .ok (.iload 4, 2) := by decide +kernel
theorem dX7_bearable_61 : decode cX7_bearable 61 = .ok (.bipush (-9), 2) := by decide +kernel
theorem dX7_bearable_63 : decode cX7_bearable 63 = .ok (.if_icmp .eq 5, 3) := by decide +kernel
theorem dX7_bearable_66 : decode cX7_bearable 66 = .ok (.iload_n 3, 1) := by decide +kernel
theorem dX7_bearable_67 : decode cX7_bearable 67 = .ok (.ireturn, 1) := by decide +kernel
theorem dX7_bearable_68 : decode cX7_bearable 68 = .ok (.iinc 3 (-1), 3) := by decide +kernel
theorem dX7_bearable_71 : decode cX7_bearable 71 = .ok (.goto (-38), 3) := by decide +kernel
theorem dX7_bearable_74 : decode cX7_bearable 74 = .ok (.bipush (-9), 2) := by decide +kernel
theorem dX7_bearable_76 : decode cX7_bearable 76 = .ok (.ireturn, 1) := by decide +kernel
theorem dX7_isImage_0 : decode cX7_isImage 0 = .ok (.iload_n 0, 1) := by decide +kernel
theorem dX7_isImage_1 : decode cX7_isImage 1 = .ok (.iconst 0, 1) := by decide +kernel
theorem dX7_isImage_2 : decode cX7_isImage 2 = .ok (.iconst 1, 1) := by decide +kernel
theorem dX7_isImage_3 : decode cX7_isImage 3 = .ok (.invokestatic 136, 3) := by decide +kernel
theorem dX7_isImage_6 : decode cX7_isImage 6 = .ok (.ireturn, 1) := by decide +kernel
theorem dX7_keep_0 : decode cX7_keep 0 = .ok (.iload_n 1, 1) := by decide +kernel
theorem dX7_keep_1 : decode cX7_keep 1 = .ok (.invokestatic 184, 3) := by decide +kernel
theorem dX7_keep_4 : decode cX7_keep 4 = .ok (.ifCond .ne 5, 3) := by decide +kernel
theorem dX7_keep_7 : decode cX7_keep 7 = .ok (.iconst (-1), 1) := by decide +kernel
theorem dX7_keep_8 : decode cX7_keep 8 = .ok (.ireturn, 1) := by decide +kernel
theorem dX7_keep_9 : decode cX7_keep 9 = .ok (.iconst 0, 1) := by decide +kernel
theorem dX7_keep_10 : decode cX7_keep 10 = .ok (.istore_n 2, 1) := by decide +kernel
theorem dX7_keep_11 : decode cX7_keep 11 = .ok (.iload_n 2, 1) := by decide +kernel
theorem dX7_keep_12 : decode cX7_keep 12 = .ok (.sipush 165, 3) := by decide +kernel
theorem dX7_keep_15 : decode cX7_keep 15 = .ok (.if_icmp .ge 27, 3) := by decide +kernel
theorem dX7_keep_18 : decode cX7_keep 18 = .ok (.aload_n 0, 1) := by decide +kernel
theorem dX7_keep_19 : decode cX7_keep 19 = .ok (.getfield 16, 3) := by decide +kernel
theorem dX7_keep_22 : decode cX7_keep 22 = .ok (.sipush 165, 3) := by decide +kernel
theorem dX7_keep_25 : decode cX7_keep 25 = .ok (.iload_n 1, 1) := by decide +kernel
theorem dX7_keep_26 : decode cX7_keep 26 = .ok (.imul, 1) := by decide +kernel
theorem dX7_keep_27 : decode cX7_keep 27 = .ok (.iload_n 2, 1) := by decide +kernel
theorem dX7_keep_28 : decode cX7_keep 28 = .ok (.iadd, 1) := by decide +kernel
theorem dX7_keep_29 : decode cX7_keep 29 = .ok (.aload_n 0, 1) := by decide +kernel
theorem dX7_keep_30 : decode cX7_keep 30 = .ok (.getfield 7, 3) := by decide +kernel
theorem dX7_keep_33 : decode cX7_keep 33 = .ok (.iload_n 2, 1) := by decide +kernel
theorem dX7_keep_34 : decode cX7_keep 34 = .ok (.iaload, 1) := by decide +kernel
theorem dX7_keep_35 : decode cX7_keep 35 = .ok (.iastore, 1) := by decide +kernel
theorem dX7_keep_36 : decode cX7_keep 36 = .ok (.iinc 2 1, 3) := by decide +kernel
theorem dX7_keep_39 : decode cX7_keep 39 = .ok (.goto (-28), 3) := by decide +kernel
theorem dX7_keep_42 : decode cX7_keep 42 = .ok (.aload_n 0, 1) := by decide +kernel
theorem dX7_keep_43 : decode cX7_keep 43 = .ok (.dup, 1) := by decide +kernel
theorem dX7_keep_44 : decode cX7_keep 44 = .ok (.getfield 187, 3) := by decide +kernel
theorem dX7_keep_47 : decode cX7_keep 47 = .ok (.iconst 1, 1) := by decide +kernel
theorem dX7_keep_48 : decode cX7_keep 48 = .ok (.iload_n 1, 1) := by decide +kernel
theorem dX7_keep_49 : decode cX7_keep 49 = .ok (.ishl, 1) := by decide +kernel
theorem dX7_keep_50 : decode cX7_keep 50 = .ok (.ior, 1) := by decide +kernel
theorem dX7_keep_51 : decode cX7_keep 51 = .ok (.putfield 187, 3) := by decide +kernel
theorem dX7_keep_54 : decode cX7_keep 54 = .ok (.aload_n 0, 1) := by decide +kernel
theorem dX7_keep_55 : decode cX7_keep 55 = .ok (.getfield 7, 3) := by decide +kernel
theorem dX7_keep_58 : decode cX7_keep 58 = .ok (.iconst 2, 1) := by decide +kernel
theorem dX7_keep_59 : decode cX7_keep 59 = .ok (.iaload, 1) := by decide +kernel
theorem dX7_keep_60 : decode cX7_keep 60 = .ok (.ireturn, 1) := by decide +kernel
theorem dX7_back_0 : decode cX7_back 0 = .ok (.iload_n 1, 1) := by decide +kernel
theorem dX7_back_1 : decode cX7_back 1 = .ok (.invokestatic 184, 3) := by decide +kernel
theorem dX7_back_4 : decode cX7_back 4 = .ok (.ifCond .ne 5, 3) := by decide +kernel
theorem dX7_back_7 : decode cX7_back 7 = .ok (.iconst (-1), 1) := by decide +kernel
theorem dX7_back_8 : decode cX7_back 8 = .ok (.ireturn, 1) := by decide +kernel
theorem dX7_back_9 : decode cX7_back 9 = .ok (.aload_n 0, 1) := by decide +kernel
theorem dX7_back_10 : decode cX7_back 10 = .ok (.getfield 187, 3) := by decide +kernel
theorem dX7_back_13 : decode cX7_back 13 = .ok (.iload_n 1, 1) := by decide +kernel
theorem dX7_back_14 : decode cX7_back 14 = .ok (.ishr, 1) := by decide +kernel
theorem dX7_back_15 : decode cX7_back 15 = .ok (.iconst 1, 1) := by decide +kernel
theorem dX7_back_16 : decode cX7_back 16 = .ok (.iand, 1) := by decide +kernel
theorem dX7_back_17 : decode cX7_back 17 = .ok (.ifCond .ne 6, 3) := by decide +kernel
theorem dX7_back_20 : decode cX7_back 20 = .ok (.bipush (-2), 2) := by decide +kernel
theorem dX7_back_22 : decode cX7_back 22 = .ok (.ireturn, 1) := by decide +kernel
theorem dX7_back_23 : decode cX7_back 23 = .ok (.aload_n 0, 1) := by decide +kernel
theorem dX7_back_24 : decode cX7_back 24 = .ok (.invokevirtual 140, 3) := by decide +kernel
theorem dX7_back_27 : decode cX7_back 27 = .ok (.iconst 0, 1) := by decide +kernel
theorem dX7_back_28 : decode cX7_back 28 = .ok (.istore_n 2, 1) := by decide +kernel
theorem dX7_back_29 : decode cX7_back 29 = .ok (.iload_n 2, 1) := by decide +kernel
theorem dX7_back_30 : decode cX7_back 30 = .ok (.sipush 165, 3) := by decide +kernel
theorem dX7_back_33 : decode cX7_back 33 = .ok (.if_icmp .ge 27, 3) := by decide +kernel
theorem dX7_back_36 : decode cX7_back 36 = .ok (.aload_n 0, 1) := by decide +kernel
theorem dX7_back_37 : decode cX7_back 37 = .ok (.getfield 7, 3) := by decide +kernel
theorem dX7_back_40 : decode cX7_back 40 = .ok (.iload_n 2, 1) := by decide +kernel
theorem dX7_back_41 : decode cX7_back 41 = .ok (.aload_n 0, 1) := by decide +kernel
theorem dX7_back_42 : decode cX7_back 42 = .ok (.getfield 16, 3) := by decide +kernel
theorem dX7_back_45 : decode cX7_back 45 = .ok (.sipush 165, 3) := by decide +kernel
theorem dX7_back_48 : decode cX7_back 48 = .ok (.iload_n 1, 1) := by decide +kernel
theorem dX7_back_49 : decode cX7_back 49 = .ok (.imul, 1) := by decide +kernel
theorem dX7_back_50 : decode cX7_back 50 = .ok (.iload_n 2, 1) := by decide +kernel
theorem dX7_back_51 : decode cX7_back 51 = .ok (.iadd, 1) := by decide +kernel
theorem dX7_back_52 : decode cX7_back 52 = .ok (.iaload, 1) := by decide +kernel
theorem dX7_back_53 : decode cX7_back 53 = .ok (.iastore, 1) := by decide +kernel
theorem dX7_back_54 : decode cX7_back 54 = .ok (.iinc 2 1, 3) := by decide +kernel
theorem dX7_back_57 : decode cX7_back 57 = .ok (.goto (-28), 3) := by decide +kernel
theorem dX7_back_60 : decode cX7_back 60 = .ok (.aload_n 0, 1) := by decide +kernel
theorem dX7_back_61 : decode cX7_back 61 = .ok (.getfield 7, 3) := by decide +kernel
theorem dX7_back_64 : decode cX7_back 64 = .ok (.iconst 2, 1) := by decide +kernel
theorem dX7_back_65 : decode cX7_back 65 = .ok (.iaload, 1) := by decide +kernel
theorem dX7_back_66 : decode cX7_back 66 = .ok (.ireturn, 1) := by decide +kernel
