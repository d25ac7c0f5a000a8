theorem dX5_noteAsked_0 : decode cX5_noteAsked 0 = .ok (.aload_n 0, 1) := by decide +kernel
theorem dX5_noteAsked_1 : decode cX5_noteAsked 1 = .ok (.getfield 18, 3) := by decide +kernel
theorem dX5_noteAsked_4 : decode cX5_noteAsked 4 = .ok (.bipush 8, 2) := by decide +kernel
theorem dX5_noteAsked_29 : decode cX5_noteAsked 29 = .ok (.return_, 1) := by decide +kernel
theorem dX5_noteAsked_6 : decode cX5_noteAsked 6 = .ok (.if_icmp .ge 23, 3) := by decide +kernel
theorem dX5_noteAsked_9 : decode cX5_noteAsked 9 = .ok (.aload_n 0, 1) := by decide +kernel
theorem dX5_noteAsked_10 : decode cX5_noteAsked 10 = .ok (.getfield 15, 3) := by decide +kernel
theorem dX5_noteAsked_13 : decode cX5_noteAsked 13 = .ok (.aload_n 0, 1) := by decide +kernel
theorem dX5_noteAsked_14 : decode cX5_noteAsked 14 = .ok (.getfield 18, 3) := by decide +kernel
theorem dX5_noteAsked_17 : decode cX5_noteAsked 17 = .ok (.iload_n 1, 1) := by decide +kernel
theorem dX5_noteAsked_18 : decode cX5_noteAsked 18 = .ok (.iastore, 1) := by decide +kernel
theorem dX5_noteAsked_19 : decode cX5_noteAsked 19 = .ok (.aload_n 0, 1) := by decide +kernel
theorem dX5_noteAsked_20 : decode cX5_noteAsked 20 = .ok (.dup, 1) := by decide +kernel
theorem dX5_noteAsked_21 : decode cX5_noteAsked 21 = .ok (.getfield 18, 3) := by decide +kernel
theorem dX5_noteAsked_24 : decode cX5_noteAsked 24 = .ok (.iconst 1, 1) := by decide +kernel
theorem dX5_noteAsked_25 : decode cX5_noteAsked 25 = .ok (.iadd, 1) := by decide +kernel
theorem dX5_noteAsked_26 : decode cX5_noteAsked 26 = .ok (.putfield 18, 3) := by decide +kernel
theorem dX5_moveSite_46 : decode cX5_moveSite 46 = .ok (.iload 5, 2) := by decide +kernel
theorem dX5_moveSite_48 : decode cX5_moveSite 48 = .ok (.aload_n 0, 1) := by decide +kernel
theorem dX5_moveSite_49 : decode cX5_moveSite 49 = .ok (.getfield 11, 3) := by decide +kernel
theorem dX5_moveSite_52 : decode cX5_moveSite 52 = .ok (.iconst 3, 1) := by decide +kernel
theorem dX5_moveSite_53 : decode cX5_moveSite 53 = .ok (.iaload, 1) := by decide +kernel
theorem dX5_moveSite_54 : decode cX5_moveSite 54 = .ok (.if_icmp .ge 99, 3) := by decide +kernel
theorem dX5_moveSite_57 : decode cX5_moveSite 57 = .ok (.iload 5, 2) := by decide +kernel
theorem dX5_moveSite_59 : decode cX5_moveSite 59 = .ok (.bipush 8, 2) := by decide +kernel
theorem dX5_moveSite_61 : decode cX5_moveSite 61 = .ok (.if_icmp .ge 92, 3) := by decide +kernel
theorem dX5_moveSite_64 : decode cX5_moveSite 64 = .ok (.aload_n 0, 1) := by decide +kernel
theorem dX5_moveSite_65 : decode cX5_moveSite 65 = .ok (.invokevirtual 83, 3) := by decide +kernel
theorem dX5_moveSite_68 : decode cX5_moveSite 68 = .ok (.ifCond .ne 85, 3) := by decide +kernel
theorem dX5_moveSite_71 : decode cX5_moveSite 71 = .ok (.iload_n 1, 1) := by decide +kernel
theorem dX5_moveSite_72 : decode cX5_moveSite 72 = .ok (.iload 5, 2) := by decide +kernel
theorem dX5_moveSite_74 : decode cX5_moveSite 74 = .ok (.iadd, 1) := by decide +kernel
theorem dX5_moveSite_75 : decode cX5_moveSite 75 = .ok (.aload_n 0, 1) := by decide +kernel
theorem dX5_moveSite_76 : decode cX5_moveSite 76 = .ok (.getfield 11, 3) := by decide +kernel
theorem dX5_moveSite_79 : decode cX5_moveSite 79 = .ok (.iconst 3, 1) := by decide +kernel
theorem dX5_moveSite_80 : decode cX5_moveSite 80 = .ok (.iaload, 1) := by decide +kernel
theorem dX5_moveSite_102 : decode cX5_moveSite 102 = .ok (.istore 6, 2) := by decide +kernel
theorem dX5_moveSite_104 : decode cX5_moveSite 104 = .ok (.aload_n 0, 1) := by decide +kernel
theorem dX5_moveSite_105 : decode cX5_moveSite 105 = .ok (.iload 6, 2) := by decide +kernel
theorem dX5_moveSite_107 : decode cX5_moveSite 107 = .ok (.invokevirtual 131, 3) := by decide +kernel
theorem dX5_moveSite_110 : decode cX5_moveSite 110 = .ok (.ifCond .eq 6, 3) := by decide +kernel
theorem dX5_moveSite_116 : decode cX5_moveSite 116 = .ok (.aload_n 0, 1) := by decide +kernel
theorem dX5_moveSite_117 : decode cX5_moveSite 117 = .ok (.iload 6, 2) := by decide +kernel
theorem dX5_moveSite_119 : decode cX5_moveSite 119 = .ok (.invokevirtual 153, 3) := by decide +kernel
theorem dX5_moveSite_122 : decode cX5_moveSite 122 = .ok (.iload 4, 2) := by decide +kernel
theorem dX5_moveSite_124 : decode cX5_moveSite 124 = .ok (.iconst 1, 1) := by decide +kernel
theorem dX5_moveSite_125 : decode cX5_moveSite 125 = .ok (.iload 6, 2) := by decide +kernel
theorem dX5_moveSite_127 : decode cX5_moveSite 127 = .ok (.ishl, 1) := by decide +kernel
theorem dX5_moveSite_128 : decode cX5_moveSite 128 = .ok (.ior, 1) := by decide +kernel
theorem dX5_moveSite_129 : decode cX5_moveSite 129 = .ok (.istore 4, 2) := by decide +kernel
theorem dX5_moveSite_131 : decode cX5_moveSite 131 = .ok (.aload_n 0, 1) := by decide +kernel
theorem dX5_moveSite_132 : decode cX5_moveSite 132 = .ok (.iload 4, 2) := by decide +kernel
theorem dX5_moveSite_134 : decode cX5_moveSite 134 = .ok (.invokevirtual 156, 3) := by decide +kernel
theorem dX5_moveSite_137 : decode cX5_moveSite 137 = .ok (.ifCond .eq 10, 3) := by decide +kernel
theorem dX5_moveSite_147 : decode cX5_moveSite 147 = .ok (.iinc 5 1, 3) := by decide +kernel
theorem dX5_moveSite_150 : decode cX5_moveSite 150 = .ok (.goto (-104), 3) := by decide +kernel
theorem dX5_moveSite_113 : decode cX5_moveSite 113 = .ok (.goto 34, 3) := by decide +kernel
theorem dX5_moveSite_81 : decode cX5_moveSite 81 = .ok (.if_icmp .ge 10, 3) := by decide +kernel
theorem dX5_moveSite_91 : decode cX5_moveSite 91 = .ok (.iload_n 1, 1) := by decide +kernel
theorem dX5_moveSite_92 : decode cX5_moveSite 92 = .ok (.iload 5, 2) := by decide +kernel
theorem dX5_moveSite_94 : decode cX5_moveSite 94 = .ok (.iadd, 1) := by decide +kernel
theorem dX5_moveSite_95 : decode cX5_moveSite 95 = .ok (.aload_n 0, 1) := by decide +kernel
theorem dX5_moveSite_96 : decode cX5_moveSite 96 = .ok (.getfield 11, 3) := by decide +kernel
theorem dX5_moveSite_99 : decode cX5_moveSite 99 = .ok (.iconst 3, 1) := by decide +kernel
theorem dX5_moveSite_100 : decode cX5_moveSite 100 = .ok (.iaload, 1) := by decide +kernel
theorem dX5_moveSite_101 : decode cX5_moveSite 101 = .ok (.isub, 1) := by decide +kernel
theorem dX5_moveSite_84 : decode cX5_moveSite 84 = .ok (.iload_n 1, 1) := by decide +kernel
theorem dX5_moveSite_85 : decode cX5_moveSite 85 = .ok (.iload 5, 2) := by decide +kernel
theorem dX5_moveSite_87 : decode cX5_moveSite 87 = .ok (.iadd, 1) := by decide +kernel
theorem dX5_moveSite_88 : decode cX5_moveSite 88 = .ok (.goto 14, 3) := by decide +kernel
theorem dX5_moveSite_0 : decode cX5_moveSite 0 = .ok (.aload_n 0, 1) := by decide +kernel
theorem dX5_moveSite_1 : decode cX5_moveSite 1 = .ok (.iconst 0, 1) := by decide +kernel
theorem dX5_moveSite_2 : decode cX5_moveSite 2 = .ok (.putfield 18, 3) := by decide +kernel
theorem dX5_moveSite_5 : decode cX5_moveSite 5 = .ok (.aload_n 0, 1) := by decide +kernel
theorem dX5_moveSite_6 : decode cX5_moveSite 6 = .ok (.iconst 0, 1) := by decide +kernel
theorem dX5_moveSite_7 : decode cX5_moveSite 7 = .ok (.putfield 22, 3) := by decide +kernel
theorem dX5_moveSite_10 : decode cX5_moveSite 10 = .ok (.aload_n 0, 1) := by decide +kernel
theorem dX5_moveSite_11 : decode cX5_moveSite 11 = .ok (.iload_n 1, 1) := by decide +kernel
theorem dX5_moveSite_12 : decode cX5_moveSite 12 = .ok (.iload_n 2, 1) := by decide +kernel
theorem dX5_moveSite_13 : decode cX5_moveSite 13 = .ok (.iload_n 3, 1) := by decide +kernel
theorem dX5_moveSite_14 : decode cX5_moveSite 14 = .ok (.invokevirtual 150, 3) := by decide +kernel
theorem dX5_moveSite_17 : decode cX5_moveSite 17 = .ok (.aload_n 0, 1) := by decide +kernel
theorem dX5_moveSite_18 : decode cX5_moveSite 18 = .ok (.iload_n 1, 1) := by decide +kernel
theorem dX5_moveSite_19 : decode cX5_moveSite 19 = .ok (.invokevirtual 99, 3) := by decide +kernel
theorem dX5_moveSite_22 : decode cX5_moveSite 22 = .ok (.ifCond .eq 5, 3) := by decide +kernel
theorem dX5_moveSite_27 : decode cX5_moveSite 27 = .ok (.aload_n 0, 1) := by decide +kernel
theorem dX5_moveSite_28 : decode cX5_moveSite 28 = .ok (.getfield 11, 3) := by decide +kernel
theorem dX5_moveSite_31 : decode cX5_moveSite 31 = .ok (.bipush 12, 2) := by decide +kernel
theorem dX5_moveSite_33 : decode cX5_moveSite 33 = .ok (.dup2, 1) := by decide +kernel
theorem dX5_moveSite_34 : decode cX5_moveSite 34 = .ok (.iaload, 1) := by decide +kernel
theorem dX5_moveSite_35 : decode cX5_moveSite 35 = .ok (.iconst 1, 1) := by decide +kernel
theorem dX5_moveSite_36 : decode cX5_moveSite 36 = .ok (.iadd, 1) := by decide +kernel
theorem dX5_moveSite_37 : decode cX5_moveSite 37 = .ok (.iastore, 1) := by decide +kernel
theorem dX5_moveSite_38 : decode cX5_moveSite 38 = .ok (.iconst 1, 1) := by decide +kernel
theorem dX5_moveSite_39 : decode cX5_moveSite 39 = .ok (.iload_n 1, 1) := by decide +kernel
theorem dX5_moveSite_40 : decode cX5_moveSite 40 = .ok (.ishl, 1) := by decide +kernel
theorem dX5_moveSite_41 : decode cX5_moveSite 41 = .ok (.istore 4, 2) := by decide +kernel
theorem dX5_moveSite_43 : decode cX5_moveSite 43 = .ok (.iconst 1, 1) := by decide +kernel
theorem dX5_moveSite_44 : decode cX5_moveSite 44 = .ok (.istore 5, 2) := by decide +kernel
theorem dX5_moveSite_140 : decode cX5_moveSite 140 = .ok (.aload_n 0, 1) := by decide +kernel
theorem dX5_moveSite_141 : decode cX5_moveSite 141 = .ok (.iload 4, 2) := by decide +kernel
theorem dX5_moveSite_143 : decode cX5_moveSite 143 = .ok (.invokevirtual 159, 3) := by decide +kernel
theorem dX5_moveSite_146 : decode cX5_moveSite 146 = .ok (.ireturn, 1) := by decide +kernel
theorem dX5_moveSite_153 : decode cX5_moveSite 153 = .ok (.aload_n 0, 1) := by decide +kernel
theorem dX5_moveSite_154 : decode cX5_moveSite 154 = .ok (.invokevirtual 162, 3) := by decide +kernel
theorem dX5_moveSite_157 : decode cX5_moveSite 157 = .ok (.aload_n 0, 1) := by decide +kernel
theorem dX5_moveSite_158 : decode cX5_moveSite 158 = .ok (.iconst 2, 1) := by decide +kernel
theorem dX5_moveSite_159 : decode cX5_moveSite 159 = .ok (.putfield 22, 3) := by decide +kernel
theorem dX5_moveSite_162 : decode cX5_moveSite 162 = .ok (.aload_n 0, 1) := by decide +kernel
theorem dX5_moveSite_163 : decode cX5_moveSite 163 = .ok (.getfield 11, 3) := by decide +kernel
theorem dX5_moveSite_166 : decode cX5_moveSite 166 = .ok (.iconst 3, 1) := by decide +kernel
theorem dX5_moveSite_167 : decode cX5_moveSite 167 = .ok (.iaload, 1) := by decide +kernel
theorem dX5_moveSite_168 : decode cX5_moveSite 168 = .ok (.iconst 1, 1) := by decide +kernel
theorem dX5_moveSite_169 : decode cX5_moveSite 169 = .ok (.isub, 1) := by decide +kernel
theorem dX5_moveSite_170 : decode cX5_moveSite 170 = .ok (.aload_n 0, 1) := by decide +kernel
theorem dX5_moveSite_171 : decode cX5_moveSite 171 = .ok (.getfield 18, 3) := by decide +kernel
theorem dX5_moveSite_174 : decode cX5_moveSite 174 = .ok (.isub, 1) := by decide +kernel
theorem dX5_moveSite_175 : decode cX5_moveSite 175 = .ok (.istore 5, 2) := by decide +kernel
theorem dX5_moveSite_177 : decode cX5_moveSite 177 = .ok (.iconst 1, 1) := by decide +kernel
theorem dX5_moveSite_178 : decode cX5_moveSite 178 = .ok (.iconst 2, 1) := by decide +kernel
theorem dX5_moveSite_179 : decode cX5_moveSite 179 = .ok (.aload_n 0, 1) := by decide +kernel
theorem dX5_moveSite_180 : decode cX5_moveSite 180 = .ok (.getfield 18, 3) := by decide +kernel
theorem dX5_moveSite_183 : decode cX5_moveSite 183 = .ok (.imul, 1) := by decide +kernel
theorem dX5_moveSite_184 : decode cX5_moveSite 184 = .ok (.iadd, 1) := by decide +kernel
theorem dX5_moveSite_185 : decode cX5_moveSite 185 = .ok (.iload 5, 2) := by decide +kernel
theorem dX5_moveSite_187 : decode cX5_moveSite 187 = .ok (.iadd, 1) := by decide +kernel
theorem dX5_moveSite_188 : decode cX5_moveSite 188 = .ok (.aload_n 0, 1) := by decide +kernel
theorem dX5_moveSite_189 : decode cX5_moveSite 189 = .ok (.getfield 11, 3) := by decide +kernel
theorem dX5_moveSite_192 : decode cX5_moveSite 192 = .ok (.iconst 3, 1) := by decide +kernel
theorem dX5_moveSite_193 : decode cX5_moveSite 193 = .ok (.iaload, 1) := by decide +kernel
theorem dX5_moveSite_194 : decode cX5_moveSite 194 = .ok (.iadd, 1) := by decide +kernel
theorem dX5_moveSite_195 : decode cX5_moveSite 195 = .ok (.ireturn, 1) := by decide +kernel
theorem dX5_moveSite_25 : decode cX5_moveSite 25 = .ok (.iconst 0, 1) := by decide +kernel
theorem dX5_moveSite_26 : decode cX5_moveSite 26 = .ok (.ireturn, 1) := by decide +kernel
theorem dX5_doAct_0 : decode cX5_doAct 0 = .ok (.iconst 0, 1) := by decide +kernel
theorem dX5_doAct_1 : decode cX5_doAct 1 = .ok (.istore 5, 2) := by decide +kernel
theorem dX5_doAct_3 : decode cX5_doAct 3 = .ok (.iload_n 1, 1) := by decide +kernel
theorem dX5_doAct_137 : decode cX5_doAct 137 = .ok (.aload_n 0, 1) := by decide +kernel
theorem dX5_doAct_138 : decode cX5_doAct 138 = .ok (.getfield 11, 3) := by decide +kernel
theorem dX5_doAct_141 : decode cX5_doAct 141 = .ok (.bipush 11, 2) := by decide +kernel
theorem dX5_doAct_143 : decode cX5_doAct 143 = .ok (.dup2, 1) := by decide +kernel
theorem dX5_doAct_144 : decode cX5_doAct 144 = .ok (.iaload, 1) := by decide +kernel
theorem dX5_doAct_145 : decode cX5_doAct 145 = .ok (.iload 5, 2) := by decide +kernel
theorem dX5_doAct_147 : decode cX5_doAct 147 = .ok (.iadd, 1) := by decide +kernel
theorem dX5_doAct_148 : decode cX5_doAct 148 = .ok (.iastore, 1) := by decide +kernel
theorem dX5_doAct_149 : decode cX5_doAct 149 = .ok (.iload 5, 2) := by decide +kernel
theorem dX5_doAct_151 : decode cX5_doAct 151 = .ok (.ireturn, 1) := by decide +kernel
theorem dX5_doAct_4 : decode cX5_doAct 4 = .ok (.tableswitch 133 0 6 #[44, 57, 66, 82, 98, 109, 117], 44) := by decide +kernel
theorem dX5_doAct_48 : decode cX5_doAct 48 = .ok (.aload_n 0, 1) := by decide +kernel
theorem dX5_doAct_49 : decode cX5_doAct 49 = .ok (.iload_n 2, 1) := by decide +kernel
theorem dX5_doAct_50 : decode cX5_doAct 50 = .ok (.iload_n 3, 1) := by decide +kernel
theorem dX5_doAct_51 : decode cX5_doAct 51 = .ok (.iload 4, 2) := by decide +kernel
theorem dX5_doAct_53 : decode cX5_doAct 53 = .ok (.invokevirtual 137, 3) := by decide +kernel
theorem dX5_doAct_56 : decode cX5_doAct 56 = .ok (.istore 5, 2) := by decide +kernel
theorem dX5_doAct_58 : decode cX5_doAct 58 = .ok (.goto 79, 3) := by decide +kernel
theorem dX5_doAct_61 : decode cX5_doAct 61 = .ok (.aload_n 0, 1) := by decide +kernel
theorem dX5_doAct_62 : decode cX5_doAct 62 = .ok (.invokevirtual 140, 3) := by decide +kernel
theorem dX5_doAct_65 : decode cX5_doAct 65 = .ok (.istore 5, 2) := by decide +kernel
theorem dX5_doAct_67 : decode cX5_doAct 67 = .ok (.goto 70, 3) := by decide +kernel
theorem dX5_doAct_70 : decode cX5_doAct 70 = .ok (.aload_n 0, 1) := by decide +kernel
theorem dX5_doAct_71 : decode cX5_doAct 71 = .ok (.getfield 11, 3) := by decide +kernel
theorem dX5_doAct_74 : decode cX5_doAct 74 = .ok (.iconst 1, 1) := by decide +kernel
theorem dX5_doAct_75 : decode cX5_doAct 75 = .ok (.iload_n 2, 1) := by decide +kernel
theorem dX5_doAct_76 : decode cX5_doAct 76 = .ok (.iastore, 1) := by decide +kernel
theorem dX5_doAct_77 : decode cX5_doAct 77 = .ok (.aload_n 0, 1) := by decide +kernel
theorem dX5_doAct_78 : decode cX5_doAct 78 = .ok (.invokevirtual 140, 3) := by decide +kernel
theorem dX5_doAct_81 : decode cX5_doAct 81 = .ok (.istore 5, 2) := by decide +kernel
theorem dX5_doAct_83 : decode cX5_doAct 83 = .ok (.goto 54, 3) := by decide +kernel
theorem dX5_doAct_86 : decode cX5_doAct 86 = .ok (.aload_n 0, 1) := by decide +kernel
theorem dX5_doAct_87 : decode cX5_doAct 87 = .ok (.getfield 11, 3) := by decide +kernel
theorem dX5_doAct_90 : decode cX5_doAct 90 = .ok (.iconst 0, 1) := by decide +kernel
theorem dX5_doAct_91 : decode cX5_doAct 91 = .ok (.iload_n 2, 1) := by decide +kernel
theorem dX5_doAct_92 : decode cX5_doAct 92 = .ok (.iastore, 1) := by decide +kernel
theorem dX5_doAct_93 : decode cX5_doAct 93 = .ok (.aload_n 0, 1) := by decide +kernel
theorem dX5_doAct_94 : decode cX5_doAct 94 = .ok (.invokevirtual 140, 3) := by decide +kernel
theorem dX5_doAct_97 : decode cX5_doAct 97 = .ok (.istore 5, 2) := by decide +kernel
theorem dX5_doAct_99 : decode cX5_doAct 99 = .ok (.goto 38, 3) := by decide +kernel
theorem dX5_doAct_102 : decode cX5_doAct 102 = .ok (.aload_n 0, 1) := by decide +kernel
theorem dX5_doAct_103 : decode cX5_doAct 103 = .ok (.iload_n 2, 1) := by decide +kernel
theorem dX5_doAct_104 : decode cX5_doAct 104 = .ok (.iload_n 3, 1) := by decide +kernel
theorem dX5_doAct_105 : decode cX5_doAct 105 = .ok (.invokevirtual 143, 3) := by decide +kernel
theorem dX5_doAct_108 : decode cX5_doAct 108 = .ok (.istore 5, 2) := by decide +kernel
theorem dX5_doAct_110 : decode cX5_doAct 110 = .ok (.goto 27, 3) := by decide +kernel
theorem dX5_doAct_113 : decode cX5_doAct 113 = .ok (.aload_n 0, 1) := by decide +kernel
theorem dX5_doAct_114 : decode cX5_doAct 114 = .ok (.iload_n 2, 1) := by decide +kernel
theorem dX5_doAct_115 : decode cX5_doAct 115 = .ok (.invokevirtual 146, 3) := by decide +kernel
theorem dX5_doAct_118 : decode cX5_doAct 118 = .ok (.goto 19, 3) := by decide +kernel
theorem dX5_doAct_121 : decode cX5_doAct 121 = .ok (.aload_n 0, 1) := by decide +kernel
theorem dX5_doAct_122 : decode cX5_doAct 122 = .ok (.getfield 11, 3) := by decide +kernel
theorem dX5_doAct_125 : decode cX5_doAct 125 = .ok (.bipush 7, 2) := by decide +kernel
theorem dX5_doAct_127 : decode cX5_doAct 127 = .ok (.dup2, 1) := by decide +kernel
theorem dX5_doAct_128 : decode cX5_doAct 128 = .ok (.iaload, 1) := by decide +kernel
theorem dX5_doAct_129 : decode cX5_doAct 129 = .ok (.iconst 1, 1) := by decide +kernel
theorem dX5_doAct_130 : decode cX5_doAct 130 = .ok (.iload_n 2, 1) := by decide +kernel
theorem dX5_doAct_131 : decode cX5_doAct 131 = .ok (.ishl, 1) := by decide +kernel
theorem dX5_doAct_132 : decode cX5_doAct 132 = .ok (.ixor, 1) := by decide +kernel
theorem dX5_doAct_133 : decode cX5_doAct 133 = .ok (.iastore, 1) := by decide +kernel
theorem dX5_doAct_134 : decode cX5_doAct 134 = .ok (.goto 3, 3) := by decide +kernel
theorem dX5_aloneToGoal_50 : decode cX5_aloneToGoal 50 = .ok (.iload 10, 2) := by decide +kernel
theorem dX5_aloneToGoal_52 : decode cX5_aloneToGoal 52 = .ok (.sipush 9999, 3) := by decide +kernel
theorem dX5_aloneToGoal_55 : decode cX5_aloneToGoal 55 = .ok (.if_icmp .ge 81, 3) := by decide +kernel
theorem dX5_aloneToGoal_58 : decode cX5_aloneToGoal 58 = .ok (.iload 9, 2) := by decide +kernel
theorem dX5_aloneToGoal_60 : decode cX5_aloneToGoal 60 = .ok (.ifCond .le 76, 3) := by decide +kernel
theorem dX5_aloneToGoal_63 : decode cX5_aloneToGoal 63 = .ok (.aload_n 0, 1) := by decide +kernel
theorem dX5_aloneToGoal_64 : decode cX5_aloneToGoal 64 = .ok (.getfield 11, 3) := by decide +kernel
theorem dX5_aloneToGoal_67 : decode cX5_aloneToGoal 67 = .ok (.iconst 3, 1) := by decide +kernel
theorem dX5_aloneToGoal_68 : decode cX5_aloneToGoal 68 = .ok (.iaload, 1) := by decide +kernel
theorem dX5_aloneToGoal_69 : decode cX5_aloneToGoal 69 = .ok (.iload 6, 2) := by decide +kernel
theorem dX5_aloneToGoal_71 : decode cX5_aloneToGoal 71 = .ok (.isub, 1) := by decide +kernel
theorem dX5_aloneToGoal_72 : decode cX5_aloneToGoal 72 = .ok (.istore 11, 2) := by decide +kernel
theorem dX5_aloneToGoal_74 : decode cX5_aloneToGoal 74 = .ok (.iload 11, 2) := by decide +kernel
theorem dX5_aloneToGoal_76 : decode cX5_aloneToGoal 76 = .ok (.iload 9, 2) := by decide +kernel
theorem dX5_aloneToGoal_78 : decode cX5_aloneToGoal 78 = .ok (.imul, 1) := by decide +kernel
theorem dX5_aloneToGoal_79 : decode cX5_aloneToGoal 79 = .ok (.iload 5, 2) := by decide +kernel
theorem dX5_aloneToGoal_81 : decode cX5_aloneToGoal 81 = .ok (.isub, 1) := by decide +kernel
theorem dX5_aloneToGoal_82 : decode cX5_aloneToGoal 82 = .ok (.istore 12, 2) := by decide +kernel
theorem dX5_aloneToGoal_84 : decode cX5_aloneToGoal 84 = .ok (.iload 7, 2) := by decide +kernel
theorem dX5_aloneToGoal_86 : decode cX5_aloneToGoal 86 = .ok (.iload 12, 2) := by decide +kernel
theorem dX5_aloneToGoal_88 : decode cX5_aloneToGoal 88 = .ok (.iadd, 1) := by decide +kernel
theorem dX5_aloneToGoal_89 : decode cX5_aloneToGoal 89 = .ok (.istore 7, 2) := by decide +kernel
theorem dX5_aloneToGoal_91 : decode cX5_aloneToGoal 91 = .ok (.iload 4, 2) := by decide +kernel
theorem dX5_aloneToGoal_93 : decode cX5_aloneToGoal 93 = .ok (.iload 12, 2) := by decide +kernel
theorem dX5_aloneToGoal_95 : decode cX5_aloneToGoal 95 = .ok (.iadd, 1) := by decide +kernel
theorem dX5_aloneToGoal_96 : decode cX5_aloneToGoal 96 = .ok (.istore 4, 2) := by decide +kernel
theorem dX5_aloneToGoal_98 : decode cX5_aloneToGoal 98 = .ok (.iload 8, 2) := by decide +kernel
theorem dX5_aloneToGoal_100 : decode cX5_aloneToGoal 100 = .ok (.iload 11, 2) := by decide +kernel
theorem dX5_aloneToGoal_102 : decode cX5_aloneToGoal 102 = .ok (.iconst 2, 1) := by decide +kernel
theorem dX5_aloneToGoal_103 : decode cX5_aloneToGoal 103 = .ok (.aload_n 0, 1) := by decide +kernel
theorem dX5_aloneToGoal_104 : decode cX5_aloneToGoal 104 = .ok (.getfield 11, 3) := by decide +kernel
theorem dX5_aloneToGoal_107 : decode cX5_aloneToGoal 107 = .ok (.iconst 3, 1) := by decide +kernel
theorem dX5_aloneToGoal_108 : decode cX5_aloneToGoal 108 = .ok (.iaload, 1) := by decide +kernel
theorem dX5_aloneToGoal_109 : decode cX5_aloneToGoal 109 = .ok (.imul, 1) := by decide +kernel
theorem dX5_aloneToGoal_110 : decode cX5_aloneToGoal 110 = .ok (.iadd, 1) := by decide +kernel
theorem dX5_aloneToGoal_111 : decode cX5_aloneToGoal 111 = .ok (.iadd, 1) := by decide +kernel
theorem dX5_aloneToGoal_112 : decode cX5_aloneToGoal 112 = .ok (.istore 8, 2) := by decide +kernel
theorem dX5_aloneToGoal_114 : decode cX5_aloneToGoal 114 = .ok (.iload 4, 2) := by decide +kernel
theorem dX5_aloneToGoal_116 : decode cX5_aloneToGoal 116 = .ok (.istore_n 3, 1) := by decide +kernel
theorem dX5_aloneToGoal_117 : decode cX5_aloneToGoal 117 = .ok (.iconst 0, 1) := by decide +kernel
theorem dX5_aloneToGoal_118 : decode cX5_aloneToGoal 118 = .ok (.istore 5, 2) := by decide +kernel
theorem dX5_aloneToGoal_120 : decode cX5_aloneToGoal 120 = .ok (.iconst 0, 1) := by decide +kernel
theorem dX5_aloneToGoal_121 : decode cX5_aloneToGoal 121 = .ok (.istore 6, 2) := by decide +kernel
theorem dX5_aloneToGoal_123 : decode cX5_aloneToGoal 123 = .ok (.aload_n 0, 1) := by decide +kernel
theorem dX5_aloneToGoal_124 : decode cX5_aloneToGoal 124 = .ok (.iload_n 3, 1) := by decide +kernel
theorem dX5_aloneToGoal_125 : decode cX5_aloneToGoal 125 = .ok (.invokevirtual 182, 3) := by decide +kernel
theorem dX5_aloneToGoal_128 : decode cX5_aloneToGoal 128 = .ok (.istore 9, 2) := by decide +kernel
theorem dX5_aloneToGoal_130 : decode cX5_aloneToGoal 130 = .ok (.iinc 10 1, 3) := by decide +kernel
theorem dX5_aloneToGoal_133 : decode cX5_aloneToGoal 133 = .ok (.goto (-83), 3) := by decide +kernel
theorem dX5_aloneToGoal_0 : decode cX5_aloneToGoal 0 = .ok (.aload_n 0, 1) := by decide +kernel
theorem dX5_aloneToGoal_1 : decode cX5_aloneToGoal 1 = .ok (.getfield 11, 3) := by decide +kernel
theorem dX5_aloneToGoal_4 : decode cX5_aloneToGoal 4 = .ok (.bipush 8, 2) := by decide +kernel
theorem dX5_aloneToGoal_6 : decode cX5_aloneToGoal 6 = .ok (.iaload, 1) := by decide +kernel
theorem dX5_aloneToGoal_7 : decode cX5_aloneToGoal 7 = .ok (.istore_n 3, 1) := by decide +kernel
theorem dX5_aloneToGoal_8 : decode cX5_aloneToGoal 8 = .ok (.aload_n 0, 1) := by decide +kernel
theorem dX5_aloneToGoal_9 : decode cX5_aloneToGoal 9 = .ok (.bipush 6, 2) := by decide +kernel
theorem dX5_aloneToGoal_11 : decode cX5_aloneToGoal 11 = .ok (.invokevirtual 188, 3) := by decide +kernel
theorem dX5_aloneToGoal_14 : decode cX5_aloneToGoal 14 = .ok (.istore 4, 2) := by decide +kernel
theorem dX5_aloneToGoal_16 : decode cX5_aloneToGoal 16 = .ok (.aload_n 0, 1) := by decide +kernel
theorem dX5_aloneToGoal_17 : decode cX5_aloneToGoal 17 = .ok (.iload_n 1, 1) := by decide +kernel
theorem dX5_aloneToGoal_18 : decode cX5_aloneToGoal 18 = .ok (.bipush 7, 2) := by decide +kernel
theorem dX5_aloneToGoal_20 : decode cX5_aloneToGoal 20 = .ok (.invokevirtual 69, 3) := by decide +kernel
theorem dX5_aloneToGoal_23 : decode cX5_aloneToGoal 23 = .ok (.istore 5, 2) := by decide +kernel
theorem dX5_aloneToGoal_25 : decode cX5_aloneToGoal 25 = .ok (.aload_n 0, 1) := by decide +kernel
theorem dX5_aloneToGoal_26 : decode cX5_aloneToGoal 26 = .ok (.getfield 11, 3) := by decide +kernel
theorem dX5_aloneToGoal_29 : decode cX5_aloneToGoal 29 = .ok (.bipush 9, 2) := by decide +kernel
theorem dX5_aloneToGoal_31 : decode cX5_aloneToGoal 31 = .ok (.iaload, 1) := by decide +kernel
theorem dX5_aloneToGoal_32 : decode cX5_aloneToGoal 32 = .ok (.istore 6, 2) := by decide +kernel
theorem dX5_aloneToGoal_34 : decode cX5_aloneToGoal 34 = .ok (.iconst 0, 1) := by decide +kernel
theorem dX5_aloneToGoal_35 : decode cX5_aloneToGoal 35 = .ok (.istore 7, 2) := by decide +kernel
theorem dX5_aloneToGoal_37 : decode cX5_aloneToGoal 37 = .ok (.iconst 0, 1) := by decide +kernel
theorem dX5_aloneToGoal_38 : decode cX5_aloneToGoal 38 = .ok (.istore 8, 2) := by decide +kernel
theorem dX5_aloneToGoal_40 : decode cX5_aloneToGoal 40 = .ok (.aload_n 0, 1) := by decide +kernel
theorem dX5_aloneToGoal_41 : decode cX5_aloneToGoal 41 = .ok (.iload_n 3, 1) := by decide +kernel
theorem dX5_aloneToGoal_42 : decode cX5_aloneToGoal 42 = .ok (.invokevirtual 182, 3) := by decide +kernel
theorem dX5_aloneToGoal_45 : decode cX5_aloneToGoal 45 = .ok (.istore 9, 2) := by decide +kernel
theorem dX5_aloneToGoal_47 : decode cX5_aloneToGoal 47 = .ok (.iconst 0, 1) := by decide +kernel
theorem dX5_aloneToGoal_48 : decode cX5_aloneToGoal 48 = .ok (.istore 10, 2) := by decide +kernel
theorem dX5_aloneToGoal_136 : decode cX5_aloneToGoal 136 = .ok (.aload_n 0, 1) := by decide +kernel
theorem dX5_aloneToGoal_137 : decode cX5_aloneToGoal 137 = .ok (.getfield 11, 3) := by decide +kernel
theorem dX5_aloneToGoal_140 : decode cX5_aloneToGoal 140 = .ok (.iconst 2, 1) := by decide +kernel
theorem dX5_aloneToGoal_141 : decode cX5_aloneToGoal 141 = .ok (.iaload, 1) := by decide +kernel
theorem dX5_aloneToGoal_142 : decode cX5_aloneToGoal 142 = .ok (.iload_n 3, 1) := by decide +kernel
theorem dX5_aloneToGoal_143 : decode cX5_aloneToGoal 143 = .ok (.isub, 1) := by decide +kernel
theorem dX5_aloneToGoal_144 : decode cX5_aloneToGoal 144 = .ok (.iconst 0, 1) := by decide +kernel
theorem dX5_aloneToGoal_145 : decode cX5_aloneToGoal 145 = .ok (.invokestatic 191, 3) := by decide +kernel
theorem dX5_aloneToGoal_148 : decode cX5_aloneToGoal 148 = .ok (.istore 10, 2) := by decide +kernel
theorem dX5_aloneToGoal_150 : decode cX5_aloneToGoal 150 = .ok (.iload_n 2, 1) := by decide +kernel
theorem dX5_aloneToGoal_161 : decode cX5_aloneToGoal 161 = .ok (.iload 10, 2) := by decide +kernel
theorem dX5_aloneToGoal_163 : decode cX5_aloneToGoal 163 = .ok (.iadd, 1) := by decide +kernel
theorem dX5_aloneToGoal_164 : decode cX5_aloneToGoal 164 = .ok (.ireturn, 1) := by decide +kernel
theorem dX5_aloneToGoal_151 : decode cX5_aloneToGoal 151 = .ok (.ifCond .eq 8, 3) := by decide +kernel
theorem dX5_aloneToGoal_159 : decode cX5_aloneToGoal 159 = .ok (.iload 7, 2) := by decide +kernel
theorem dX5_aloneToGoal_154 : decode cX5_aloneToGoal 154 = .ok (.iload 8, 2) := by decide +kernel
theorem dX5_aloneToGoal_156 : decode cX5_aloneToGoal 156 = .ok (.goto 5, 3) := by decide +kernel
def v_s_noteAsked : List Cond := .code yX5_noteAsked cX5_noteAsked 2 none :: ([.fieldLink RX5 18 "HushWatch$State" "askedCount" "I", .fieldLink RX5 15 "HushWatch$State" "partners" "[I"] ++ (wsX50 ++ ([])))
theorem gw_s_noteAsked : v_s_noteAsked.all goodWord = true := by decide +kernel
theorem i_s_noteAsked_X5 : ∀ w ∈ wsX50, w ∈ v_s_noteAsked := fun _ h => List.mem_cons_of_mem _ (List.mem_append_right _ (List.mem_append_left _ h))
set_option maxHeartbeats 4000000 in
set_option maxRecDepth 100000 in
theorem s_noteAsked (l : Launch) (E : EE) (sz : Nat) (h g1 g2 g3 g4 a : Nat) (ko : Int32) (fp : Nat → Int32) (p0 : Int32) (ha : a ≤ 8) : Met l yX5_noteAsked v_s_noteAsked ({ frames := 0, cells := 0, slots := 0, locals := 0 }) (va_Pc [.ref h, .int p0] (pW E sz [(h, .inr (6, [.ref g1, .ref g2, .int (nI a), .int ko, .ref g3, .ref g4])), (g2, .inl (E.2.1, 8, .inl fp))])) (va_Qv (fun (u_ : (Nat → Int32) × (Nat)) => u_.2 ≤ 8) (fun (u_ : (Nat → Int32) × (Nat)) tt => va_P E.1 vwCl [(h, .inr (6, [.ref g1, .ref g2, .int (nI u_.2), .int ko, .ref g3, .ref g4])), (g2, .inl (E.2.1, 8, .inl u_.1))] tt.heap ∧ va_D (va_A [(h, .inr (6, [.ref g1, .ref g2, .int (nI a), .int ko, .ref g3, .ref g4])), (g2, .inl (E.2.1, 8, .inl fp))] sz) [(h, .inr (6, [.ref g1, .ref g2, .int (nI u_.2), .int ko, .ref g3, .ref g4])), (g2, .inl (E.2.1, 8, .inl u_.1))]) (va_A [(h, .inr (6, [.ref g1, .ref g2, .int (nI a), .int ko, .ref g3, .ref g4])), (g2, .inl (E.2.1, 8, .inl fp))] sz)) 0 0 (va_A [(h, .inr (6, [.ref g1, .ref g2, .int (nI a), .int ko, .ref g3, .ref g4])), (g2, .inl (E.2.1, 8, .inl fp))] sz) := by
  refine Met.ofW (cc := cX5_noteAsked) (maxL := 2) (ret := none) (by decide) rfl ?_
  intro p e s m args below meth c s₁ B hml hv
  obtain ⟨rfl, hsz, ⟨hK, hN⟩, hP, hD0⟩ := hv
  have hx := B.exec
  have hb := B.bytes
  have hr := B.returns
  have hts := atoms_spec (ws := v_s_noteAsked) B.pre
  have hown : s.vm.findClass RX5 = some m.cls := findClass_of_methodNamed B.named
  have hlocks := B.notSynchronized
  subst hsz
  have hD := hD0.self (sz := s.heap.size)
  generalize hAe : va_A [(h, .inr (6, [.ref g1, .ref g2, .int (nI a), .int ko, .ref g3, .ref g4])), (g2, .inl (E.2.1, 8, .inl fp))] s.heap.size = A at hD ⊢
  have hA : ∀ q : Nat, s.heap.size ≤ q → A q := fun q h => by rw [← hAe]; exact Or.inr h
  have hS : va_S A s.heap s.heap [] := va_S.rf
  have hP : va_P E.1 vwCl [(h, .inr (6, [.ref g1, .ref g2, .int (nI a), .int ko, .ref g3, .ref g4])), (g2, .inl (E.2.1, 8, .inl fp))] s.heap := hP
  have hl := lv_entry ([.ref h, .int p0]) (n := 2) (Nat.le_of_ble_eq_true rfl)
  rw [lg_entry_eq]
  generalize (lg_sl ([.ref h, .int p0]) ++ List.replicate (2 - (lg_sl ([.ref h, .int p0])).length) Slot.unset).toArray = ls at hl ⊢
  have hl : lv_has ls 2 [(0, .ref h), (1, .int p0)] := hl
  obtain ⟨Q, hQ⟩ : ∃ Q : State → Prop, Q = MQ below (va_Qv (fun (u_ : (Nat → Int32) × (Nat)) => u_.2 ≤ 8) (fun (u_ : (Nat → Int32) × (Nat)) tt => va_P E.1 vwCl [(h, .inr (6, [.ref g1, .ref g2, .int (nI u_.2), .int ko, .ref g3, .ref g4])), (g2, .inl (E.2.1, 8, .inl u_.1))] tt.heap ∧ va_D A [(h, .inr (6, [.ref g1, .ref g2, .int (nI u_.2), .int ko, .ref g3, .ref g4])), (g2, .inl (E.2.1, 8, .inl u_.1))]) A) #[Value.ref h, Value.int p0] s 0 0 A := ⟨_, rfl⟩
  rw [← hQ]
  change W p l e ({ frames := 0, cells := 0, slots := 0, locals := 0 } : Room) s m #[Value.ref h, Value.int p0] below meth c s.heap [] 0 0 Q (F0 m 0 ls [])
  refine lv_aload_n hx hb dX5_noteAsked_0 rfl (lv_at hl 0 rfl) ?_
  refine va_get (D := E.1) (ci := 6) (v := .int (nI a)) (C := RX5) (T := TX5) (N := 6) hx hb hts i_s_noteAsked_X5 hown hK hP 0 rfl rfl 2 (by decide) (hts (.fieldLink RX5 18 "HushWatch$State" "askedCount" "I") (List.mem_of_getElem? (i := 1) rfl)) (fun _ h9 => h9) rfl dX5_noteAsked_1 ?_
  refine lv_bipush (v := 8) hx hb dX5_noteAsked_4 (by decide) ?_
  have K_6 : ∀ (y_4 : Nat), ∀ (g_5 : Nat → Int32), ∀ (H : Heap) (locs : List Loc) (ls : Array Slot), y_4 ≤ 8 → va_P E.1 vwCl [(h, .inr (6, [.ref g1, .ref g2, .int (nI y_4), .int ko, .ref g3, .ref g4])), (g2, .inl (E.2.1, 8, .inl g_5))] H → va_D A [(h, .inr (6, [.ref g1, .ref g2, .int (nI y_4), .int ko, .ref g3, .ref g4])), (g2, .inl (E.2.1, 8, .inl g_5))] → va_S A s.heap H locs → lv_has ls 2 [(0, .ref h), (1, .int p0)] → W p l e ({ frames := 0, cells := 0, slots := 0, locals := 0 } : Room) s m #[Value.ref h, Value.int p0] below meth c H locs 0 0 Q (F0 m 29 ls []) := by
    intro y_4 g_5 H locs ls hy_4 hP hD hS hl
    rw [hQ]
    have hP9 := hP.sub (ws' := [(h, .inr (6, [.ref g1, .ref g2, .int (nI y_4), .int ko, .ref g3, .ref g4])), (g2, .inl (E.2.1, 8, .inl g_5))]) [0, 1] rfl
    have hD9 := hD.sub (ws' := [(h, .inr (6, [.ref g1, .ref g2, .int (nI y_4), .int ko, .ref g3, .ref g4])), (g2, .inl (E.2.1, 8, .inl g_5))]) [0, 1] (by decide) rfl
    exact W.vret hx hb hr (fun tt ht hW => ⟨⟨(g_5, y_4), rfl, (by first | omega | (dsimp only; omega)), by rw [ht]; exact hP9, hD9⟩, hS.F ht⟩) hS.2.2 dX5_noteAsked_29
  refine lv_icmp_ge (tgt := 29) hx hb dX5_noteAsked_6 (by decide) (fun c_1 => ?_) (fun c_1 => ?_)
  ·
    have d_7 : 8 ≤ a := nc_ge (a := a) (b := 8) (by omega) (by omega) c_1
    exact K_6 a fp s.heap [] ls (by omega) (hP.sub [0, 1] rfl) (hD.sub [0, 1] (by decide) rfl) hS (lv_sub hl [0, 1] rfl)
  ·
    have d_8 : ¬ (8 ≤ a) := nc_ge_n (a := a) (b := 8) (by omega) (by omega) c_1
    refine lv_aload_n hx hb dX5_noteAsked_9 rfl (lv_at hl 0 rfl) ?_
    refine va_get (D := E.1) (ci := 6) (v := .ref g2) (C := RX5) (T := TX5) (N := 6) hx hb hts i_s_noteAsked_X5 hown hK hP 0 rfl rfl 1 (by decide) (hts (.fieldLink RX5 15 "HushWatch$State" "partners" "[I") (List.mem_of_getElem? (i := 2) rfl)) (fun _ h9 => h9) rfl dX5_noteAsked_10 ?_
    refine lv_aload_n hx hb dX5_noteAsked_13 rfl (lv_at hl 0 rfl) ?_
    refine va_get (D := E.1) (ci := 6) (v := .int (nI a)) (C := RX5) (T := TX5) (N := 6) hx hb hts i_s_noteAsked_X5 hown hK hP 0 rfl rfl 2 (by decide) (hts (.fieldLink RX5 18 "HushWatch$State" "askedCount" "I") (List.mem_of_getElem? (i := 1) rfl)) (fun _ h9 => h9) rfl dX5_noteAsked_14 ?_
    refine lv_iload_n hx hb dX5_noteAsked_17 rfl (lv_at hl 1 rfl) ?_
    refine va_iast hx hb hK hP hD hS 1 0 rfl rfl (vp_in_nI (by omega) (by decide)) dX5_noteAsked_18 (fun H locs hP hD hS => ?_)
    have hP : va_P E.1 vwCl [(h, .inr (6, [.ref g1, .ref g2, .int (nI a), .int ko, .ref g3, .ref g4])), (g2, .inl (E.2.1, 8, .inl (upd fp (nI a : Int32).toNatClampNeg p0)))] H := hP
    have hD : va_D A [(h, .inr (6, [.ref g1, .ref g2, .int (nI a), .int ko, .ref g3, .ref g4])), (g2, .inl (E.2.1, 8, .inl (upd fp (nI a : Int32).toNatClampNeg p0)))] := hD
    obtain ⟨f_9, hf_9⟩ : ∃ g : Nat → Int32, g = upd fp (nI a : Int32).toNatClampNeg p0 := ⟨_, rfl⟩
    rw [← hf_9] at hP hD
    refine lv_aload_n hx hb dX5_noteAsked_19 rfl (lv_at hl 0 rfl) ?_
    refine lv_dup hx hb dX5_noteAsked_20 rfl ?_
    refine va_get (D := E.1) (ci := 6) (v := .int (nI a)) (C := RX5) (T := TX5) (N := 6) hx hb hts i_s_noteAsked_X5 hown hK hP 0 rfl rfl 2 (by decide) (hts (.fieldLink RX5 18 "HushWatch$State" "askedCount" "I") (List.mem_of_getElem? (i := 1) rfl)) (fun _ h9 => h9) rfl dX5_noteAsked_21 ?_
    refine lv_iconst (v := 1) hx hb dX5_noteAsked_24 (by decide) ?_
    refine lv_iadd hx hb dX5_noteAsked_25 ?_
    refine lv_topi (fun z_10 ez_10 => ?_)
    obtain rfl : z_10 = nI (a + 1) := ez_10.trans (nI_add _ 1)
    refine va_put (D := E.1) (ci := 6) (v := .int (nI (a + 1))) (ty := .int) (C := RX5) (T := TX5) (N := 6) hx hb hts i_s_noteAsked_X5 tyX5 tyX5_ok nmX5 hown hK hP hD hS 0 rfl rfl 2 (by decide) (hts (.fieldLink RX5 18 "HushWatch$State" "askedCount" "I") (List.mem_of_getElem? (i := 1) rfl)) (fun _ h9 => h9) rfl (by decide +kernel) rfl rfl (Nat.le_of_ble_eq_true rfl) dX5_noteAsked_26 (fun H locs hP hD hS => ?_)
    have hP : va_P E.1 vwCl [(h, .inr (6, [.ref g1, .ref g2, .int (nI (a + 1)), .int ko, .ref g3, .ref g4])), (g2, .inl (E.2.1, 8, .inl f_9))] H := hP
    have hD : va_D A [(h, .inr (6, [.ref g1, .ref g2, .int (nI (a + 1)), .int ko, .ref g3, .ref g4])), (g2, .inl (E.2.1, 8, .inl f_9))] := hD
    exact K_6 (a + 1) f_9 H locs ls (by omega) (hP.sub [0, 1] rfl) (hD.sub [0, 1] (by decide) rfl) hS (lv_sub hl [0, 1] rfl)

def v_s_moveSite : List Cond := .code yX5_moveSite cX5_moveSite 7 (some .int) :: ([.fieldLink RX5 18 "HushWatch$State" "askedCount" "I", .fieldLink RX5 22 "HushWatch$State" "outcome" "I", .fieldLink RX5 11 "HushWatch$State" "row" "[I", .methodLink RX5 150 yX5_shift, .instanceMethod yX5_shift, .selects RX5 yX5_shift yX5_shift, .initialized RX5, .methodLink RX5 99 yX5_isQuiet, .instanceMethod yX5_isQuiet, .selects RX5 yX5_isQuiet yX5_isQuiet, .methodLink RX5 83 yX5_isAbove, .instanceMethod yX5_isAbove, .selects RX5 yX5_isAbove yX5_isAbove, .methodLink RX5 131 yX5_isFrozen, .instanceMethod yX5_isFrozen, .selects RX5 yX5_isFrozen yX5_isFrozen, .methodLink RX5 153 yX5_noteAsked, .instanceMethod yX5_noteAsked, .selects RX5 yX5_noteAsked yX5_noteAsked, .methodLink RX5 156 yX5_canShare, .instanceMethod yX5_canShare, .selects RX5 yX5_canShare yX5_canShare, .methodLink RX5 159 yX5_balance, .instanceMethod yX5_balance, .selects RX5 yX5_balance yX5_balance, .methodLink RX5 162 yX5_hearAll, .instanceMethod yX5_hearAll, .selects RX5 yX5_hearAll yX5_hearAll] ++ (wsX50 ++ (v_s_shift ++ (v_s_isQuiet ++ (v_s_isAbove ++ (v_s_isFrozen ++ (v_s_noteAsked ++ (v_s_canShare ++ (v_s_balance ++ (v_s_hearAll ++ ([])))))))))))
theorem gw_s_moveSite : v_s_moveSite.all goodWord = true := by decide +kernel
theorem i_s_moveSite_X5 : ∀ w ∈ wsX50, w ∈ v_s_moveSite := fun _ h => List.mem_cons_of_mem _ (List.mem_append_right _ (List.mem_append_left _ h))
theorem g_s_moveSite_s_shift_150 : GoodIn v_s_moveSite (wsV RX5 150 RX5 yX5_shift v_s_shift) := goodIn_app (goodIn_of _ (by decide +kernel)) (goodIn_sub (fun _ h => List.mem_cons_of_mem _ (List.mem_append_right _ (List.mem_append_right _ (List.mem_append_left _ h)))) gw_s_shift)
theorem g_s_moveSite_s_isQuiet_99 : GoodIn v_s_moveSite (wsV RX5 99 RX5 yX5_isQuiet v_s_isQuiet) := goodIn_app (goodIn_of _ (by decide +kernel)) (goodIn_sub (fun _ h => List.mem_cons_of_mem _ (List.mem_append_right _ (List.mem_append_right _ (List.mem_append_right _ (List.mem_append_left _ h))))) gw_s_isQuiet)
theorem g_s_moveSite_s_isAbove_83 : GoodIn v_s_moveSite (wsV RX5 83 RX5 yX5_isAbove v_s_isAbove) := goodIn_app (goodIn_of _ (by decide +kernel)) (goodIn_sub (fun _ h => List.mem_cons_of_mem _ (List.mem_append_right _ (List.mem_append_right _ (List.mem_append_right _ (List.mem_append_right _ (List.mem_append_left _ h)))))) gw_s_isAbove)
theorem g_s_moveSite_s_isFrozen_131 : GoodIn v_s_moveSite (wsV RX5 131 RX5 yX5_isFrozen v_s_isFrozen) := goodIn_app (goodIn_of _ (by decide +kernel)) (goodIn_sub (fun _ h => List.mem_cons_of_mem _ (List.mem_append_right _ (List.mem_append_right _ (List.mem_append_right _ (List.mem_append_right _ (List.mem_append_right _ (List.mem_append_left _ h))))))) gw_s_isFrozen)
theorem g_s_moveSite_s_noteAsked_153 : GoodIn v_s_moveSite (wsV RX5 153 RX5 yX5_noteAsked v_s_noteAsked) := goodIn_app (goodIn_of _ (by decide +kernel)) (goodIn_sub (fun _ h => List.mem_cons_of_mem _ (List.mem_append_right _ (List.mem_append_right _ (List.mem_append_right _ (List.mem_append_right _ (List.mem_append_right _ (List.mem_append_right _ (List.mem_append_left _ h)))))))) gw_s_noteAsked)
theorem g_s_moveSite_s_canShare_156 : GoodIn v_s_moveSite (wsV RX5 156 RX5 yX5_canShare v_s_canShare) := goodIn_app (goodIn_of _ (by decide +kernel)) (goodIn_sub (fun _ h => List.mem_cons_of_mem _ (List.mem_append_right _ (List.mem_append_right _ (List.mem_append_right _ (List.mem_append_right _ (List.mem_append_right _ (List.mem_append_right _ (List.mem_append_right _ (List.mem_append_left _ h))))))))) gw_s_canShare)
theorem g_s_moveSite_s_balance_159 : GoodIn v_s_moveSite (wsV RX5 159 RX5 yX5_balance v_s_balance) := goodIn_app (goodIn_of _ (by decide +kernel)) (goodIn_sub (fun _ h => List.mem_cons_of_mem _ (List.mem_append_right _ (List.mem_append_right _ (List.mem_append_right _ (List.mem_append_right _ (List.mem_append_right _ (List.mem_append_right _ (List.mem_append_right _ (List.mem_append_right _ (List.mem_append_left _ h)))))))))) gw_s_balance)
theorem g_s_moveSite_s_hearAll_162 : GoodIn v_s_moveSite (wsV RX5 162 RX5 yX5_hearAll v_s_hearAll) := goodIn_app (goodIn_of _ (by decide +kernel)) (goodIn_sub (fun _ h => List.mem_cons_of_mem _ (List.mem_append_right _ (List.mem_append_right _ (List.mem_append_right _ (List.mem_append_right _ (List.mem_append_right _ (List.mem_append_right _ (List.mem_append_right _ (List.mem_append_right _ (List.mem_append_right _ (List.mem_append_left _ h))))))))))) gw_s_hearAll)
set_option maxHeartbeats 4000000 in
set_option maxRecDepth 100000 in
theorem lp_s_moveSite_46 {p : Program} (l : Launch) {e : Env} {s : State} {m : MethodId} {below : List Frame} {meth : Method} {c : Code} {Q : State → Prop} (E : EE) {h g1 g2 g3 g4 k : Nat} {ka ko : Int32} {f : Nat → Int32} {fp fs fl : Nat → Int32} {p0 p1 p2 : Int32} (hk : f 3 = nI k) (hk8 : k ≤ 8) (hx : p.tables.exec = Jvm.exec) (hb : c.code = cX5_moveSite) (hml : c.maxLocals = 7) (hown : s.vm.findClass RX5 = some m.cls) (hts : ∀ w ∈ v_s_moveSite, w.before #[Value.ref h, Value.int p0, Value.int p1, Value.int p2] s = true) (hK : va_K E.1 vwCl (TY E) s) (hN : NX s) (f_9 : Nat → Int32) (kf_9_3 : f_9 3 = nI k) {A : Nat → Prop} (hA : ∀ q : Nat, s.heap.size ≤ q → A q) (KX140 : ∀ (v4 : Int32), ∀ (i : Nat), ∀ (a : Nat), ∀ (y2 : Nat → Int32), ∀ (y3 : Nat → Int32), ∀ (y4 : Nat → Int32), ∀ (H : Heap) (locs : List Loc) (ls : Array Slot), i ≤ 8 → a ≤ 8 → va_P E.1 vwCl [(h, .inr (6, [.ref g1, .ref g2, .int (nI a), .int 0, .ref g3, .ref g4])), (g1, .inl (E.2.1, 81, .inl f_9)), (g2, .inl (E.2.1, 8, .inl y2)), (g3, .inl (E.2.1, 2, .inl y3)), (g4, .inl (E.2.1, 2, .inl y4))] H → va_D A [(h, .inr (6, [.ref g1, .ref g2, .int (nI a), .int 0, .ref g3, .ref g4])), (g1, .inl (E.2.1, 81, .inl f_9)), (g2, .inl (E.2.1, 8, .inl y2)), (g3, .inl (E.2.1, 2, .inl y3)), (g4, .inl (E.2.1, 2, .inl y4))] → va_S A s.heap H locs → lv_has ls 7 [(0, .ref h), (1, .int p0), (2, .int p1), (3, .int p2), (4, .int v4), (5, .int (nI i))] → W p l e ({ frames := 3, cells := 0, slots := 0, locals := 73 } : Room) s m #[Value.ref h, Value.int p0, Value.int p1, Value.int p2] below meth c H locs 0 0 Q (F0 m 140 ls [])) (KX153 : ∀ (v4 : Int32), ∀ (i : Nat), ∀ (a : Nat), ∀ (y2 : Nat → Int32), ∀ (y3 : Nat → Int32), ∀ (y4 : Nat → Int32), ∀ (H : Heap) (locs : List Loc) (ls : Array Slot), i ≤ 8 → a ≤ 8 → va_P E.1 vwCl [(h, .inr (6, [.ref g1, .ref g2, .int (nI a), .int 0, .ref g3, .ref g4])), (g1, .inl (E.2.1, 81, .inl f_9)), (g2, .inl (E.2.1, 8, .inl y2)), (g3, .inl (E.2.1, 2, .inl y3)), (g4, .inl (E.2.1, 2, .inl y4))] H → va_D A [(h, .inr (6, [.ref g1, .ref g2, .int (nI a), .int 0, .ref g3, .ref g4])), (g1, .inl (E.2.1, 81, .inl f_9)), (g2, .inl (E.2.1, 8, .inl y2)), (g3, .inl (E.2.1, 2, .inl y3)), (g4, .inl (E.2.1, 2, .inl y4))] → va_S A s.heap H locs → lv_has ls 7 [(0, .ref h), (1, .int p0), (2, .int p1), (3, .int p2), (4, .int v4), (5, .int (nI i))] → W p l e ({ frames := 3, cells := 0, slots := 0, locals := 73 } : Room) s m #[Value.ref h, Value.int p0, Value.int p1, Value.int p2] below meth c H locs 0 0 Q (F0 m 153 ls [])) : ∀ fuel9 : Nat, ∀ (v4 : Int32), ∀ (i : Nat), ∀ (a : Nat), ∀ (y2 : Nat → Int32), ∀ (y3 : Nat → Int32), ∀ (y4 : Nat → Int32), ∀ (H : Heap) (locs : List Loc) (ls : Array Slot), i ≤ 8 → a ≤ 8 → (9 - i) < fuel9 → va_P E.1 vwCl [(h, .inr (6, [.ref g1, .ref g2, .int (nI a), .int 0, .ref g3, .ref g4])), (g1, .inl (E.2.1, 81, .inl f_9)), (g2, .inl (E.2.1, 8, .inl y2)), (g3, .inl (E.2.1, 2, .inl y3)), (g4, .inl (E.2.1, 2, .inl y4))] H → va_D A [(h, .inr (6, [.ref g1, .ref g2, .int (nI a), .int 0, .ref g3, .ref g4])), (g1, .inl (E.2.1, 81, .inl f_9)), (g2, .inl (E.2.1, 8, .inl y2)), (g3, .inl (E.2.1, 2, .inl y3)), (g4, .inl (E.2.1, 2, .inl y4))] → va_S A s.heap H locs → lv_has ls 7 [(0, .ref h), (1, .int p0), (2, .int p1), (3, .int p2), (4, .int v4), (5, .int (nI i))] → W p l e ({ frames := 3, cells := 0, slots := 0, locals := 73 } : Room) s m #[Value.ref h, Value.int p0, Value.int p1, Value.int p2] below meth c H locs 0 0 Q (F0 m 46 ls []) := by
  intro fuel9
  induction fuel9 with
  | zero =>
    intro v4 i a y2 y3 y4 H locs ls hi ha hms hP hD hS hl
    omega
  | succ fuel9 ih =>
    intro v4 i a y2 y3 y4 H locs ls hi ha hms hP hD hS hl
    refine lv_iload hx hb dX5_moveSite_46 (lv_at hl 5 rfl) ?_
    refine lv_aload_n hx hb dX5_moveSite_48 rfl (lv_at hl 0 rfl) ?_
    refine va_get (D := E.1) (ci := 6) (v := .ref g1) (C := RX5) (T := TX5) (N := 6) hx hb hts i_s_moveSite_X5 hown hK hP 0 rfl rfl 0 (by decide) (hts (.fieldLink RX5 11 "HushWatch$State" "row" "[I") (List.mem_of_getElem? (i := 3) rfl)) (fun _ h9 => h9) rfl dX5_moveSite_49 ?_
    refine lv_iconst (v := 3) hx hb dX5_moveSite_52 (by decide) ?_
    refine va_iald hx hb hK hP 1 0 rfl rfl (vin rfl) dX5_moveSite_53 ?_
    refine W.eq (g2 := F0 m 54 ls [.int (f_9 3), .int (nI i)]) rfl ?_
    refine W.eq (g2 := F0 m 54 ls [.int (nI k), .int (nI i)]) (by rw [kf_9_3]) ?_
    refine lv_icmp_ge (tgt := 153) hx hb dX5_moveSite_54 (by decide) (fun c_11 => ?_) (fun c_11 => ?_)
    ·
      have d_12 : k ≤ i := nc_ge (a := i) (b := k) (by omega) (by omega) c_11
      exact KX153 v4 i a y2 y3 y4 H locs ls (by omega) (by omega) (hP.sub [0, 1, 2, 3, 4] rfl) (hD.sub [0, 1, 2, 3, 4] (by decide) rfl) hS (lv_sub hl [0, 1, 2, 3, 4, 5] rfl)
    ·
      have d_13 : ¬ (k ≤ i) := nc_ge_n (a := i) (b := k) (by omega) (by omega) c_11
      refine lv_iload hx hb dX5_moveSite_57 (lv_at hl 5 rfl) ?_
      refine lv_bipush (v := 8) hx hb dX5_moveSite_59 (by decide) ?_
      refine lv_icmp_ge (tgt := 153) hx hb dX5_moveSite_61 (by decide) (fun c_14 => ?_) (fun c_14 => ?_)
      ·
        have d_15 : 8 ≤ i := nc_ge (a := i) (b := 8) (by omega) (by omega) c_14
        exact KX153 v4 i a y2 y3 y4 H locs ls (by omega) (by omega) (hP.sub [0, 1, 2, 3, 4] rfl) (hD.sub [0, 1, 2, 3, 4] (by decide) rfl) hS (lv_sub hl [0, 1, 2, 3, 4, 5] rfl)
      ·
        have d_16 : ¬ (8 ≤ i) := nc_ge_n (a := i) (b := 8) (by omega) (by omega) c_14
        refine lv_aload_n hx hb dX5_moveSite_64 rfl (lv_at hl 0 rfl) ?_
        have hPc := hP.sub (ws' := [(h, .inr (6, [.ref g1, .ref g2, .int (nI a), .int 0, .ref g3, .ref g4])), (g1, .inl (E.2.1, 81, .inl f_9))]) [0, 1] rfl
        refine pc_i (va_runV (As := []) (rest := []) ⟨hx, hb, hml, hown, hts⟩ (s_isAbove l E h g1 g2 g3 g4 k (nI a) 0 f_9 kf_9_3 (by omega)) (cwV 0 hts g_s_moveSite_s_isAbove_83 rfl rfl rfl (by decide +kernel) ⟨Nat.le_of_ble_eq_true rfl, Nat.le_of_ble_eq_true rfl⟩) ⟨pP.blind, va_recv hK hPc (ci := 6) (q0 := 0) rfl rfl, (pP.pre ⟨hK, hN⟩ hPc)⟩ rfl rfl hl.1 rfl (lv_room (Nat.le_of_ble_eq_true rfl)) dX5_moveSite_65 ⟨Nat.le_of_ble_eq_true rfl, Nat.le_of_ble_eq_true rfl⟩) (fun r_17 hr_17 => ?_)
        refine lv_if_ne (tgt := 153) hx hb dX5_moveSite_68 (by decide) (fun c_18 => ?_) (fun c_18 => ?_)
        ·
          exact KX153 v4 i a y2 y3 y4 H locs ls (by omega) (by omega) (hP.sub [0, 1, 2, 3, 4] rfl) (hD.sub [0, 1, 2, 3, 4] (by decide) rfl) hS (lv_sub hl [0, 1, 2, 3, 4, 5] rfl)
        ·
          obtain ⟨j_19, hj_19, ej_19⟩ : ∃ j : Nat, j ≤ 0 ∧ r_17 = nI j := nat_rng (by have t0 : (0 : Int32).toInt = 0 := (by decide); simp only [Int32.lt_iff_toInt_lt, Int32.le_iff_toInt_le, ge_iff_le, gt_iff_lt, ne_eq, ← Int32.toInt_inj, t0] at c_18 ⊢; omega)
          refine lv_iload_n hx hb dX5_moveSite_71 rfl (lv_at hl 1 rfl) ?_
          refine lv_iload hx hb dX5_moveSite_72 (lv_at hl 5 rfl) ?_
          refine lv_iadd hx hb dX5_moveSite_74 ?_
          refine lv_topi (fun z_20 ez_20 => ?_)
          refine lv_aload_n hx hb dX5_moveSite_75 rfl (lv_at hl 0 rfl) ?_
          refine va_get (D := E.1) (ci := 6) (v := .ref g1) (C := RX5) (T := TX5) (N := 6) hx hb hts i_s_moveSite_X5 hown hK hP 0 rfl rfl 0 (by decide) (hts (.fieldLink RX5 11 "HushWatch$State" "row" "[I") (List.mem_of_getElem? (i := 3) rfl)) (fun _ h9 => h9) rfl dX5_moveSite_76 ?_
          refine lv_iconst (v := 3) hx hb dX5_moveSite_79 (by decide) ?_
          refine va_iald hx hb hK hP 1 0 rfl rfl (vin rfl) dX5_moveSite_80 ?_
          refine W.eq (g2 := F0 m 81 ls [.int (f_9 3), .int z_20]) rfl ?_
          refine W.eq (g2 := F0 m 81 ls [.int (nI k), .int z_20]) (by rw [kf_9_3]) ?_
          have K_26 : ∀ (y_25 : Int32), ∀ (H : Heap) (locs : List Loc) (ls : Array Slot), va_P E.1 vwCl [(h, .inr (6, [.ref g1, .ref g2, .int (nI a), .int 0, .ref g3, .ref g4])), (g1, .inl (E.2.1, 81, .inl f_9)), (g2, .inl (E.2.1, 8, .inl y2)), (g3, .inl (E.2.1, 2, .inl y3)), (g4, .inl (E.2.1, 2, .inl y4))] H → va_D A [(h, .inr (6, [.ref g1, .ref g2, .int (nI a), .int 0, .ref g3, .ref g4])), (g1, .inl (E.2.1, 81, .inl f_9)), (g2, .inl (E.2.1, 8, .inl y2)), (g3, .inl (E.2.1, 2, .inl y3)), (g4, .inl (E.2.1, 2, .inl y4))] → va_S A s.heap H locs → lv_has ls 7 [(0, .ref h), (1, .int p0), (2, .int p1), (3, .int p2), (4, .int v4), (5, .int (nI i))] → W p l e ({ frames := 3, cells := 0, slots := 0, locals := 73 } : Room) s m #[Value.ref h, Value.int p0, Value.int p1, Value.int p2] below meth c H locs 0 0 Q (F0 m 102 ls [.int y_25]) := by
            intro y_25 H locs ls hP hD hS hl
            refine lv_istore (lv' := [(6, .int y_25), (0, .ref h), (1, .int p0), (2, .int p1), (3, .int p2), (4, .int v4), (5, .int (nI i))]) hx hb dX5_moveSite_102 hl (by decide) rfl (fun ls hl => ?_)
            refine lv_aload_n hx hb dX5_moveSite_104 rfl (lv_at hl 1 rfl) ?_
            refine lv_iload hx hb dX5_moveSite_105 (lv_at hl 0 rfl) ?_
            have hPc := hP.sub (ws' := [(h, .inr (6, [.ref g1, .ref g2, .int (nI a), .int 0, .ref g3, .ref g4])), (g1, .inl (E.2.1, 81, .inl f_9))]) [0, 1] rfl
            refine pc_i (va_runV (As := [.int y_25]) (rest := []) ⟨hx, hb, hml, hown, hts⟩ (s_isFrozen l E h g1 g2 g3 g4 k (nI a) 0 f_9 y_25 kf_9_3 (by omega)) (cwV 1 hts g_s_moveSite_s_isFrozen_131 rfl rfl rfl (by decide +kernel) ⟨Nat.le_of_ble_eq_true rfl, Nat.le_of_ble_eq_true rfl⟩) ⟨pP.blind, va_recv hK hPc (ci := 6) (q0 := 0) rfl rfl, (pP.pre ⟨hK, hN⟩ hPc)⟩ rfl rfl hl.1 rfl (lv_room (Nat.le_of_ble_eq_true rfl)) dX5_moveSite_107 ⟨Nat.le_of_ble_eq_true rfl, Nat.le_of_ble_eq_true rfl⟩) (fun r_27 hr_27 => ?_)
            refine lv_if_eq (tgt := 116) hx hb dX5_moveSite_110 (by decide) (fun c_28 => ?_) (fun c_28 => ?_)
            ·
              obtain ⟨j_29, hj_29, ej_29⟩ : ∃ j : Nat, j ≤ 0 ∧ r_27 = nI j := nat_rng (by have t0 : (0 : Int32).toInt = 0 := (by decide); simp only [Int32.lt_iff_toInt_lt, Int32.le_iff_toInt_le, ge_iff_le, gt_iff_lt, ne_eq, ← Int32.toInt_inj, t0] at c_28 ⊢; omega)
              refine lv_aload_n hx hb dX5_moveSite_116 rfl (lv_at hl 1 rfl) ?_
              refine lv_iload hx hb dX5_moveSite_117 (lv_at hl 0 rfl) ?_
              have hPc := hP.sub (ws' := [(h, .inr (6, [.ref g1, .ref g2, .int (nI a), .int 0, .ref g3, .ref g4])), (g2, .inl (E.2.1, 8, .inl y2))]) [0, 2] rfl
              have hDc := hD.sub (ws' := [(h, .inr (6, [.ref g1, .ref g2, .int (nI a), .int 0, .ref g3, .ref g4])), (g2, .inl (E.2.1, 8, .inl y2))]) [0, 2] (by decide) rfl
              have hFc := va_free (wc := [(h, .inr (6, [.ref g1, .ref g2, .int (nI a), .int 0, .ref g3, .ref g4])), (g2, .inl (E.2.1, 8, .inl y2))]) hD hS hA [0, 2] rfl
              refine va_callv (va_runV (As := [.int y_25]) (rest := []) ⟨hx, hb, hml, hown, hts⟩ (s_noteAsked l E H.size h g1 g2 g3 g4 a 0 y2 y_25 (by omega)) (cwV 1 hts g_s_moveSite_s_noteAsked_153 rfl rfl rfl (by decide +kernel) ⟨Nat.le_of_ble_eq_true rfl, Nat.le_of_ble_eq_true rfl⟩) ⟨pW.blind, va_recv hK hPc (ci := 6) (q0 := 0) rfl rfl, (pW.pre ⟨hK, hN⟩ hPc hDc)⟩ rfl rfl hl.1 rfl (lv_room (Nat.le_of_ble_eq_true rfl)) dX5_moveSite_119 ⟨Nat.le_of_ble_eq_true rfl, Nat.le_of_ble_eq_true rfl⟩) hS (fun q _ h => hFc q h) hFc (fun  u_30 tt H1 locs ht hvm hw hB hz1 hk1 hS => ?_)
              obtain ⟨q_31, q_32⟩ := u_30
              obtain ⟨hP1, hD1⟩ := hB
              rw [ht] at hP1
              obtain ⟨hP, hD⟩ := va_join (wr := [(g1, .inl (E.2.1, 81, .inl f_9)), (g3, .inl (E.2.1, 2, .inl y3)), (g4, .inl (E.2.1, 2, .inl y4))]) (w1 := [(h, .inr (6, [.ref g1, .ref g2, .int (nI q_32), .int 0, .ref g3, .ref g4])), (g2, .inl (E.2.1, 8, .inl q_31))]) hP hD [0, 2] [1, 3, 4] rfl rfl (by decide) (by decide) hk1 hFc hP1 hD1
              generalize H1 = H at hP hS ⊢
              have hP : va_P E.1 vwCl [(g1, .inl (E.2.1, 81, .inl f_9)), (g3, .inl (E.2.1, 2, .inl y3)), (g4, .inl (E.2.1, 2, .inl y4)), (h, .inr (6, [.ref g1, .ref g2, .int (nI q_32), .int 0, .ref g3, .ref g4])), (g2, .inl (E.2.1, 8, .inl q_31))] H := hP
              have hD : va_D A [(g1, .inl (E.2.1, 81, .inl f_9)), (g3, .inl (E.2.1, 2, .inl y3)), (g4, .inl (E.2.1, 2, .inl y4)), (h, .inr (6, [.ref g1, .ref g2, .int (nI q_32), .int 0, .ref g3, .ref g4])), (g2, .inl (E.2.1, 8, .inl q_31))] := hD
              have hsw_33 := hw
              have kk_34 := hsw_33
              refine lv_iload hx hb dX5_moveSite_122 (lv_at hl 5 rfl) ?_
              refine lv_iconst (v := 1) hx hb dX5_moveSite_124 (by decide) ?_
              refine lv_iload hx hb dX5_moveSite_125 (lv_at hl 0 rfl) ?_
              refine lv_ishl hx hb dX5_moveSite_127 ?_
              refine lv_topi (fun z_35 ez_35 => ?_)
              refine lv_ior hx hb dX5_moveSite_128 ?_
              refine lv_topi (fun z_36 ez_36 => ?_)
              refine lv_istore (lv' := [(4, .int z_36), (6, .int y_25), (0, .ref h), (1, .int p0), (2, .int p1), (3, .int p2), (5, .int (nI i))]) hx hb dX5_moveSite_129 hl (by decide) rfl (fun ls hl => ?_)
              refine lv_aload_n hx hb dX5_moveSite_131 rfl (lv_at hl 2 rfl) ?_
              refine lv_iload hx hb dX5_moveSite_132 (lv_at hl 0 rfl) ?_
              have hPc := hP.sub (ws' := [(h, .inr (6, [.ref g1, .ref g2, .int (nI q_32), .int 0, .ref g3, .ref g4])), (g1, .inl (E.2.1, 81, .inl f_9)), (g2, .inl (E.2.1, 8, .inl q_31)), (g3, .inl (E.2.1, 2, .inl y3)), (g4, .inl (E.2.1, 2, .inl y4))]) [3, 0, 4, 1, 2] rfl
              have hDc := hD.sub (ws' := [(h, .inr (6, [.ref g1, .ref g2, .int (nI q_32), .int 0, .ref g3, .ref g4])), (g1, .inl (E.2.1, 81, .inl f_9)), (g2, .inl (E.2.1, 8, .inl q_31)), (g3, .inl (E.2.1, 2, .inl y3)), (g4, .inl (E.2.1, 2, .inl y4))]) [3, 0, 4, 1, 2] (by decide) rfl
              have hFc := va_free (wc := [(h, .inr (6, [.ref g1, .ref g2, .int (nI q_32), .int 0, .ref g3, .ref g4])), (g1, .inl (E.2.1, 81, .inl f_9)), (g2, .inl (E.2.1, 8, .inl q_31)), (g3, .inl (E.2.1, 2, .inl y3)), (g4, .inl (E.2.1, 2, .inl y4))]) hD hS hA [3, 0, 4, 1, 2] rfl
              refine va_calli (va_runV (As := [.int z_36]) (rest := []) ⟨hx, hb, hml, hown, hts⟩ (s_canShare l E H.size h g1 g2 g3 g4 k (nI q_32) 0 f_9 q_31 y3 y4 z_36 kf_9_3 (by omega)) (cwV 1 hts g_s_moveSite_s_canShare_156 rfl rfl rfl (by decide +kernel) ⟨Nat.le_of_ble_eq_true rfl, Nat.le_of_ble_eq_true rfl⟩) ⟨pW.blind, va_recv hK hPc (ci := 6) (q0 := 0) rfl rfl, (pW.pre ⟨hK, hN⟩ hPc hDc)⟩ rfl rfl hl.1 rfl (lv_room (Nat.le_of_ble_eq_true rfl)) dX5_moveSite_134 ⟨Nat.le_of_ble_eq_true rfl, Nat.le_of_ble_eq_true rfl⟩) hS (fun q _ h => hFc q h) hFc (fun r_37 u_38 tt H1 locs ht hvm hw hB hz1 hk1 hS => ?_)
              obtain ⟨q_39, q_40⟩ := u_38
              obtain ⟨hP1, hD1⟩ := hB
              rw [ht] at hP1
              obtain ⟨hP, hD⟩ := va_join (wr := []) (w1 := [(h, .inr (6, [.ref g1, .ref g2, .int (nI q_32), .int 0, .ref g3, .ref g4])), (g1, .inl (E.2.1, 81, .inl f_9)), (g2, .inl (E.2.1, 8, .inl q_31)), (g3, .inl (E.2.1, 2, .inl q_39)), (g4, .inl (E.2.1, 2, .inl q_40))]) hP hD [3, 0, 4, 1, 2] [] rfl rfl (by decide) (by decide) hk1 hFc hP1 hD1
              generalize H1 = H at hP hS ⊢
              have hP : va_P E.1 vwCl [(h, .inr (6, [.ref g1, .ref g2, .int (nI q_32), .int 0, .ref g3, .ref g4])), (g1, .inl (E.2.1, 81, .inl f_9)), (g2, .inl (E.2.1, 8, .inl q_31)), (g3, .inl (E.2.1, 2, .inl q_39)), (g4, .inl (E.2.1, 2, .inl q_40))] H := hP
              have hD : va_D A [(h, .inr (6, [.ref g1, .ref g2, .int (nI q_32), .int 0, .ref g3, .ref g4])), (g1, .inl (E.2.1, 81, .inl f_9)), (g2, .inl (E.2.1, 8, .inl q_31)), (g3, .inl (E.2.1, 2, .inl q_39)), (g4, .inl (E.2.1, 2, .inl q_40))] := hD
              have hr_37 := hw
              refine lv_if_eq (tgt := 147) hx hb dX5_moveSite_137 (by decide) (fun c_41 => ?_) (fun c_41 => ?_)
              ·
                obtain ⟨j_42, hj_42, ej_42⟩ : ∃ j : Nat, j ≤ 0 ∧ r_37 = nI j := nat_rng (by have t0 : (0 : Int32).toInt = 0 := (by decide); simp only [Int32.lt_iff_toInt_lt, Int32.le_iff_toInt_le, ge_iff_le, gt_iff_lt, ne_eq, ← Int32.toInt_inj, t0] at c_41 ⊢; omega)
                refine lv_iinc (v := nI (i + 1)) (lv' := [(5, .int (nI (i + 1))), (4, .int z_36), (6, .int y_25), (0, .ref h), (1, .int p0), (2, .int p1), (3, .int p2)]) hx hb dX5_moveSite_147 hl (k := 6) rfl (show nI (i) + 1 = nI (i + 1) from nI_add _ 1) (by decide) rfl (fun ls hl => ?_)
                refine lv_goto (tgt := 46) hx hb dX5_moveSite_150 (by decide) ?_
                exact ih z_36 (i + 1) q_32 q_31 q_39 q_40 H locs ls (by omega) (by omega) (by omega) (hP.sub [0, 1, 2, 3, 4] rfl) (hD.sub [0, 1, 2, 3, 4] (by decide) rfl) hS (lv_sub hl [3, 4, 5, 6, 1, 0] rfl)
              ·
                exact KX140 z_36 i q_32 q_31 q_39 q_40 H locs ls (by omega) (by omega) (hP.sub [0, 1, 2, 3, 4] rfl) (hD.sub [0, 1, 2, 3, 4] (by decide) rfl) hS (lv_sub hl [2, 3, 4, 5, 0, 6] rfl)
            ·
              refine lv_goto (tgt := 147) hx hb dX5_moveSite_113 (by decide) ?_
              refine lv_iinc (v := nI (i + 1)) (lv' := [(5, .int (nI (i + 1))), (6, .int y_25), (0, .ref h), (1, .int p0), (2, .int p1), (3, .int p2), (4, .int v4)]) hx hb dX5_moveSite_147 hl (k := 6) rfl (show nI (i) + 1 = nI (i + 1) from nI_add _ 1) (by decide) rfl (fun ls hl => ?_)
              refine lv_goto (tgt := 46) hx hb dX5_moveSite_150 (by decide) ?_
              exact ih v4 (i + 1) a y2 y3 y4 H locs ls (by omega) (by omega) (by omega) (hP.sub [0, 1, 2, 3, 4] rfl) (hD.sub [0, 1, 2, 3, 4] (by decide) rfl) hS (lv_sub hl [2, 3, 4, 5, 6, 0] rfl)
          refine lv_icmp_ge (tgt := 91) hx hb dX5_moveSite_81 (by decide) (fun c_21 => ?_) (fun c_21 => ?_)
          ·
            refine lv_iload_n hx hb dX5_moveSite_91 rfl (lv_at hl 1 rfl) ?_
            refine lv_iload hx hb dX5_moveSite_92 (lv_at hl 5 rfl) ?_
            refine lv_iadd hx hb dX5_moveSite_94 ?_
            refine lv_topi (fun z_43 ez_43 => ?_)
            refine lv_aload_n hx hb dX5_moveSite_95 rfl (lv_at hl 0 rfl) ?_
            refine va_get (D := E.1) (ci := 6) (v := .ref g1) (C := RX5) (T := TX5) (N := 6) hx hb hts i_s_moveSite_X5 hown hK hP 0 rfl rfl 0 (by decide) (hts (.fieldLink RX5 11 "HushWatch$State" "row" "[I") (List.mem_of_getElem? (i := 3) rfl)) (fun _ h9 => h9) rfl dX5_moveSite_96 ?_
            refine lv_iconst (v := 3) hx hb dX5_moveSite_99 (by decide) ?_
            refine va_iald hx hb hK hP 1 0 rfl rfl (vin rfl) dX5_moveSite_100 ?_
            refine W.eq (g2 := F0 m 101 ls [.int (f_9 3), .int z_43]) rfl ?_
            refine W.eq (g2 := F0 m 101 ls [.int (nI k), .int z_43]) (by rw [kf_9_3]) ?_
            refine lv_isub hx hb dX5_moveSite_101 ?_
            refine lv_topi (fun z_44 ez_44 => ?_)
            exact K_26 z_44 H locs ls  (hP.sub [0, 1, 2, 3, 4] rfl) (hD.sub [0, 1, 2, 3, 4] (by decide) rfl) hS (lv_sub hl [0, 1, 2, 3, 4, 5] rfl)
          ·
            refine lv_iload_n hx hb dX5_moveSite_84 rfl (lv_at hl 1 rfl) ?_
            refine lv_iload hx hb dX5_moveSite_85 (lv_at hl 5 rfl) ?_
            refine lv_iadd hx hb dX5_moveSite_87 ?_
            refine lv_topi (fun z_45 ez_45 => ?_)
            refine lv_goto (tgt := 102) hx hb dX5_moveSite_88 (by decide) ?_
            exact K_26 z_45 H locs ls  (hP.sub [0, 1, 2, 3, 4] rfl) (hD.sub [0, 1, 2, 3, 4] (by decide) rfl) hS (lv_sub hl [0, 1, 2, 3, 4, 5] rfl)

set_option maxHeartbeats 4000000 in
set_option maxRecDepth 100000 in
theorem s_moveSite (l : Launch) (E : EE) (sz : Nat) (h g1 g2 g3 g4 k : Nat) (ka ko : Int32) (f : Nat → Int32) (fp fs fl : Nat → Int32) (p0 p1 p2 : Int32) (hk : f 3 = nI k) (hk8 : k ≤ 8) : Met l yX5_moveSite v_s_moveSite ({ frames := 3, cells := 0, slots := 0, locals := 73 }) (va_Pc [.ref h, .int p0, .int p1, .int p2] (pW E sz [(h, .inr (6, [.ref g1, .ref g2, .int ka, .int ko, .ref g3, .ref g4])), (g1, .inl (E.2.1, 81, .inl f)), (g2, .inl (E.2.1, 8, .inl fp)), (g3, .inl (E.2.1, 2, .inl fs)), (g4, .inl (E.2.1, 2, .inl fl))])) (va_Qi (fun (r : Int32) (u_ : (Nat → Int32) × (Nat → Int32) × (Nat → Int32) × (Nat → Int32) × (Int32) × (Int32)) => (True) ∧ u_.1 3 = nI k) (fun (u_ : (Nat → Int32) × (Nat → Int32) × (Nat → Int32) × (Nat → Int32) × (Int32) × (Int32)) tt => va_P E.1 vwCl [(h, .inr (6, [.ref g1, .ref g2, .int u_.2.2.2.2.1, .int u_.2.2.2.2.2, .ref g3, .ref g4])), (g1, .inl (E.2.1, 81, .inl u_.1)), (g2, .inl (E.2.1, 8, .inl u_.2.1)), (g3, .inl (E.2.1, 2, .inl u_.2.2.1)), (g4, .inl (E.2.1, 2, .inl u_.2.2.2.1))] tt.heap ∧ va_D (va_A [(h, .inr (6, [.ref g1, .ref g2, .int ka, .int ko, .ref g3, .ref g4])), (g1, .inl (E.2.1, 81, .inl f)), (g2, .inl (E.2.1, 8, .inl fp)), (g3, .inl (E.2.1, 2, .inl fs)), (g4, .inl (E.2.1, 2, .inl fl))] sz) [(h, .inr (6, [.ref g1, .ref g2, .int u_.2.2.2.2.1, .int u_.2.2.2.2.2, .ref g3, .ref g4])), (g1, .inl (E.2.1, 81, .inl u_.1)), (g2, .inl (E.2.1, 8, .inl u_.2.1)), (g3, .inl (E.2.1, 2, .inl u_.2.2.1)), (g4, .inl (E.2.1, 2, .inl u_.2.2.2.1))]) (va_A [(h, .inr (6, [.ref g1, .ref g2, .int ka, .int ko, .ref g3, .ref g4])), (g1, .inl (E.2.1, 81, .inl f)), (g2, .inl (E.2.1, 8, .inl fp)), (g3, .inl (E.2.1, 2, .inl fs)), (g4, .inl (E.2.1, 2, .inl fl))] sz)) 0 0 (va_A [(h, .inr (6, [.ref g1, .ref g2, .int ka, .int ko, .ref g3, .ref g4])), (g1, .inl (E.2.1, 81, .inl f)), (g2, .inl (E.2.1, 8, .inl fp)), (g3, .inl (E.2.1, 2, .inl fs)), (g4, .inl (E.2.1, 2, .inl fl))] sz) := by
  refine Met.ofW (cc := cX5_moveSite) (maxL := 7) (ret := (some .int)) (by decide) rfl ?_
  intro p e s m args below meth c s₁ B hml hv
  obtain ⟨rfl, hsz, ⟨hK, hN⟩, hP, hD0⟩ := hv
  have hx := B.exec
  have hb := B.bytes
  have hr := B.returns
  have hts := atoms_spec (ws := v_s_moveSite) B.pre
  have hown : s.vm.findClass RX5 = some m.cls := findClass_of_methodNamed B.named
  have hlocks := B.notSynchronized
  subst hsz
  have hD := hD0.self (sz := s.heap.size)
  generalize hAe : va_A [(h, .inr (6, [.ref g1, .ref g2, .int ka, .int ko, .ref g3, .ref g4])), (g1, .inl (E.2.1, 81, .inl f)), (g2, .inl (E.2.1, 8, .inl fp)), (g3, .inl (E.2.1, 2, .inl fs)), (g4, .inl (E.2.1, 2, .inl fl))] s.heap.size = A at hD ⊢
  have hA : ∀ q : Nat, s.heap.size ≤ q → A q := fun q h => by rw [← hAe]; exact Or.inr h
  have hS : va_S A s.heap s.heap [] := va_S.rf
  have hP : va_P E.1 vwCl [(h, .inr (6, [.ref g1, .ref g2, .int ka, .int ko, .ref g3, .ref g4])), (g1, .inl (E.2.1, 81, .inl f)), (g2, .inl (E.2.1, 8, .inl fp)), (g3, .inl (E.2.1, 2, .inl fs)), (g4, .inl (E.2.1, 2, .inl fl))] s.heap := hP
  have hl := lv_entry ([.ref h, .int p0, .int p1, .int p2]) (n := 7) (Nat.le_of_ble_eq_true rfl)
  rw [lg_entry_eq]
  generalize (lg_sl ([.ref h, .int p0, .int p1, .int p2]) ++ List.replicate (7 - (lg_sl ([.ref h, .int p0, .int p1, .int p2])).length) Slot.unset).toArray = ls at hl ⊢
  have hl : lv_has ls 7 [(0, .ref h), (1, .int p0), (2, .int p1), (3, .int p2)] := hl
  obtain ⟨Q, hQ⟩ : ∃ Q : State → Prop, Q = MQ below (va_Qi (fun (r : Int32) (u_ : (Nat → Int32) × (Nat → Int32) × (Nat → Int32) × (Nat → Int32) × (Int32) × (Int32)) => (True) ∧ u_.1 3 = nI k) (fun (u_ : (Nat → Int32) × (Nat → Int32) × (Nat → Int32) × (Nat → Int32) × (Int32) × (Int32)) tt => va_P E.1 vwCl [(h, .inr (6, [.ref g1, .ref g2, .int u_.2.2.2.2.1, .int u_.2.2.2.2.2, .ref g3, .ref g4])), (g1, .inl (E.2.1, 81, .inl u_.1)), (g2, .inl (E.2.1, 8, .inl u_.2.1)), (g3, .inl (E.2.1, 2, .inl u_.2.2.1)), (g4, .inl (E.2.1, 2, .inl u_.2.2.2.1))] tt.heap ∧ va_D A [(h, .inr (6, [.ref g1, .ref g2, .int u_.2.2.2.2.1, .int u_.2.2.2.2.2, .ref g3, .ref g4])), (g1, .inl (E.2.1, 81, .inl u_.1)), (g2, .inl (E.2.1, 8, .inl u_.2.1)), (g3, .inl (E.2.1, 2, .inl u_.2.2.1)), (g4, .inl (E.2.1, 2, .inl u_.2.2.2.1))]) A) #[Value.ref h, Value.int p0, Value.int p1, Value.int p2] s 0 0 A := ⟨_, rfl⟩
  rw [← hQ]
  change W p l e ({ frames := 3, cells := 0, slots := 0, locals := 73 } : Room) s m #[Value.ref h, Value.int p0, Value.int p1, Value.int p2] below meth c s.heap [] 0 0 Q (F0 m 0 ls [])
  refine lv_aload_n hx hb dX5_moveSite_0 rfl (lv_at hl 0 rfl) ?_
  refine lv_iconst (v := 0) hx hb dX5_moveSite_1 (by decide) ?_
  refine va_put (D := E.1) (ci := 6) (v := .int 0) (ty := .int) (C := RX5) (T := TX5) (N := 6) hx hb hts i_s_moveSite_X5 tyX5 tyX5_ok nmX5 hown hK hP hD hS 0 rfl rfl 2 (by decide) (hts (.fieldLink RX5 18 "HushWatch$State" "askedCount" "I") (List.mem_of_getElem? (i := 1) rfl)) (fun _ h9 => h9) rfl (by decide +kernel) rfl rfl (Nat.le_of_ble_eq_true rfl) dX5_moveSite_2 (fun H locs hP hD hS => ?_)
  have hP : va_P E.1 vwCl [(h, .inr (6, [.ref g1, .ref g2, .int 0, .int ko, .ref g3, .ref g4])), (g1, .inl (E.2.1, 81, .inl f)), (g2, .inl (E.2.1, 8, .inl fp)), (g3, .inl (E.2.1, 2, .inl fs)), (g4, .inl (E.2.1, 2, .inl fl))] H := hP
  have hD : va_D A [(h, .inr (6, [.ref g1, .ref g2, .int 0, .int ko, .ref g3, .ref g4])), (g1, .inl (E.2.1, 81, .inl f)), (g2, .inl (E.2.1, 8, .inl fp)), (g3, .inl (E.2.1, 2, .inl fs)), (g4, .inl (E.2.1, 2, .inl fl))] := hD
  refine lv_aload_n hx hb dX5_moveSite_5 rfl (lv_at hl 0 rfl) ?_
  refine lv_iconst (v := 0) hx hb dX5_moveSite_6 (by decide) ?_
  refine va_put (D := E.1) (ci := 6) (v := .int 0) (ty := .int) (C := RX5) (T := TX5) (N := 6) hx hb hts i_s_moveSite_X5 tyX5 tyX5_ok nmX5 hown hK hP hD hS 0 rfl rfl 3 (by decide) (hts (.fieldLink RX5 22 "HushWatch$State" "outcome" "I") (List.mem_of_getElem? (i := 2) rfl)) (fun _ h9 => h9) rfl (by decide +kernel) rfl rfl (Nat.le_of_ble_eq_true rfl) dX5_moveSite_7 (fun H locs hP hD hS => ?_)
  have hP : va_P E.1 vwCl [(h, .inr (6, [.ref g1, .ref g2, .int 0, .int 0, .ref g3, .ref g4])), (g1, .inl (E.2.1, 81, .inl f)), (g2, .inl (E.2.1, 8, .inl fp)), (g3, .inl (E.2.1, 2, .inl fs)), (g4, .inl (E.2.1, 2, .inl fl))] H := hP
  have hD : va_D A [(h, .inr (6, [.ref g1, .ref g2, .int 0, .int 0, .ref g3, .ref g4])), (g1, .inl (E.2.1, 81, .inl f)), (g2, .inl (E.2.1, 8, .inl fp)), (g3, .inl (E.2.1, 2, .inl fs)), (g4, .inl (E.2.1, 2, .inl fl))] := hD
  refine lv_aload_n hx hb dX5_moveSite_10 rfl (lv_at hl 0 rfl) ?_
  refine lv_iload_n hx hb dX5_moveSite_11 rfl (lv_at hl 1 rfl) ?_
  refine lv_iload_n hx hb dX5_moveSite_12 rfl (lv_at hl 2 rfl) ?_
  refine lv_iload_n hx hb dX5_moveSite_13 rfl (lv_at hl 3 rfl) ?_
  have hPc := hP.sub (ws' := [(h, .inr (6, [.ref g1, .ref g2, .int 0, .int 0, .ref g3, .ref g4])), (g1, .inl (E.2.1, 81, .inl f))]) [0, 1] rfl
  have hDc := hD.sub (ws' := [(h, .inr (6, [.ref g1, .ref g2, .int 0, .int 0, .ref g3, .ref g4])), (g1, .inl (E.2.1, 81, .inl f))]) [0, 1] (by decide) rfl
  have hFc := va_free (wc := [(h, .inr (6, [.ref g1, .ref g2, .int 0, .int 0, .ref g3, .ref g4])), (g1, .inl (E.2.1, 81, .inl f))]) hD hS hA [0, 1] rfl
  refine va_callv (va_runV (As := [.int p0, .int p1, .int p2]) (rest := []) ⟨hx, hb, hml, hown, hts⟩ (s_shift l E H.size h g1 g2 g3 g4 k 0 0 f p0 p1 p2 hk (by omega)) (cwV 3 hts g_s_moveSite_s_shift_150 rfl rfl rfl (by decide +kernel) ⟨Nat.le_of_ble_eq_true rfl, Nat.le_of_ble_eq_true rfl⟩) ⟨pW.blind, va_recv hK hPc (ci := 6) (q0 := 0) rfl rfl, (pW.pre ⟨hK, hN⟩ hPc hDc)⟩ rfl rfl hl.1 rfl (lv_room (Nat.le_of_ble_eq_true rfl)) dX5_moveSite_14 ⟨Nat.le_of_ble_eq_true rfl, Nat.le_of_ble_eq_true rfl⟩) hS (fun q _ h => hFc q h) hFc (fun  u_1 tt H1 locs ht hvm hw hB hz1 hk1 hS => ?_)
  obtain ⟨hP1, hD1⟩ := hB
  rw [ht] at hP1
  obtain ⟨hP, hD⟩ := va_join (wr := [(g2, .inl (E.2.1, 8, .inl fp)), (g3, .inl (E.2.1, 2, .inl fs)), (g4, .inl (E.2.1, 2, .inl fl))]) (w1 := [(h, .inr (6, [.ref g1, .ref g2, .int 0, .int 0, .ref g3, .ref g4])), (g1, .inl (E.2.1, 81, .inl u_1))]) hP hD [0, 1] [2, 3, 4] rfl rfl (by decide) (by decide) hk1 hFc hP1 hD1
  generalize H1 = H at hP hS ⊢
  have hP : va_P E.1 vwCl [(g2, .inl (E.2.1, 8, .inl fp)), (g3, .inl (E.2.1, 2, .inl fs)), (g4, .inl (E.2.1, 2, .inl fl)), (h, .inr (6, [.ref g1, .ref g2, .int 0, .int 0, .ref g3, .ref g4])), (g1, .inl (E.2.1, 81, .inl u_1))] H := hP
  have hD : va_D A [(g2, .inl (E.2.1, 8, .inl fp)), (g3, .inl (E.2.1, 2, .inl fs)), (g4, .inl (E.2.1, 2, .inl fl)), (h, .inr (6, [.ref g1, .ref g2, .int 0, .int 0, .ref g3, .ref g4])), (g1, .inl (E.2.1, 81, .inl u_1))] := hD
  have hsw_2 := hw
  have kk_3 := hsw_2
  refine lv_aload_n hx hb dX5_moveSite_17 rfl (lv_at hl 0 rfl) ?_
  refine lv_iload_n hx hb dX5_moveSite_18 rfl (lv_at hl 1 rfl) ?_
  have hPc := hP.sub (ws' := [(h, .inr (6, [.ref g1, .ref g2, .int 0, .int 0, .ref g3, .ref g4])), (g1, .inl (E.2.1, 81, .inl u_1))]) [3, 4] rfl
  refine pc_i (va_runV (As := [.int p0]) (rest := []) ⟨hx, hb, hml, hown, hts⟩ (s_isQuiet l E h g1 g2 g3 g4 k 0 0 u_1 p0 kk_3 (by omega)) (cwV 1 hts g_s_moveSite_s_isQuiet_99 rfl rfl rfl (by decide +kernel) ⟨Nat.le_of_ble_eq_true rfl, Nat.le_of_ble_eq_true rfl⟩) ⟨pP.blind, va_recv hK hPc (ci := 6) (q0 := 0) rfl rfl, (pP.pre ⟨hK, hN⟩ hPc)⟩ rfl rfl hl.1 rfl (lv_room (Nat.le_of_ble_eq_true rfl)) dX5_moveSite_19 ⟨Nat.le_of_ble_eq_true rfl, Nat.le_of_ble_eq_true rfl⟩) (fun r_4 hr_4 => ?_)
  refine lv_if_eq (tgt := 27) hx hb dX5_moveSite_22 (by decide) (fun c_5 => ?_) (fun c_5 => ?_)
  ·
    obtain ⟨j_6, hj_6, ej_6⟩ : ∃ j : Nat, j ≤ 0 ∧ r_4 = nI j := nat_rng (by have t0 : (0 : Int32).toInt = 0 := (by decide); simp only [Int32.lt_iff_toInt_lt, Int32.le_iff_toInt_le, ge_iff_le, gt_iff_lt, ne_eq, ← Int32.toInt_inj, t0] at c_5 ⊢; omega)
    refine lv_aload_n hx hb dX5_moveSite_27 rfl (lv_at hl 0 rfl) ?_
    refine va_get (D := E.1) (ci := 6) (v := .ref g1) (C := RX5) (T := TX5) (N := 6) hx hb hts i_s_moveSite_X5 hown hK hP 3 rfl rfl 0 (by decide) (hts (.fieldLink RX5 11 "HushWatch$State" "row" "[I") (List.mem_of_getElem? (i := 3) rfl)) (fun _ h9 => h9) rfl dX5_moveSite_28 ?_
    refine lv_bipush (v := 12) hx hb dX5_moveSite_31 (by decide) ?_
    refine lv_dup2_11 hx hb dX5_moveSite_33 rfl rfl ?_
    refine va_iald hx hb hK hP 4 0 rfl rfl (vin rfl) dX5_moveSite_34 ?_
    refine W.eq (g2 := F0 m 35 ls [.int (u_1 12), .int 12, .ref g1]) rfl ?_
    refine lv_topi (fun z_7 ez_7 => ?_)
    refine lv_iconst (v := 1) hx hb dX5_moveSite_35 (by decide) ?_
    refine lv_iadd hx hb dX5_moveSite_36 ?_
    refine lv_topi (fun z_8 ez_8 => ?_)
    refine va_iast hx hb hK hP hD hS 4 0 rfl rfl (vin rfl) dX5_moveSite_37 (fun H locs hP hD hS => ?_)
    have hP : va_P E.1 vwCl [(g2, .inl (E.2.1, 8, .inl fp)), (g3, .inl (E.2.1, 2, .inl fs)), (g4, .inl (E.2.1, 2, .inl fl)), (h, .inr (6, [.ref g1, .ref g2, .int 0, .int 0, .ref g3, .ref g4])), (g1, .inl (E.2.1, 81, .inl (upd u_1 (12 : Int32).toNatClampNeg z_8)))] H := hP
    have hD : va_D A [(g2, .inl (E.2.1, 8, .inl fp)), (g3, .inl (E.2.1, 2, .inl fs)), (g4, .inl (E.2.1, 2, .inl fl)), (h, .inr (6, [.ref g1, .ref g2, .int 0, .int 0, .ref g3, .ref g4])), (g1, .inl (E.2.1, 81, .inl (upd u_1 (12 : Int32).toNatClampNeg z_8)))] := hD
    obtain ⟨f_9, hf_9⟩ : ∃ g : Nat → Int32, g = upd u_1 (12 : Int32).toNatClampNeg z_8 := ⟨_, rfl⟩
    rw [← hf_9] at hP hD
    have kf_9_3 : f_9 3 = nI k := by rw [hf_9]; exact (upd_ne (by decide)).trans kk_3
    refine lv_iconst (v := 1) hx hb dX5_moveSite_38 (by decide) ?_
    refine lv_iload_n hx hb dX5_moveSite_39 rfl (lv_at hl 1 rfl) ?_
    refine lv_ishl hx hb dX5_moveSite_40 ?_
    refine lv_topi (fun z_10 ez_10 => ?_)
    refine lv_istore (lv' := [(4, .int z_10), (0, .ref h), (1, .int p0), (2, .int p1), (3, .int p2)]) hx hb dX5_moveSite_41 hl (by decide) rfl (fun ls hl => ?_)
    refine lv_iconst (v := 1) hx hb dX5_moveSite_43 (by decide) ?_
    refine lv_istore (lv' := [(5, .int 1), (4, .int z_10), (0, .ref h), (1, .int p0), (2, .int p1), (3, .int p2)]) hx hb dX5_moveSite_44 hl (by decide) rfl (fun ls hl => ?_)
    refine lp_s_moveSite_46 (h := h) (g1 := g1) (g2 := g2) (g3 := g3) (g4 := g4) (k := k) (ka := ka) (ko := ko) (f := f) (fp := fp) (fs := fs) (fl := fl) (p0 := p0) (p1 := p1) (p2 := p2) l E hk hk8 hx hb hml hown hts hK hN f_9 kf_9_3 hA ?_ ?_ (10) z_10 1 0 fp fs fl H locs ls (by omega) (by omega) (by omega) (hP.sub [3, 4, 0, 1, 2] rfl) (hD.sub [3, 4, 0, 1, 2] (by decide) rfl) hS (lv_sub hl [2, 3, 4, 5, 1, 0] rfl)
    ·
      intro v4 i a y2 y3 y4 H locs ls hi ha hP hD hS hl
      refine lv_aload_n hx hb dX5_moveSite_140 rfl (lv_at hl 0 rfl) ?_
      refine lv_iload hx hb dX5_moveSite_141 (lv_at hl 4 rfl) ?_
      have hPc := hP.sub (ws' := [(h, .inr (6, [.ref g1, .ref g2, .int (nI a), .int 0, .ref g3, .ref g4])), (g1, .inl (E.2.1, 81, .inl f_9)), (g2, .inl (E.2.1, 8, .inl y2)), (g3, .inl (E.2.1, 2, .inl y3)), (g4, .inl (E.2.1, 2, .inl y4))]) [0, 1, 2, 3, 4] rfl
      have hDc := hD.sub (ws' := [(h, .inr (6, [.ref g1, .ref g2, .int (nI a), .int 0, .ref g3, .ref g4])), (g1, .inl (E.2.1, 81, .inl f_9)), (g2, .inl (E.2.1, 8, .inl y2)), (g3, .inl (E.2.1, 2, .inl y3)), (g4, .inl (E.2.1, 2, .inl y4))]) [0, 1, 2, 3, 4] (by decide) rfl
      have hFc := va_free (wc := [(h, .inr (6, [.ref g1, .ref g2, .int (nI a), .int 0, .ref g3, .ref g4])), (g1, .inl (E.2.1, 81, .inl f_9)), (g2, .inl (E.2.1, 8, .inl y2)), (g3, .inl (E.2.1, 2, .inl y3)), (g4, .inl (E.2.1, 2, .inl y4))]) hD hS hA [0, 1, 2, 3, 4] rfl
      refine va_calli (va_runV (As := [.int v4]) (rest := []) ⟨hx, hb, hml, hown, hts⟩ (s_balance l E H.size h g1 g2 g3 g4 k (nI a) 0 f_9 y2 y3 y4 v4 kf_9_3 (by omega)) (cwV 1 hts g_s_moveSite_s_balance_159 rfl rfl rfl (by decide +kernel) ⟨Nat.le_of_ble_eq_true rfl, Nat.le_of_ble_eq_true rfl⟩) ⟨pW.blind, va_recv hK hPc (ci := 6) (q0 := 0) rfl rfl, (pW.pre ⟨hK, hN⟩ hPc hDc)⟩ rfl rfl hl.1 rfl (lv_room (Nat.le_of_ble_eq_true rfl)) dX5_moveSite_143 ⟨Nat.le_of_ble_eq_true rfl, Nat.le_of_ble_eq_true rfl⟩) hS (fun q _ h => hFc q h) hFc (fun r_46 u_47 tt H1 locs ht hvm hw hB hz1 hk1 hS => ?_)
      obtain ⟨q_48, q_49⟩ := u_47
      obtain ⟨hP1, hD1⟩ := hB
      rw [ht] at hP1
      obtain ⟨hP, hD⟩ := va_join (wr := []) (w1 := [(h, .inr (6, [.ref g1, .ref g2, .int (nI a), .int q_49, .ref g3, .ref g4])), (g1, .inl (E.2.1, 81, .inl q_48)), (g2, .inl (E.2.1, 8, .inl y2)), (g3, .inl (E.2.1, 2, .inl y3)), (g4, .inl (E.2.1, 2, .inl y4))]) hP hD [0, 1, 2, 3, 4] [] rfl rfl (by decide) (by decide) hk1 hFc hP1 hD1
      generalize H1 = H at hP hS ⊢
      have hP : va_P E.1 vwCl [(h, .inr (6, [.ref g1, .ref g2, .int (nI a), .int q_49, .ref g3, .ref g4])), (g1, .inl (E.2.1, 81, .inl q_48)), (g2, .inl (E.2.1, 8, .inl y2)), (g3, .inl (E.2.1, 2, .inl y3)), (g4, .inl (E.2.1, 2, .inl y4))] H := hP
      have hD : va_D A [(h, .inr (6, [.ref g1, .ref g2, .int (nI a), .int q_49, .ref g3, .ref g4])), (g1, .inl (E.2.1, 81, .inl q_48)), (g2, .inl (E.2.1, 8, .inl y2)), (g3, .inl (E.2.1, 2, .inl y3)), (g4, .inl (E.2.1, 2, .inl y4))] := hD
      obtain ⟨hr_46, hsr_46⟩ := hw
      have kk_50 := hsr_46
      rw [hQ]
      have hP9 := hP.sub (ws' := [(h, .inr (6, [.ref g1, .ref g2, .int (nI a), .int q_49, .ref g3, .ref g4])), (g1, .inl (E.2.1, 81, .inl q_48)), (g2, .inl (E.2.1, 8, .inl y2)), (g3, .inl (E.2.1, 2, .inl y3)), (g4, .inl (E.2.1, 2, .inl y4))]) [0, 1, 2, 3, 4] rfl
      have hD9 := hD.sub (ws' := [(h, .inr (6, [.ref g1, .ref g2, .int (nI a), .int q_49, .ref g3, .ref g4])), (g1, .inl (E.2.1, 81, .inl q_48)), (g2, .inl (E.2.1, 8, .inl y2)), (g3, .inl (E.2.1, 2, .inl y3)), (g4, .inl (E.2.1, 2, .inl y4))]) [0, 1, 2, 3, 4] (by decide) rfl
      exact W.iret (v := r_46) hx hb hr (fun tt ht hW => ⟨⟨_, (q_48, y2, y3, y4, (nI a), q_49), rfl, ⟨trivial, kk_50⟩, by rw [ht]; exact hP9, hD9⟩, hS.F ht⟩) hS.2.2 dX5_moveSite_146
    ·
      intro v4 i a y2 y3 y4 H locs ls hi ha hP hD hS hl
      refine lv_aload_n hx hb dX5_moveSite_153 rfl (lv_at hl 0 rfl) ?_
      have hPc := hP.sub (ws' := [(h, .inr (6, [.ref g1, .ref g2, .int (nI a), .int 0, .ref g3, .ref g4])), (g1, .inl (E.2.1, 81, .inl f_9))]) [0, 1] rfl
      have hDc := hD.sub (ws' := [(h, .inr (6, [.ref g1, .ref g2, .int (nI a), .int 0, .ref g3, .ref g4])), (g1, .inl (E.2.1, 81, .inl f_9))]) [0, 1] (by decide) rfl
      have hFc := va_free (wc := [(h, .inr (6, [.ref g1, .ref g2, .int (nI a), .int 0, .ref g3, .ref g4])), (g1, .inl (E.2.1, 81, .inl f_9))]) hD hS hA [0, 1] rfl
      refine va_callv (va_runV (As := []) (rest := []) ⟨hx, hb, hml, hown, hts⟩ (s_hearAll l E H.size h g1 g2 g3 g4 k (nI a) 0 f_9 kf_9_3 (by omega)) (cwV 0 hts g_s_moveSite_s_hearAll_162 rfl rfl rfl (by decide +kernel) ⟨Nat.le_of_ble_eq_true rfl, Nat.le_of_ble_eq_true rfl⟩) ⟨pW.blind, va_recv hK hPc (ci := 6) (q0 := 0) rfl rfl, (pW.pre ⟨hK, hN⟩ hPc hDc)⟩ rfl rfl hl.1 rfl (lv_room (Nat.le_of_ble_eq_true rfl)) dX5_moveSite_154 ⟨Nat.le_of_ble_eq_true rfl, Nat.le_of_ble_eq_true rfl⟩) hS (fun q _ h => hFc q h) hFc (fun  u_51 tt H1 locs ht hvm hw hB hz1 hk1 hS => ?_)
      obtain ⟨hP1, hD1⟩ := hB
      rw [ht] at hP1
      obtain ⟨hP, hD⟩ := va_join (wr := [(g2, .inl (E.2.1, 8, .inl y2)), (g3, .inl (E.2.1, 2, .inl y3)), (g4, .inl (E.2.1, 2, .inl y4))]) (w1 := [(h, .inr (6, [.ref g1, .ref g2, .int (nI a), .int 0, .ref g3, .ref g4])), (g1, .inl (E.2.1, 81, .inl u_51))]) hP hD [0, 1] [2, 3, 4] rfl rfl (by decide) (by decide) hk1 hFc hP1 hD1
      generalize H1 = H at hP hS ⊢
      have hP : va_P E.1 vwCl [(g2, .inl (E.2.1, 8, .inl y2)), (g3, .inl (E.2.1, 2, .inl y3)), (g4, .inl (E.2.1, 2, .inl y4)), (h, .inr (6, [.ref g1, .ref g2, .int (nI a), .int 0, .ref g3, .ref g4])), (g1, .inl (E.2.1, 81, .inl u_51))] H := hP
      have hD : va_D A [(g2, .inl (E.2.1, 8, .inl y2)), (g3, .inl (E.2.1, 2, .inl y3)), (g4, .inl (E.2.1, 2, .inl y4)), (h, .inr (6, [.ref g1, .ref g2, .int (nI a), .int 0, .ref g3, .ref g4])), (g1, .inl (E.2.1, 81, .inl u_51))] := hD
      have hsw_52 := hw
      have kk_53 := hsw_52
      refine lv_aload_n hx hb dX5_moveSite_157 rfl (lv_at hl 0 rfl) ?_
      refine lv_iconst (v := 2) hx hb dX5_moveSite_158 (by decide) ?_
      refine va_put (D := E.1) (ci := 6) (v := .int 2) (ty := .int) (C := RX5) (T := TX5) (N := 6) hx hb hts i_s_moveSite_X5 tyX5 tyX5_ok nmX5 hown hK hP hD hS 3 rfl rfl 3 (by decide) (hts (.fieldLink RX5 22 "HushWatch$State" "outcome" "I") (List.mem_of_getElem? (i := 2) rfl)) (fun _ h9 => h9) rfl (by decide +kernel) rfl rfl (Nat.le_of_ble_eq_true rfl) dX5_moveSite_159 (fun H locs hP hD hS => ?_)
      have hP : va_P E.1 vwCl [(g2, .inl (E.2.1, 8, .inl y2)), (g3, .inl (E.2.1, 2, .inl y3)), (g4, .inl (E.2.1, 2, .inl y4)), (h, .inr (6, [.ref g1, .ref g2, .int (nI a), .int 2, .ref g3, .ref g4])), (g1, .inl (E.2.1, 81, .inl u_51))] H := hP
      have hD : va_D A [(g2, .inl (E.2.1, 8, .inl y2)), (g3, .inl (E.2.1, 2, .inl y3)), (g4, .inl (E.2.1, 2, .inl y4)), (h, .inr (6, [.ref g1, .ref g2, .int (nI a), .int 2, .ref g3, .ref g4])), (g1, .inl (E.2.1, 81, .inl u_51))] := hD
      refine lv_aload_n hx hb dX5_moveSite_162 rfl (lv_at hl 0 rfl) ?_
      refine va_get (D := E.1) (ci := 6) (v := .ref g1) (C := RX5) (T := TX5) (N := 6) hx hb hts i_s_moveSite_X5 hown hK hP 3 rfl rfl 0 (by decide) (hts (.fieldLink RX5 11 "HushWatch$State" "row" "[I") (List.mem_of_getElem? (i := 3) rfl)) (fun _ h9 => h9) rfl dX5_moveSite_163 ?_
      refine lv_iconst (v := 3) hx hb dX5_moveSite_166 (by decide) ?_
      refine va_iald hx hb hK hP 4 0 rfl rfl (vin rfl) dX5_moveSite_167 ?_
      refine W.eq (g2 := F0 m 168 ls [.int (u_51 3)]) rfl ?_
      refine W.eq (g2 := F0 m 168 ls [.int (nI k)]) (by rw [kk_53]) ?_
      refine lv_iconst (v := 1) hx hb dX5_moveSite_168 (by decide) ?_
      refine lv_isub hx hb dX5_moveSite_169 ?_
      refine lv_topi (fun z_54 ez_54 => ?_)
      refine lv_aload_n hx hb dX5_moveSite_170 rfl (lv_at hl 0 rfl) ?_
      refine va_get (D := E.1) (ci := 6) (v := .int (nI a)) (C := RX5) (T := TX5) (N := 6) hx hb hts i_s_moveSite_X5 hown hK hP 3 rfl rfl 2 (by decide) (hts (.fieldLink RX5 18 "HushWatch$State" "askedCount" "I") (List.mem_of_getElem? (i := 1) rfl)) (fun _ h9 => h9) rfl dX5_moveSite_171 ?_
      refine lv_isub hx hb dX5_moveSite_174 ?_
      refine lv_topi (fun z_55 ez_55 => ?_)
      refine lv_istore (lv' := [(5, .int z_55), (0, .ref h), (1, .int p0), (2, .int p1), (3, .int p2), (4, .int v4)]) hx hb dX5_moveSite_175 hl (by decide) rfl (fun ls hl => ?_)
      refine lv_iconst (v := 1) hx hb dX5_moveSite_177 (by decide) ?_
      refine lv_iconst (v := 2) hx hb dX5_moveSite_178 (by decide) ?_
      refine lv_aload_n hx hb dX5_moveSite_179 rfl (lv_at hl 1 rfl) ?_
      refine va_get (D := E.1) (ci := 6) (v := .int (nI a)) (C := RX5) (T := TX5) (N := 6) hx hb hts i_s_moveSite_X5 hown hK hP 3 rfl rfl 2 (by decide) (hts (.fieldLink RX5 18 "HushWatch$State" "askedCount" "I") (List.mem_of_getElem? (i := 1) rfl)) (fun _ h9 => h9) rfl dX5_moveSite_180 ?_
      refine lv_imul hx hb dX5_moveSite_183 ?_
      refine lv_topi (fun z_56 ez_56 => ?_)
      obtain rfl : z_56 = nI (2 * a) := ez_56.trans (nI_mul 2 _)
      refine lv_iadd hx hb dX5_moveSite_184 ?_
      refine lv_topi (fun z_57 ez_57 => ?_)
      obtain rfl : z_57 = nI (1 + 2 * a) := ez_57.trans (nI_add 1 _)
      refine lv_iload hx hb dX5_moveSite_185 (lv_at hl 0 rfl) ?_
      refine lv_iadd hx hb dX5_moveSite_187 ?_
      refine lv_topi (fun z_58 ez_58 => ?_)
      refine lv_aload_n hx hb dX5_moveSite_188 rfl (lv_at hl 1 rfl) ?_
      refine va_get (D := E.1) (ci := 6) (v := .ref g1) (C := RX5) (T := TX5) (N := 6) hx hb hts i_s_moveSite_X5 hown hK hP 3 rfl rfl 0 (by decide) (hts (.fieldLink RX5 11 "HushWatch$State" "row" "[I") (List.mem_of_getElem? (i := 3) rfl)) (fun _ h9 => h9) rfl dX5_moveSite_189 ?_
      refine lv_iconst (v := 3) hx hb dX5_moveSite_192 (by decide) ?_
      refine va_iald hx hb hK hP 4 0 rfl rfl (vin rfl) dX5_moveSite_193 ?_
      refine W.eq (g2 := F0 m 194 ls [.int (u_51 3), .int z_58]) rfl ?_
      refine W.eq (g2 := F0 m 194 ls [.int (nI k), .int z_58]) (by rw [kk_53]) ?_
      refine lv_iadd hx hb dX5_moveSite_194 ?_
      refine lv_topi (fun z_59 ez_59 => ?_)
      rw [hQ]
      have hP9 := hP.sub (ws' := [(h, .inr (6, [.ref g1, .ref g2, .int (nI a), .int 2, .ref g3, .ref g4])), (g1, .inl (E.2.1, 81, .inl u_51)), (g2, .inl (E.2.1, 8, .inl y2)), (g3, .inl (E.2.1, 2, .inl y3)), (g4, .inl (E.2.1, 2, .inl y4))]) [3, 4, 0, 1, 2] rfl
      have hD9 := hD.sub (ws' := [(h, .inr (6, [.ref g1, .ref g2, .int (nI a), .int 2, .ref g3, .ref g4])), (g1, .inl (E.2.1, 81, .inl u_51)), (g2, .inl (E.2.1, 8, .inl y2)), (g3, .inl (E.2.1, 2, .inl y3)), (g4, .inl (E.2.1, 2, .inl y4))]) [3, 4, 0, 1, 2] (by decide) rfl
      exact W.iret (v := z_59) hx hb hr (fun tt ht hW => ⟨⟨_, (u_51, y2, y3, y4, (nI a), 2), rfl, ⟨trivial, kk_53⟩, by rw [ht]; exact hP9, hD9⟩, hS.F ht⟩) hS.2.2 dX5_moveSite_195
  ·
    refine lv_iconst (v := 0) hx hb dX5_moveSite_25 (by decide) ?_
    rw [hQ]
    have hP9 := hP.sub (ws' := [(h, .inr (6, [.ref g1, .ref g2, .int 0, .int 0, .ref g3, .ref g4])), (g1, .inl (E.2.1, 81, .inl u_1)), (g2, .inl (E.2.1, 8, .inl fp)), (g3, .inl (E.2.1, 2, .inl fs)), (g4, .inl (E.2.1, 2, .inl fl))]) [3, 4, 0, 1, 2] rfl
    have hD9 := hD.sub (ws' := [(h, .inr (6, [.ref g1, .ref g2, .int 0, .int 0, .ref g3, .ref g4])), (g1, .inl (E.2.1, 81, .inl u_1)), (g2, .inl (E.2.1, 8, .inl fp)), (g3, .inl (E.2.1, 2, .inl fs)), (g4, .inl (E.2.1, 2, .inl fl))]) [3, 4, 0, 1, 2] (by decide) rfl
    exact W.iret (v := 0) hx hb hr (fun tt ht hW => ⟨⟨_, (u_1, fp, fs, fl, 0, 0), rfl, ⟨trivial, kk_3⟩, by rw [ht]; exact hP9, hD9⟩, hS.F ht⟩) hS.2.2 dX5_moveSite_26

def v_s_doAct : List Cond := .code yX5_doAct cX5_doAct 6 (some .int) :: ([.fieldLink RX5 11 "HushWatch$State" "row" "[I", .methodLink RX5 137 yX5_moveSite, .instanceMethod yX5_moveSite, .selects RX5 yX5_moveSite yX5_moveSite, .initialized RX5, .methodLink RX5 140 yX5_hearByHand, .instanceMethod yX5_hearByHand, .selects RX5 yX5_hearByHand yX5_hearByHand, .methodLink RX5 143 yX5_addTo, .instanceMethod yX5_addTo, .selects RX5 yX5_addTo yX5_addTo, .methodLink RX5 146 yX5_startCounts, .instanceMethod yX5_startCounts, .selects RX5 yX5_startCounts yX5_startCounts] ++ (v_s_moveSite ++ (v_s_hearByHand ++ (wsX50 ++ (v_s_addTo ++ (v_s_startCounts ++ ([])))))))
theorem gw_s_doAct : v_s_doAct.all goodWord = true := by decide +kernel
theorem i_s_doAct_X5 : ∀ w ∈ wsX50, w ∈ v_s_doAct := fun _ h => List.mem_cons_of_mem _ (List.mem_append_right _ (List.mem_append_right _ (List.mem_append_right _ (List.mem_append_left _ h))))
theorem g_s_doAct_s_moveSite_137 : GoodIn v_s_doAct (wsV RX5 137 RX5 yX5_moveSite v_s_moveSite) := goodIn_app (goodIn_of _ (by decide +kernel)) (goodIn_sub (fun _ h => List.mem_cons_of_mem _ (List.mem_append_right _ (List.mem_append_left _ h))) gw_s_moveSite)
theorem g_s_doAct_s_hearByHand_140 : GoodIn v_s_doAct (wsV RX5 140 RX5 yX5_hearByHand v_s_hearByHand) := goodIn_app (goodIn_of _ (by decide +kernel)) (goodIn_sub (fun _ h => List.mem_cons_of_mem _ (List.mem_append_right _ (List.mem_append_right _ (List.mem_append_left _ h)))) gw_s_hearByHand)
theorem g_s_doAct_s_addTo_143 : GoodIn v_s_doAct (wsV RX5 143 RX5 yX5_addTo v_s_addTo) := goodIn_app (goodIn_of _ (by decide +kernel)) (goodIn_sub (fun _ h => List.mem_cons_of_mem _ (List.mem_append_right _ (List.mem_append_right _ (List.mem_append_right _ (List.mem_append_right _ (List.mem_append_left _ h)))))) gw_s_addTo)
theorem g_s_doAct_s_startCounts_146 : GoodIn v_s_doAct (wsV RX5 146 RX5 yX5_startCounts v_s_startCounts) := goodIn_app (goodIn_of _ (by decide +kernel)) (goodIn_sub (fun _ h => List.mem_cons_of_mem _ (List.mem_append_right _ (List.mem_append_right _ (List.mem_append_right _ (List.mem_append_right _ (List.mem_append_right _ (List.mem_append_left _ h))))))) gw_s_startCounts)
set_option maxHeartbeats 4000000 in
set_option maxRecDepth 100000 in
theorem s_doAct (l : Launch) (E : EE) (sz : Nat) (h g1 g2 g3 g4 k : Nat) (ka ko : Int32) (f : Nat → Int32) (fp fs fl : Nat → Int32) (p0 p1 p2 p3 : Int32) (hk : f 3 = nI k) (hk8 : k ≤ 8) : Met l yX5_doAct v_s_doAct ({ frames := 4, cells := 0, slots := 0, locals := 99 }) (va_Pc [.ref h, .int p0, .int p1, .int p2, .int p3] (pW E sz [(h, .inr (6, [.ref g1, .ref g2, .int ka, .int ko, .ref g3, .ref g4])), (g1, .inl (E.2.1, 81, .inl f)), (g2, .inl (E.2.1, 8, .inl fp)), (g3, .inl (E.2.1, 2, .inl fs)), (g4, .inl (E.2.1, 2, .inl fl))])) (va_Qi (fun (r : Int32) (u_ : (Nat → Int32) × (Nat → Int32) × (Nat → Int32) × (Nat → Int32) × (Int32) × (Int32)) => (True) ∧ u_.1 3 = nI k) (fun (u_ : (Nat → Int32) × (Nat → Int32) × (Nat → Int32) × (Nat → Int32) × (Int32) × (Int32)) tt => va_P E.1 vwCl [(h, .inr (6, [.ref g1, .ref g2, .int u_.2.2.2.2.1, .int u_.2.2.2.2.2, .ref g3, .ref g4])), (g1, .inl (E.2.1, 81, .inl u_.1)), (g2, .inl (E.2.1, 8, .inl u_.2.1)), (g3, .inl (E.2.1, 2, .inl u_.2.2.1)), (g4, .inl (E.2.1, 2, .inl u_.2.2.2.1))] tt.heap ∧ va_D (va_A [(h, .inr (6, [.ref g1, .ref g2, .int ka, .int ko, .ref g3, .ref g4])), (g1, .inl (E.2.1, 81, .inl f)), (g2, .inl (E.2.1, 8, .inl fp)), (g3, .inl (E.2.1, 2, .inl fs)), (g4, .inl (E.2.1, 2, .inl fl))] sz) [(h, .inr (6, [.ref g1, .ref g2, .int u_.2.2.2.2.1, .int u_.2.2.2.2.2, .ref g3, .ref g4])), (g1, .inl (E.2.1, 81, .inl u_.1)), (g2, .inl (E.2.1, 8, .inl u_.2.1)), (g3, .inl (E.2.1, 2, .inl u_.2.2.1)), (g4, .inl (E.2.1, 2, .inl u_.2.2.2.1))]) (va_A [(h, .inr (6, [.ref g1, .ref g2, .int ka, .int ko, .ref g3, .ref g4])), (g1, .inl (E.2.1, 81, .inl f)), (g2, .inl (E.2.1, 8, .inl fp)), (g3, .inl (E.2.1, 2, .inl fs)), (g4, .inl (E.2.1, 2, .inl fl))] sz)) 0 0 (va_A [(h, .inr (6, [.ref g1, .ref g2, .int ka, .int ko, .ref g3, .ref g4])), (g1, .inl (E.2.1, 81, .inl f)), (g2, .inl (E.2.1, 8, .inl fp)), (g3, .inl (E.2.1, 2, .inl fs)), (g4, .inl (E.2.1, 2, .inl fl))] sz) := by
  refine Met.ofW (cc := cX5_doAct) (maxL := 6) (ret := (some .int)) (by decide) rfl ?_
  intro p e s m args below meth c s₁ B hml hv
  obtain ⟨rfl, hsz, ⟨hK, hN⟩, hP, hD0⟩ := hv
  have hx := B.exec
  have hb := B.bytes
  have hr := B.returns
  have hts := atoms_spec (ws := v_s_doAct) B.pre
  have hown : s.vm.findClass RX5 = some m.cls := findClass_of_methodNamed B.named
  have hlocks := B.notSynchronized
  subst hsz
  have hD := hD0.self (sz := s.heap.size)
  generalize hAe : va_A [(h, .inr (6, [.ref g1, .ref g2, .int ka, .int ko, .ref g3, .ref g4])), (g1, .inl (E.2.1, 81, .inl f)), (g2, .inl (E.2.1, 8, .inl fp)), (g3, .inl (E.2.1, 2, .inl fs)), (g4, .inl (E.2.1, 2, .inl fl))] s.heap.size = A at hD ⊢
  have hA : ∀ q : Nat, s.heap.size ≤ q → A q := fun q h => by rw [← hAe]; exact Or.inr h
  have hS : va_S A s.heap s.heap [] := va_S.rf
  have hP : va_P E.1 vwCl [(h, .inr (6, [.ref g1, .ref g2, .int ka, .int ko, .ref g3, .ref g4])), (g1, .inl (E.2.1, 81, .inl f)), (g2, .inl (E.2.1, 8, .inl fp)), (g3, .inl (E.2.1, 2, .inl fs)), (g4, .inl (E.2.1, 2, .inl fl))] s.heap := hP
  have hl := lv_entry ([.ref h, .int p0, .int p1, .int p2, .int p3]) (n := 6) (Nat.le_of_ble_eq_true rfl)
  rw [lg_entry_eq]
  generalize (lg_sl ([.ref h, .int p0, .int p1, .int p2, .int p3]) ++ List.replicate (6 - (lg_sl ([.ref h, .int p0, .int p1, .int p2, .int p3])).length) Slot.unset).toArray = ls at hl ⊢
  have hl : lv_has ls 6 [(0, .ref h), (1, .int p0), (2, .int p1), (3, .int p2), (4, .int p3)] := hl
  obtain ⟨Q, hQ⟩ : ∃ Q : State → Prop, Q = MQ below (va_Qi (fun (r : Int32) (u_ : (Nat → Int32) × (Nat → Int32) × (Nat → Int32) × (Nat → Int32) × (Int32) × (Int32)) => (True) ∧ u_.1 3 = nI k) (fun (u_ : (Nat → Int32) × (Nat → Int32) × (Nat → Int32) × (Nat → Int32) × (Int32) × (Int32)) tt => va_P E.1 vwCl [(h, .inr (6, [.ref g1, .ref g2, .int u_.2.2.2.2.1, .int u_.2.2.2.2.2, .ref g3, .ref g4])), (g1, .inl (E.2.1, 81, .inl u_.1)), (g2, .inl (E.2.1, 8, .inl u_.2.1)), (g3, .inl (E.2.1, 2, .inl u_.2.2.1)), (g4, .inl (E.2.1, 2, .inl u_.2.2.2.1))] tt.heap ∧ va_D A [(h, .inr (6, [.ref g1, .ref g2, .int u_.2.2.2.2.1, .int u_.2.2.2.2.2, .ref g3, .ref g4])), (g1, .inl (E.2.1, 81, .inl u_.1)), (g2, .inl (E.2.1, 8, .inl u_.2.1)), (g3, .inl (E.2.1, 2, .inl u_.2.2.1)), (g4, .inl (E.2.1, 2, .inl u_.2.2.2.1))]) A) #[Value.ref h, Value.int p0, Value.int p1, Value.int p2, Value.int p3] s 0 0 A := ⟨_, rfl⟩
  rw [← hQ]
  change W p l e ({ frames := 4, cells := 0, slots := 0, locals := 99 } : Room) s m #[Value.ref h, Value.int p0, Value.int p1, Value.int p2, Value.int p3] below meth c s.heap [] 0 0 Q (F0 m 0 ls [])
  refine lv_iconst (v := 0) hx hb dX5_doAct_0 (by decide) ?_
  refine lv_istore (lv' := [(5, .int 0), (0, .ref h), (1, .int p0), (2, .int p1), (3, .int p2), (4, .int p3)]) hx hb dX5_doAct_1 hl (by decide) rfl (fun ls hl => ?_)
  refine lv_iload_n hx hb dX5_doAct_3 rfl (lv_at hl 2 rfl) ?_
  have K_39 : ∀ (y_32 : Int32), ∀ (y_33 : Int32), ∀ (y_34 : Int32), ∀ (g_35 : Nat → Int32), ∀ (g_36 : Nat → Int32), ∀ (g_37 : Nat → Int32), ∀ (g_38 : Nat → Int32), ∀ (H : Heap) (locs : List Loc) (ls : Array Slot), g_35 3 = nI k → va_P E.1 vwCl [(h, .inr (6, [.ref g1, .ref g2, .int y_33, .int y_34, .ref g3, .ref g4])), (g1, .inl (E.2.1, 81, .inl g_35)), (g2, .inl (E.2.1, 8, .inl g_36)), (g3, .inl (E.2.1, 2, .inl g_37)), (g4, .inl (E.2.1, 2, .inl g_38))] H → va_D A [(h, .inr (6, [.ref g1, .ref g2, .int y_33, .int y_34, .ref g3, .ref g4])), (g1, .inl (E.2.1, 81, .inl g_35)), (g2, .inl (E.2.1, 8, .inl g_36)), (g3, .inl (E.2.1, 2, .inl g_37)), (g4, .inl (E.2.1, 2, .inl g_38))] → va_S A s.heap H locs → lv_has ls 6 [(0, .ref h), (1, .int p0), (2, .int p1), (3, .int p2), (4, .int p3), (5, .int y_32)] → W p l e ({ frames := 4, cells := 0, slots := 0, locals := 99 } : Room) s m #[Value.ref h, Value.int p0, Value.int p1, Value.int p2, Value.int p3] below meth c H locs 0 0 Q (F0 m 137 ls []) := by
    intro y_32 y_33 y_34 g_35 g_36 g_37 g_38 H locs ls kg_35_3 hP hD hS hl
    refine lv_aload_n hx hb dX5_doAct_137 rfl (lv_at hl 0 rfl) ?_
    refine va_get (D := E.1) (ci := 6) (v := .ref g1) (C := RX5) (T := TX5) (N := 6) hx hb hts i_s_doAct_X5 hown hK hP 0 rfl rfl 0 (by decide) (hts (.fieldLink RX5 11 "HushWatch$State" "row" "[I") (List.mem_of_getElem? (i := 1) rfl)) (fun _ h9 => h9) rfl dX5_doAct_138 ?_
    refine lv_bipush (v := 11) hx hb dX5_doAct_141 (by decide) ?_
    refine lv_dup2_11 hx hb dX5_doAct_143 rfl rfl ?_
    refine va_iald hx hb hK hP 1 0 rfl rfl (vin rfl) dX5_doAct_144 ?_
    refine W.eq (g2 := F0 m 145 ls [.int (g_35 11), .int 11, .ref g1]) rfl ?_
    refine lv_topi (fun z_40 ez_40 => ?_)
    refine lv_iload hx hb dX5_doAct_145 (lv_at hl 5 rfl) ?_
    refine lv_iadd hx hb dX5_doAct_147 ?_
    refine lv_topi (fun z_41 ez_41 => ?_)
    refine va_iast hx hb hK hP hD hS 1 0 rfl rfl (vin rfl) dX5_doAct_148 (fun H locs hP hD hS => ?_)
    have hP : va_P E.1 vwCl [(h, .inr (6, [.ref g1, .ref g2, .int y_33, .int y_34, .ref g3, .ref g4])), (g1, .inl (E.2.1, 81, .inl (upd g_35 (11 : Int32).toNatClampNeg z_41))), (g2, .inl (E.2.1, 8, .inl g_36)), (g3, .inl (E.2.1, 2, .inl g_37)), (g4, .inl (E.2.1, 2, .inl g_38))] H := hP
    have hD : va_D A [(h, .inr (6, [.ref g1, .ref g2, .int y_33, .int y_34, .ref g3, .ref g4])), (g1, .inl (E.2.1, 81, .inl (upd g_35 (11 : Int32).toNatClampNeg z_41))), (g2, .inl (E.2.1, 8, .inl g_36)), (g3, .inl (E.2.1, 2, .inl g_37)), (g4, .inl (E.2.1, 2, .inl g_38))] := hD
    obtain ⟨f_42, hf_42⟩ : ∃ g : Nat → Int32, g = upd g_35 (11 : Int32).toNatClampNeg z_41 := ⟨_, rfl⟩
    rw [← hf_42] at hP hD
    have kf_42_3 : f_42 3 = nI k := by rw [hf_42]; exact (upd_ne (by decide)).trans kg_35_3
    refine lv_iload hx hb dX5_doAct_149 (lv_at hl 5 rfl) ?_
    rw [hQ]
    have hP9 := hP.sub (ws' := [(h, .inr (6, [.ref g1, .ref g2, .int y_33, .int y_34, .ref g3, .ref g4])), (g1, .inl (E.2.1, 81, .inl f_42)), (g2, .inl (E.2.1, 8, .inl g_36)), (g3, .inl (E.2.1, 2, .inl g_37)), (g4, .inl (E.2.1, 2, .inl g_38))]) [0, 1, 2, 3, 4] rfl
    have hD9 := hD.sub (ws' := [(h, .inr (6, [.ref g1, .ref g2, .int y_33, .int y_34, .ref g3, .ref g4])), (g1, .inl (E.2.1, 81, .inl f_42)), (g2, .inl (E.2.1, 8, .inl g_36)), (g3, .inl (E.2.1, 2, .inl g_37)), (g4, .inl (E.2.1, 2, .inl g_38))]) [0, 1, 2, 3, 4] (by decide) rfl
    exact W.iret (v := y_32) hx hb hr (fun tt ht hW => ⟨⟨_, (f_42, g_36, g_37, g_38, y_33, y_34), rfl, ⟨trivial, kf_42_3⟩, by rw [ht]; exact hP9, hD9⟩, hS.F ht⟩) hS.2.2 dX5_doAct_151
  rcases Classical.em (p0 = 0) with c_1_0 | c_1_0
  ·
    refine lv_tableIn (off := 44) (tgt := 48) hx hb dX5_doAct_4 (by rw [c_1_0]; decide) (by rw [c_1_0]; decide) (by rw [c_1_0]; decide) (by decide) ?_
    refine lv_aload_n hx hb dX5_doAct_48 rfl (lv_at hl 1 rfl) ?_
    refine lv_iload_n hx hb dX5_doAct_49 rfl (lv_at hl 3 rfl) ?_
    refine lv_iload_n hx hb dX5_doAct_50 rfl (lv_at hl 4 rfl) ?_
    refine lv_iload hx hb dX5_doAct_51 (lv_at hl 5 rfl) ?_
    have hPc := hP.sub (ws' := [(h, .inr (6, [.ref g1, .ref g2, .int ka, .int ko, .ref g3, .ref g4])), (g1, .inl (E.2.1, 81, .inl f)), (g2, .inl (E.2.1, 8, .inl fp)), (g3, .inl (E.2.1, 2, .inl fs)), (g4, .inl (E.2.1, 2, .inl fl))]) [0, 1, 2, 3, 4] rfl
    have hDc := hD.sub (ws' := [(h, .inr (6, [.ref g1, .ref g2, .int ka, .int ko, .ref g3, .ref g4])), (g1, .inl (E.2.1, 81, .inl f)), (g2, .inl (E.2.1, 8, .inl fp)), (g3, .inl (E.2.1, 2, .inl fs)), (g4, .inl (E.2.1, 2, .inl fl))]) [0, 1, 2, 3, 4] (by decide) rfl
    have hFc := va_free (wc := [(h, .inr (6, [.ref g1, .ref g2, .int ka, .int ko, .ref g3, .ref g4])), (g1, .inl (E.2.1, 81, .inl f)), (g2, .inl (E.2.1, 8, .inl fp)), (g3, .inl (E.2.1, 2, .inl fs)), (g4, .inl (E.2.1, 2, .inl fl))]) hD hS hA [0, 1, 2, 3, 4] rfl
    refine va_calli (va_runV (As := [.int p1, .int p2, .int p3]) (rest := []) ⟨hx, hb, hml, hown, hts⟩ (s_moveSite l E s.heap.size h g1 g2 g3 g4 k ka ko f fp fs fl p1 p2 p3 hk (by omega)) (cwV 3 hts g_s_doAct_s_moveSite_137 rfl rfl rfl (by decide +kernel) ⟨Nat.le_of_ble_eq_true rfl, Nat.le_of_ble_eq_true rfl⟩) ⟨pW.blind, va_recv hK hPc (ci := 6) (q0 := 0) rfl rfl, (pW.pre ⟨hK, hN⟩ hPc hDc)⟩ rfl rfl hl.1 rfl (lv_room (Nat.le_of_ble_eq_true rfl)) dX5_doAct_53 ⟨Nat.le_of_ble_eq_true rfl, Nat.le_of_ble_eq_true rfl⟩) hS (fun q _ h => hFc q h) hFc (fun r_43 u_44 tt H1 locs ht hvm hw hB hz1 hk1 hS => ?_)
    obtain ⟨q_45, q_46, q_47, q_48, q_49, q_50⟩ := u_44
    obtain ⟨hP1, hD1⟩ := hB
    rw [ht] at hP1
    obtain ⟨hP, hD⟩ := va_join (wr := []) (w1 := [(h, .inr (6, [.ref g1, .ref g2, .int q_49, .int q_50, .ref g3, .ref g4])), (g1, .inl (E.2.1, 81, .inl q_45)), (g2, .inl (E.2.1, 8, .inl q_46)), (g3, .inl (E.2.1, 2, .inl q_47)), (g4, .inl (E.2.1, 2, .inl q_48))]) hP hD [0, 1, 2, 3, 4] [] rfl rfl (by decide) (by decide) hk1 hFc hP1 hD1
    generalize H1 = H at hP hS ⊢
    have hP : va_P E.1 vwCl [(h, .inr (6, [.ref g1, .ref g2, .int q_49, .int q_50, .ref g3, .ref g4])), (g1, .inl (E.2.1, 81, .inl q_45)), (g2, .inl (E.2.1, 8, .inl q_46)), (g3, .inl (E.2.1, 2, .inl q_47)), (g4, .inl (E.2.1, 2, .inl q_48))] H := hP
    have hD : va_D A [(h, .inr (6, [.ref g1, .ref g2, .int q_49, .int q_50, .ref g3, .ref g4])), (g1, .inl (E.2.1, 81, .inl q_45)), (g2, .inl (E.2.1, 8, .inl q_46)), (g3, .inl (E.2.1, 2, .inl q_47)), (g4, .inl (E.2.1, 2, .inl q_48))] := hD
    obtain ⟨hr_43, hsr_43⟩ := hw
    have kk_51 := hsr_43
    refine lv_istore (lv' := [(5, .int r_43), (0, .ref h), (1, .int p0), (2, .int p1), (3, .int p2), (4, .int p3)]) hx hb dX5_doAct_56 hl (by decide) rfl (fun ls hl => ?_)
    refine lv_goto (tgt := 137) hx hb dX5_doAct_58 (by decide) ?_
    exact K_39 r_43 q_49 q_50 q_45 q_46 q_47 q_48 H locs ls kk_51 (hP.sub [0, 1, 2, 3, 4] rfl) (hD.sub [0, 1, 2, 3, 4] (by decide) rfl) hS (lv_sub hl [1, 2, 3, 4, 5, 0] rfl)
  rcases Classical.em (p0 = 1) with c_1_1 | c_1_1
  ·
    refine lv_tableIn (off := 57) (tgt := 61) hx hb dX5_doAct_4 (by rw [c_1_1]; decide) (by rw [c_1_1]; decide) (by rw [c_1_1]; decide) (by decide) ?_
    refine lv_aload_n hx hb dX5_doAct_61 rfl (lv_at hl 1 rfl) ?_
    have hPc := hP.sub (ws' := [(h, .inr (6, [.ref g1, .ref g2, .int ka, .int ko, .ref g3, .ref g4])), (g1, .inl (E.2.1, 81, .inl f))]) [0, 1] rfl
    have hDc := hD.sub (ws' := [(h, .inr (6, [.ref g1, .ref g2, .int ka, .int ko, .ref g3, .ref g4])), (g1, .inl (E.2.1, 81, .inl f))]) [0, 1] (by decide) rfl
    have hFc := va_free (wc := [(h, .inr (6, [.ref g1, .ref g2, .int ka, .int ko, .ref g3, .ref g4])), (g1, .inl (E.2.1, 81, .inl f))]) hD hS hA [0, 1] rfl
    refine va_calli (va_runV (As := []) (rest := []) ⟨hx, hb, hml, hown, hts⟩ (s_hearByHand l E s.heap.size h g1 g2 g3 g4 k ka ko f hk (by omega)) (cwV 0 hts g_s_doAct_s_hearByHand_140 rfl rfl rfl (by decide +kernel) ⟨Nat.le_of_ble_eq_true rfl, Nat.le_of_ble_eq_true rfl⟩) ⟨pW.blind, va_recv hK hPc (ci := 6) (q0 := 0) rfl rfl, (pW.pre ⟨hK, hN⟩ hPc hDc)⟩ rfl rfl hl.1 rfl (lv_room (Nat.le_of_ble_eq_true rfl)) dX5_doAct_62 ⟨Nat.le_of_ble_eq_true rfl, Nat.le_of_ble_eq_true rfl⟩) hS (fun q _ h => hFc q h) hFc (fun r_52 u_53 tt H1 locs ht hvm hw hB hz1 hk1 hS => ?_)
    obtain ⟨hP1, hD1⟩ := hB
    rw [ht] at hP1
    obtain ⟨hP, hD⟩ := va_join (wr := [(g2, .inl (E.2.1, 8, .inl fp)), (g3, .inl (E.2.1, 2, .inl fs)), (g4, .inl (E.2.1, 2, .inl fl))]) (w1 := [(h, .inr (6, [.ref g1, .ref g2, .int ka, .int ko, .ref g3, .ref g4])), (g1, .inl (E.2.1, 81, .inl u_53))]) hP hD [0, 1] [2, 3, 4] rfl rfl (by decide) (by decide) hk1 hFc hP1 hD1
    generalize H1 = H at hP hS ⊢
    have hP : va_P E.1 vwCl [(g2, .inl (E.2.1, 8, .inl fp)), (g3, .inl (E.2.1, 2, .inl fs)), (g4, .inl (E.2.1, 2, .inl fl)), (h, .inr (6, [.ref g1, .ref g2, .int ka, .int ko, .ref g3, .ref g4])), (g1, .inl (E.2.1, 81, .inl u_53))] H := hP
    have hD : va_D A [(g2, .inl (E.2.1, 8, .inl fp)), (g3, .inl (E.2.1, 2, .inl fs)), (g4, .inl (E.2.1, 2, .inl fl)), (h, .inr (6, [.ref g1, .ref g2, .int ka, .int ko, .ref g3, .ref g4])), (g1, .inl (E.2.1, 81, .inl u_53))] := hD
    obtain ⟨hr_52, hsr_52⟩ := hw
    have kk_54 := hsr_52
    refine lv_istore (lv' := [(5, .int r_52), (0, .ref h), (1, .int p0), (2, .int p1), (3, .int p2), (4, .int p3)]) hx hb dX5_doAct_65 hl (by decide) rfl (fun ls hl => ?_)
    refine lv_goto (tgt := 137) hx hb dX5_doAct_67 (by decide) ?_
    exact K_39 r_52 ka ko u_53 fp fs fl H locs ls kk_54 (hP.sub [3, 4, 0, 1, 2] rfl) (hD.sub [3, 4, 0, 1, 2] (by decide) rfl) hS (lv_sub hl [1, 2, 3, 4, 5, 0] rfl)
  rcases Classical.em (p0 = 2) with c_1_2 | c_1_2
  ·
    refine lv_tableIn (off := 66) (tgt := 70) hx hb dX5_doAct_4 (by rw [c_1_2]; decide) (by rw [c_1_2]; decide) (by rw [c_1_2]; decide) (by decide) ?_
    refine lv_aload_n hx hb dX5_doAct_70 rfl (lv_at hl 1 rfl) ?_
    refine va_get (D := E.1) (ci := 6) (v := .ref g1) (C := RX5) (T := TX5) (N := 6) hx hb hts i_s_doAct_X5 hown hK hP 0 rfl rfl 0 (by decide) (hts (.fieldLink RX5 11 "HushWatch$State" "row" "[I") (List.mem_of_getElem? (i := 1) rfl)) (fun _ h9 => h9) rfl dX5_doAct_71 ?_
    refine lv_iconst (v := 1) hx hb dX5_doAct_74 (by decide) ?_
    refine lv_iload_n hx hb dX5_doAct_75 rfl (lv_at hl 3 rfl) ?_
    refine va_iast hx hb hK hP hD hS 1 0 rfl rfl (vin rfl) dX5_doAct_76 (fun H locs hP hD hS => ?_)
    have hP : va_P E.1 vwCl [(h, .inr (6, [.ref g1, .ref g2, .int ka, .int ko, .ref g3, .ref g4])), (g1, .inl (E.2.1, 81, .inl (upd f (1 : Int32).toNatClampNeg p1))), (g2, .inl (E.2.1, 8, .inl fp)), (g3, .inl (E.2.1, 2, .inl fs)), (g4, .inl (E.2.1, 2, .inl fl))] H := hP
    have hD : va_D A [(h, .inr (6, [.ref g1, .ref g2, .int ka, .int ko, .ref g3, .ref g4])), (g1, .inl (E.2.1, 81, .inl (upd f (1 : Int32).toNatClampNeg p1))), (g2, .inl (E.2.1, 8, .inl fp)), (g3, .inl (E.2.1, 2, .inl fs)), (g4, .inl (E.2.1, 2, .inl fl))] := hD
    obtain ⟨f_55, hf_55⟩ : ∃ g : Nat → Int32, g = upd f (1 : Int32).toNatClampNeg p1 := ⟨_, rfl⟩
    rw [← hf_55] at hP hD
    have kf_55_3 : f_55 3 = nI k := by rw [hf_55]; exact (upd_ne (by decide)).trans hk
    refine lv_aload_n hx hb dX5_doAct_77 rfl (lv_at hl 1 rfl) ?_
    have hPc := hP.sub (ws' := [(h, .inr (6, [.ref g1, .ref g2, .int ka, .int ko, .ref g3, .ref g4])), (g1, .inl (E.2.1, 81, .inl f_55))]) [0, 1] rfl
    have hDc := hD.sub (ws' := [(h, .inr (6, [.ref g1, .ref g2, .int ka, .int ko, .ref g3, .ref g4])), (g1, .inl (E.2.1, 81, .inl f_55))]) [0, 1] (by decide) rfl
    have hFc := va_free (wc := [(h, .inr (6, [.ref g1, .ref g2, .int ka, .int ko, .ref g3, .ref g4])), (g1, .inl (E.2.1, 81, .inl f_55))]) hD hS hA [0, 1] rfl
    refine va_calli (va_runV (As := []) (rest := []) ⟨hx, hb, hml, hown, hts⟩ (s_hearByHand l E H.size h g1 g2 g3 g4 k ka ko f_55 kf_55_3 (by omega)) (cwV 0 hts g_s_doAct_s_hearByHand_140 rfl rfl rfl (by decide +kernel) ⟨Nat.le_of_ble_eq_true rfl, Nat.le_of_ble_eq_true rfl⟩) ⟨pW.blind, va_recv hK hPc (ci := 6) (q0 := 0) rfl rfl, (pW.pre ⟨hK, hN⟩ hPc hDc)⟩ rfl rfl hl.1 rfl (lv_room (Nat.le_of_ble_eq_true rfl)) dX5_doAct_78 ⟨Nat.le_of_ble_eq_true rfl, Nat.le_of_ble_eq_true rfl⟩) hS (fun q _ h => hFc q h) hFc (fun r_56 u_57 tt H1 locs ht hvm hw hB hz1 hk1 hS => ?_)
    obtain ⟨hP1, hD1⟩ := hB
    rw [ht] at hP1
    obtain ⟨hP, hD⟩ := va_join (wr := [(g2, .inl (E.2.1, 8, .inl fp)), (g3, .inl (E.2.1, 2, .inl fs)), (g4, .inl (E.2.1, 2, .inl fl))]) (w1 := [(h, .inr (6, [.ref g1, .ref g2, .int ka, .int ko, .ref g3, .ref g4])), (g1, .inl (E.2.1, 81, .inl u_57))]) hP hD [0, 1] [2, 3, 4] rfl rfl (by decide) (by decide) hk1 hFc hP1 hD1
    generalize H1 = H at hP hS ⊢
    have hP : va_P E.1 vwCl [(g2, .inl (E.2.1, 8, .inl fp)), (g3, .inl (E.2.1, 2, .inl fs)), (g4, .inl (E.2.1, 2, .inl fl)), (h, .inr (6, [.ref g1, .ref g2, .int ka, .int ko, .ref g3, .ref g4])), (g1, .inl (E.2.1, 81, .inl u_57))] H := hP
    have hD : va_D A [(g2, .inl (E.2.1, 8, .inl fp)), (g3, .inl (E.2.1, 2, .inl fs)), (g4, .inl (E.2.1, 2, .inl fl)), (h, .inr (6, [.ref g1, .ref g2, .int ka, .int ko, .ref g3, .ref g4])), (g1, .inl (E.2.1, 81, .inl u_57))] := hD
    obtain ⟨hr_56, hsr_56⟩ := hw
    have kk_58 := hsr_56
    refine lv_istore (lv' := [(5, .int r_56), (0, .ref h), (1, .int p0), (2, .int p1), (3, .int p2), (4, .int p3)]) hx hb dX5_doAct_81 hl (by decide) rfl (fun ls hl => ?_)
    refine lv_goto (tgt := 137) hx hb dX5_doAct_83 (by decide) ?_
    exact K_39 r_56 ka ko u_57 fp fs fl H locs ls kk_58 (hP.sub [3, 4, 0, 1, 2] rfl) (hD.sub [3, 4, 0, 1, 2] (by decide) rfl) hS (lv_sub hl [1, 2, 3, 4, 5, 0] rfl)
  rcases Classical.em (p0 = 3) with c_1_3 | c_1_3
  ·
    refine lv_tableIn (off := 82) (tgt := 86) hx hb dX5_doAct_4 (by rw [c_1_3]; decide) (by rw [c_1_3]; decide) (by rw [c_1_3]; decide) (by decide) ?_
    refine lv_aload_n hx hb dX5_doAct_86 rfl (lv_at hl 1 rfl) ?_
    refine va_get (D := E.1) (ci := 6) (v := .ref g1) (C := RX5) (T := TX5) (N := 6) hx hb hts i_s_doAct_X5 hown hK hP 0 rfl rfl 0 (by decide) (hts (.fieldLink RX5 11 "HushWatch$State" "row" "[I") (List.mem_of_getElem? (i := 1) rfl)) (fun _ h9 => h9) rfl dX5_doAct_87 ?_
    refine lv_iconst (v := 0) hx hb dX5_doAct_90 (by decide) ?_
    refine lv_iload_n hx hb dX5_doAct_91 rfl (lv_at hl 3 rfl) ?_
    refine va_iast hx hb hK hP hD hS 1 0 rfl rfl (vin rfl) dX5_doAct_92 (fun H locs hP hD hS => ?_)
    have hP : va_P E.1 vwCl [(h, .inr (6, [.ref g1, .ref g2, .int ka, .int ko, .ref g3, .ref g4])), (g1, .inl (E.2.1, 81, .inl (upd f (0 : Int32).toNatClampNeg p1))), (g2, .inl (E.2.1, 8, .inl fp)), (g3, .inl (E.2.1, 2, .inl fs)), (g4, .inl (E.2.1, 2, .inl fl))] H := hP
    have hD : va_D A [(h, .inr (6, [.ref g1, .ref g2, .int ka, .int ko, .ref g3, .ref g4])), (g1, .inl (E.2.1, 81, .inl (upd f (0 : Int32).toNatClampNeg p1))), (g2, .inl (E.2.1, 8, .inl fp)), (g3, .inl (E.2.1, 2, .inl fs)), (g4, .inl (E.2.1, 2, .inl fl))] := hD
    obtain ⟨f_59, hf_59⟩ : ∃ g : Nat → Int32, g = upd f (0 : Int32).toNatClampNeg p1 := ⟨_, rfl⟩
    rw [← hf_59] at hP hD
    have kf_59_3 : f_59 3 = nI k := by rw [hf_59]; exact (upd_ne (by decide)).trans hk
    refine lv_aload_n hx hb dX5_doAct_93 rfl (lv_at hl 1 rfl) ?_
    have hPc := hP.sub (ws' := [(h, .inr (6, [.ref g1, .ref g2, .int ka, .int ko, .ref g3, .ref g4])), (g1, .inl (E.2.1, 81, .inl f_59))]) [0, 1] rfl
    have hDc := hD.sub (ws' := [(h, .inr (6, [.ref g1, .ref g2, .int ka, .int ko, .ref g3, .ref g4])), (g1, .inl (E.2.1, 81, .inl f_59))]) [0, 1] (by decide) rfl
    have hFc := va_free (wc := [(h, .inr (6, [.ref g1, .ref g2, .int ka, .int ko, .ref g3, .ref g4])), (g1, .inl (E.2.1, 81, .inl f_59))]) hD hS hA [0, 1] rfl
    refine va_calli (va_runV (As := []) (rest := []) ⟨hx, hb, hml, hown, hts⟩ (s_hearByHand l E H.size h g1 g2 g3 g4 k ka ko f_59 kf_59_3 (by omega)) (cwV 0 hts g_s_doAct_s_hearByHand_140 rfl rfl rfl (by decide +kernel) ⟨Nat.le_of_ble_eq_true rfl, Nat.le_of_ble_eq_true rfl⟩) ⟨pW.blind, va_recv hK hPc (ci := 6) (q0 := 0) rfl rfl, (pW.pre ⟨hK, hN⟩ hPc hDc)⟩ rfl rfl hl.1 rfl (lv_room (Nat.le_of_ble_eq_true rfl)) dX5_doAct_94 ⟨Nat.le_of_ble_eq_true rfl, Nat.le_of_ble_eq_true rfl⟩) hS (fun q _ h => hFc q h) hFc (fun r_60 u_61 tt H1 locs ht hvm hw hB hz1 hk1 hS => ?_)
    obtain ⟨hP1, hD1⟩ := hB
    rw [ht] at hP1
    obtain ⟨hP, hD⟩ := va_join (wr := [(g2, .inl (E.2.1, 8, .inl fp)), (g3, .inl (E.2.1, 2, .inl fs)), (g4, .inl (E.2.1, 2, .inl fl))]) (w1 := [(h, .inr (6, [.ref g1, .ref g2, .int ka, .int ko, .ref g3, .ref g4])), (g1, .inl (E.2.1, 81, .inl u_61))]) hP hD [0, 1] [2, 3, 4] rfl rfl (by decide) (by decide) hk1 hFc hP1 hD1
    generalize H1 = H at hP hS ⊢
    have hP : va_P E.1 vwCl [(g2, .inl (E.2.1, 8, .inl fp)), (g3, .inl (E.2.1, 2, .inl fs)), (g4, .inl (E.2.1, 2, .inl fl)), (h, .inr (6, [.ref g1, .ref g2, .int ka, .int ko, .ref g3, .ref g4])), (g1, .inl (E.2.1, 81, .inl u_61))] H := hP
    have hD : va_D A [(g2, .inl (E.2.1, 8, .inl fp)), (g3, .inl (E.2.1, 2, .inl fs)), (g4, .inl (E.2.1, 2, .inl fl)), (h, .inr (6, [.ref g1, .ref g2, .int ka, .int ko, .ref g3, .ref g4])), (g1, .inl (E.2.1, 81, .inl u_61))] := hD
    obtain ⟨hr_60, hsr_60⟩ := hw
    have kk_62 := hsr_60
    refine lv_istore (lv' := [(5, .int r_60), (0, .ref h), (1, .int p0), (2, .int p1), (3, .int p2), (4, .int p3)]) hx hb dX5_doAct_97 hl (by decide) rfl (fun ls hl => ?_)
    refine lv_goto (tgt := 137) hx hb dX5_doAct_99 (by decide) ?_
    exact K_39 r_60 ka ko u_61 fp fs fl H locs ls kk_62 (hP.sub [3, 4, 0, 1, 2] rfl) (hD.sub [3, 4, 0, 1, 2] (by decide) rfl) hS (lv_sub hl [1, 2, 3, 4, 5, 0] rfl)
  rcases Classical.em (p0 = 4) with c_1_4 | c_1_4
  ·
    refine lv_tableIn (off := 98) (tgt := 102) hx hb dX5_doAct_4 (by rw [c_1_4]; decide) (by rw [c_1_4]; decide) (by rw [c_1_4]; decide) (by decide) ?_
    refine lv_aload_n hx hb dX5_doAct_102 rfl (lv_at hl 1 rfl) ?_
    refine lv_iload_n hx hb dX5_doAct_103 rfl (lv_at hl 3 rfl) ?_
    refine lv_iload_n hx hb dX5_doAct_104 rfl (lv_at hl 4 rfl) ?_
    have hPc := hP.sub (ws' := [(h, .inr (6, [.ref g1, .ref g2, .int ka, .int ko, .ref g3, .ref g4])), (g1, .inl (E.2.1, 81, .inl f))]) [0, 1] rfl
    have hDc := hD.sub (ws' := [(h, .inr (6, [.ref g1, .ref g2, .int ka, .int ko, .ref g3, .ref g4])), (g1, .inl (E.2.1, 81, .inl f))]) [0, 1] (by decide) rfl
    have hFc := va_free (wc := [(h, .inr (6, [.ref g1, .ref g2, .int ka, .int ko, .ref g3, .ref g4])), (g1, .inl (E.2.1, 81, .inl f))]) hD hS hA [0, 1] rfl
    refine va_calli (va_runV (As := [.int p1, .int p2]) (rest := []) ⟨hx, hb, hml, hown, hts⟩ (s_addTo l E s.heap.size h g1 g2 g3 g4 k ka ko f p1 p2 hk (by omega)) (cwV 2 hts g_s_doAct_s_addTo_143 rfl rfl rfl (by decide +kernel) ⟨Nat.le_of_ble_eq_true rfl, Nat.le_of_ble_eq_true rfl⟩) ⟨pW.blind, va_recv hK hPc (ci := 6) (q0 := 0) rfl rfl, (pW.pre ⟨hK, hN⟩ hPc hDc)⟩ rfl rfl hl.1 rfl (lv_room (Nat.le_of_ble_eq_true rfl)) dX5_doAct_105 ⟨Nat.le_of_ble_eq_true rfl, Nat.le_of_ble_eq_true rfl⟩) hS (fun q _ h => hFc q h) hFc (fun r_63 u_64 tt H1 locs ht hvm hw hB hz1 hk1 hS => ?_)
    obtain ⟨hP1, hD1⟩ := hB
    rw [ht] at hP1
    obtain ⟨hP, hD⟩ := va_join (wr := [(g2, .inl (E.2.1, 8, .inl fp)), (g3, .inl (E.2.1, 2, .inl fs)), (g4, .inl (E.2.1, 2, .inl fl))]) (w1 := [(h, .inr (6, [.ref g1, .ref g2, .int ka, .int ko, .ref g3, .ref g4])), (g1, .inl (E.2.1, 81, .inl u_64))]) hP hD [0, 1] [2, 3, 4] rfl rfl (by decide) (by decide) hk1 hFc hP1 hD1
    generalize H1 = H at hP hS ⊢
    have hP : va_P E.1 vwCl [(g2, .inl (E.2.1, 8, .inl fp)), (g3, .inl (E.2.1, 2, .inl fs)), (g4, .inl (E.2.1, 2, .inl fl)), (h, .inr (6, [.ref g1, .ref g2, .int ka, .int ko, .ref g3, .ref g4])), (g1, .inl (E.2.1, 81, .inl u_64))] H := hP
    have hD : va_D A [(g2, .inl (E.2.1, 8, .inl fp)), (g3, .inl (E.2.1, 2, .inl fs)), (g4, .inl (E.2.1, 2, .inl fl)), (h, .inr (6, [.ref g1, .ref g2, .int ka, .int ko, .ref g3, .ref g4])), (g1, .inl (E.2.1, 81, .inl u_64))] := hD
    obtain ⟨hr_63, hsr_63⟩ := hw
    have kk_65 := hsr_63
    refine lv_istore (lv' := [(5, .int r_63), (0, .ref h), (1, .int p0), (2, .int p1), (3, .int p2), (4, .int p3)]) hx hb dX5_doAct_108 hl (by decide) rfl (fun ls hl => ?_)
    refine lv_goto (tgt := 137) hx hb dX5_doAct_110 (by decide) ?_
    exact K_39 r_63 ka ko u_64 fp fs fl H locs ls kk_65 (hP.sub [3, 4, 0, 1, 2] rfl) (hD.sub [3, 4, 0, 1, 2] (by decide) rfl) hS (lv_sub hl [1, 2, 3, 4, 5, 0] rfl)
  rcases Classical.em (p0 = 5) with c_1_5 | c_1_5
  ·
    refine lv_tableIn (off := 109) (tgt := 113) hx hb dX5_doAct_4 (by rw [c_1_5]; decide) (by rw [c_1_5]; decide) (by rw [c_1_5]; decide) (by decide) ?_
    refine lv_aload_n hx hb dX5_doAct_113 rfl (lv_at hl 1 rfl) ?_
    refine lv_iload_n hx hb dX5_doAct_114 rfl (lv_at hl 3 rfl) ?_
    have hPc := hP.sub (ws' := [(h, .inr (6, [.ref g1, .ref g2, .int ka, .int ko, .ref g3, .ref g4])), (g1, .inl (E.2.1, 81, .inl f))]) [0, 1] rfl
    have hDc := hD.sub (ws' := [(h, .inr (6, [.ref g1, .ref g2, .int ka, .int ko, .ref g3, .ref g4])), (g1, .inl (E.2.1, 81, .inl f))]) [0, 1] (by decide) rfl
    have hFc := va_free (wc := [(h, .inr (6, [.ref g1, .ref g2, .int ka, .int ko, .ref g3, .ref g4])), (g1, .inl (E.2.1, 81, .inl f))]) hD hS hA [0, 1] rfl
    refine va_callv (va_runV (As := [.int p1]) (rest := []) ⟨hx, hb, hml, hown, hts⟩ (s_startCounts l E s.heap.size h g1 g2 g3 g4 k ka ko f p1 hk (by omega)) (cwV 1 hts g_s_doAct_s_startCounts_146 rfl rfl rfl (by decide +kernel) ⟨Nat.le_of_ble_eq_true rfl, Nat.le_of_ble_eq_true rfl⟩) ⟨pW.blind, va_recv hK hPc (ci := 6) (q0 := 0) rfl rfl, (pW.pre ⟨hK, hN⟩ hPc hDc)⟩ rfl rfl hl.1 rfl (lv_room (Nat.le_of_ble_eq_true rfl)) dX5_doAct_115 ⟨Nat.le_of_ble_eq_true rfl, Nat.le_of_ble_eq_true rfl⟩) hS (fun q _ h => hFc q h) hFc (fun  u_66 tt H1 locs ht hvm hw hB hz1 hk1 hS => ?_)
    obtain ⟨hP1, hD1⟩ := hB
    rw [ht] at hP1
    obtain ⟨hP, hD⟩ := va_join (wr := [(g2, .inl (E.2.1, 8, .inl fp)), (g3, .inl (E.2.1, 2, .inl fs)), (g4, .inl (E.2.1, 2, .inl fl))]) (w1 := [(h, .inr (6, [.ref g1, .ref g2, .int ka, .int ko, .ref g3, .ref g4])), (g1, .inl (E.2.1, 81, .inl u_66))]) hP hD [0, 1] [2, 3, 4] rfl rfl (by decide) (by decide) hk1 hFc hP1 hD1
    generalize H1 = H at hP hS ⊢
    have hP : va_P E.1 vwCl [(g2, .inl (E.2.1, 8, .inl fp)), (g3, .inl (E.2.1, 2, .inl fs)), (g4, .inl (E.2.1, 2, .inl fl)), (h, .inr (6, [.ref g1, .ref g2, .int ka, .int ko, .ref g3, .ref g4])), (g1, .inl (E.2.1, 81, .inl u_66))] H := hP
    have hD : va_D A [(g2, .inl (E.2.1, 8, .inl fp)), (g3, .inl (E.2.1, 2, .inl fs)), (g4, .inl (E.2.1, 2, .inl fl)), (h, .inr (6, [.ref g1, .ref g2, .int ka, .int ko, .ref g3, .ref g4])), (g1, .inl (E.2.1, 81, .inl u_66))] := hD
    have hsw_67 := hw
    have kk_68 := hsw_67
    refine lv_goto (tgt := 137) hx hb dX5_doAct_118 (by decide) ?_
    exact K_39 0 ka ko u_66 fp fs fl H locs ls kk_68 (hP.sub [3, 4, 0, 1, 2] rfl) (hD.sub [3, 4, 0, 1, 2] (by decide) rfl) hS (lv_sub hl [1, 2, 3, 4, 5, 0] rfl)
  rcases Classical.em (p0 = 6) with c_1_6 | c_1_6
  ·
    refine lv_tableIn (off := 117) (tgt := 121) hx hb dX5_doAct_4 (by rw [c_1_6]; decide) (by rw [c_1_6]; decide) (by rw [c_1_6]; decide) (by decide) ?_
    refine lv_aload_n hx hb dX5_doAct_121 rfl (lv_at hl 1 rfl) ?_
    refine va_get (D := E.1) (ci := 6) (v := .ref g1) (C := RX5) (T := TX5) (N := 6) hx hb hts i_s_doAct_X5 hown hK hP 0 rfl rfl 0 (by decide) (hts (.fieldLink RX5 11 "HushWatch$State" "row" "[I") (List.mem_of_getElem? (i := 1) rfl)) (fun _ h9 => h9) rfl dX5_doAct_122 ?_
    refine lv_bipush (v := 7) hx hb dX5_doAct_125 (by decide) ?_
    refine lv_dup2_11 hx hb dX5_doAct_127 rfl rfl ?_
    refine va_iald hx hb hK hP 1 0 rfl rfl (vin rfl) dX5_doAct_128 ?_
    refine W.eq (g2 := F0 m 129 ls [.int (f 7), .int 7, .ref g1]) rfl ?_
    refine lv_topi (fun z_69 ez_69 => ?_)
    refine lv_iconst (v := 1) hx hb dX5_doAct_129 (by decide) ?_
    refine lv_iload_n hx hb dX5_doAct_130 rfl (lv_at hl 3 rfl) ?_
    refine lv_ishl hx hb dX5_doAct_131 ?_
    refine lv_topi (fun z_70 ez_70 => ?_)
    refine lv_ixor hx hb dX5_doAct_132 ?_
    refine lv_topi (fun z_71 ez_71 => ?_)
    refine va_iast hx hb hK hP hD hS 1 0 rfl rfl (vin rfl) dX5_doAct_133 (fun H locs hP hD hS => ?_)
    have hP : va_P E.1 vwCl [(h, .inr (6, [.ref g1, .ref g2, .int ka, .int ko, .ref g3, .ref g4])), (g1, .inl (E.2.1, 81, .inl (upd f (7 : Int32).toNatClampNeg z_71))), (g2, .inl (E.2.1, 8, .inl fp)), (g3, .inl (E.2.1, 2, .inl fs)), (g4, .inl (E.2.1, 2, .inl fl))] H := hP
    have hD : va_D A [(h, .inr (6, [.ref g1, .ref g2, .int ka, .int ko, .ref g3, .ref g4])), (g1, .inl (E.2.1, 81, .inl (upd f (7 : Int32).toNatClampNeg z_71))), (g2, .inl (E.2.1, 8, .inl fp)), (g3, .inl (E.2.1, 2, .inl fs)), (g4, .inl (E.2.1, 2, .inl fl))] := hD
    obtain ⟨f_72, hf_72⟩ : ∃ g : Nat → Int32, g = upd f (7 : Int32).toNatClampNeg z_71 := ⟨_, rfl⟩
    rw [← hf_72] at hP hD
    have kf_72_3 : f_72 3 = nI k := by rw [hf_72]; exact (upd_ne (by decide)).trans hk
    refine lv_goto (tgt := 137) hx hb dX5_doAct_134 (by decide) ?_
    exact K_39 0 ka ko f_72 fp fs fl H locs ls kf_72_3 (hP.sub [0, 1, 2, 3, 4] rfl) (hD.sub [0, 1, 2, 3, 4] (by decide) rfl) hS (lv_sub hl [1, 2, 3, 4, 5, 0] rfl)
  refine lv_tableOut (tgt := 137) hx hb dX5_doAct_4 (by have t0 : (0 : Int32).toInt = 0 := (by decide); have t1 : (1 : Int32).toInt = 1 := (by decide); have t2 : (2 : Int32).toInt = 2 := (by decide); have t3 : (3 : Int32).toInt = 3 := (by decide); have t4 : (4 : Int32).toInt = 4 := (by decide); have t5 : (5 : Int32).toInt = 5 := (by decide); have t6 : (6 : Int32).toInt = 6 := (by decide); simp only [← Int32.toInt_inj, t0, t1, t2, t3, t4, t5, t6] at c_1_0 c_1_1 c_1_2 c_1_3 c_1_4 c_1_5 c_1_6; omega) (by decide) ?_
  exact K_39 0 ka ko f fp fs fl s.heap [] ls hk (hP.sub [0, 1, 2, 3, 4] rfl) (hD.sub [0, 1, 2, 3, 4] (by decide) rfl) hS (lv_sub hl [1, 2, 3, 4, 5, 0] rfl)

def v_s_aloneToGoal : List Cond := .code yX5_aloneToGoal cX5_aloneToGoal 13 (some .int) :: ([.fieldLink RX5 11 "HushWatch$State" "row" "[I", .methodLink RX5 191 Lib.Math.max.name, .static Lib.Math.max.name, .initialized "java/lang/Math", .code Lib.Math.max.name Lib.Math.max.code 2 (some .int), .methodLink RX5 188 yX5_total, .instanceMethod yX5_total, .selects RX5 yX5_total yX5_total, .initialized RX5, .methodLink RX5 69 yX5_of, .instanceMethod yX5_of, .selects RX5 yX5_of yX5_of, .methodLink RX5 182 yX5_stepFrom, .instanceMethod yX5_stepFrom, .selects RX5 yX5_stepFrom yX5_stepFrom] ++ (wsX50 ++ (v_s_total ++ (v_s_of ++ (v_s_stepFrom ++ ([]))))))
theorem gw_s_aloneToGoal : v_s_aloneToGoal.all goodWord = true := by decide +kernel
theorem i_s_aloneToGoal_X5 : ∀ w ∈ wsX50, w ∈ v_s_aloneToGoal := fun _ h => List.mem_cons_of_mem _ (List.mem_append_right _ (List.mem_append_left _ h))
theorem g_s_aloneToGoal_s_total_188 : GoodIn v_s_aloneToGoal (wsV RX5 188 RX5 yX5_total v_s_total) := goodIn_app (goodIn_of _ (by decide +kernel)) (goodIn_sub (fun _ h => List.mem_cons_of_mem _ (List.mem_append_right _ (List.mem_append_right _ (List.mem_append_left _ h)))) gw_s_total)
theorem g_s_aloneToGoal_s_of_69 : GoodIn v_s_aloneToGoal (wsV RX5 69 RX5 yX5_of v_s_of) := goodIn_app (goodIn_of _ (by decide +kernel)) (goodIn_sub (fun _ h => List.mem_cons_of_mem _ (List.mem_append_right _ (List.mem_append_right _ (List.mem_append_right _ (List.mem_append_left _ h))))) gw_s_of)
theorem g_s_aloneToGoal_s_stepFrom_182 : GoodIn v_s_aloneToGoal (wsV RX5 182 RX5 yX5_stepFrom v_s_stepFrom) := goodIn_app (goodIn_of _ (by decide +kernel)) (goodIn_sub (fun _ h => List.mem_cons_of_mem _ (List.mem_append_right _ (List.mem_append_right _ (List.mem_append_right _ (List.mem_append_right _ (List.mem_append_left _ h)))))) gw_s_stepFrom)
set_option maxHeartbeats 4000000 in
set_option maxRecDepth 100000 in
theorem lp_s_aloneToGoal_50 {p : Program} (l : Launch) {e : Env} {s : State} {m : MethodId} {below : List Frame} {meth : Method} {c : Code} {Q : State → Prop} (E : EE) {h g1 g2 g3 g4 k : Nat} {ka ko : Int32} {f : Nat → Int32} {p0 p1 : Int32} (hk : f 3 = nI k) (hk8 : k ≤ 8) (hx : p.tables.exec = Jvm.exec) (hb : c.code = cX5_aloneToGoal) (hml : c.maxLocals = 13) (hown : s.vm.findClass RX5 = some m.cls) (hts : ∀ w ∈ v_s_aloneToGoal, w.before #[Value.ref h, Value.int p0, Value.int p1] s = true) (hK : va_K E.1 vwCl (TY E) s) (hN : NX s) (hP : va_P E.1 vwCl [(h, .inr (6, [.ref g1, .ref g2, .int ka, .int ko, .ref g3, .ref g4])), (g1, .inl (E.2.1, 81, .inl f))] s.heap) (KX136 : ∀ (v3 : Int32), ∀ (v4 : Int32), ∀ (v5 : Int32), ∀ (v6 : Int32), ∀ (v7 : Int32), ∀ (v8 : Int32), ∀ (v9 : Int32), ∀ (i : Nat), ∀ (ls : Array Slot), i ≤ 9999 → lv_has ls 13 [(0, .ref h), (1, .int p0), (2, .int p1), (3, .int v3), (4, .int v4), (5, .int v5), (6, .int v6), (7, .int v7), (8, .int v8), (9, .int v9), (10, .int (nI i))] → W p l e ({ frames := 2, cells := 0, slots := 0, locals := 45 } : Room) s m #[Value.ref h, Value.int p0, Value.int p1] below meth c s.heap [] 0 0 Q (F0 m 136 ls [])) : ∀ fuel9 : Nat, ∀ (v3 : Int32), ∀ (v4 : Int32), ∀ (v5 : Int32), ∀ (v6 : Int32), ∀ (v7 : Int32), ∀ (v8 : Int32), ∀ (v9 : Int32), ∀ (i : Nat), ∀ (ls : Array Slot), i ≤ 9999 → (10000 - i) < fuel9 → lv_has ls 13 [(0, .ref h), (1, .int p0), (2, .int p1), (3, .int v3), (4, .int v4), (5, .int v5), (6, .int v6), (7, .int v7), (8, .int v8), (9, .int v9), (10, .int (nI i))] → W p l e ({ frames := 2, cells := 0, slots := 0, locals := 45 } : Room) s m #[Value.ref h, Value.int p0, Value.int p1] below meth c s.heap [] 0 0 Q (F0 m 50 ls []) := by
  intro fuel9
  induction fuel9 with
  | zero =>
    intro v3 v4 v5 v6 v7 v8 v9 i ls hi hms hl
    omega
  | succ fuel9 ih =>
    intro v3 v4 v5 v6 v7 v8 v9 i ls hi hms hl
    refine lv_iload hx hb dX5_aloneToGoal_50 (lv_at hl 10 rfl) ?_
    refine lv_sipush (v := 9999) hx hb dX5_aloneToGoal_52 (by decide) ?_
    have K_26 : ∀ (ls : Array Slot), lv_has ls 13 [(0, .ref h), (1, .int p0), (2, .int p1), (3, .int v3), (4, .int v4), (5, .int v5), (6, .int v6), (7, .int v7), (8, .int v8), (9, .int v9), (10, .int (nI i))] → W p l e ({ frames := 2, cells := 0, slots := 0, locals := 45 } : Room) s m #[Value.ref h, Value.int p0, Value.int p1] below meth c s.heap [] 0 0 Q (F0 m 136 ls []) := by
      intro ls hl
      exact KX136 v3 v4 v5 v6 v7 v8 v9 i ls (by omega) (lv_sub hl [0, 1, 2, 3, 4, 5, 6, 7, 8, 9, 10] rfl)
    refine lv_icmp_ge (tgt := 136) hx hb dX5_aloneToGoal_55 (by decide) (fun c_6 => ?_) (fun c_6 => ?_)
    ·
      have d_27 : 9999 ≤ i := nc_ge (a := i) (b := 9999) (by omega) (by omega) c_6
      exact K_26  ls  (lv_sub hl [0, 1, 2, 3, 4, 5, 6, 7, 8, 9, 10] rfl)
    ·
      have d_28 : ¬ (9999 ≤ i) := nc_ge_n (a := i) (b := 9999) (by omega) (by omega) c_6
      refine lv_iload hx hb dX5_aloneToGoal_58 (lv_at hl 9 rfl) ?_
      refine lv_if_le (tgt := 136) hx hb dX5_aloneToGoal_60 (by decide) (fun c_29 => ?_) (fun c_29 => ?_)
      ·
        exact K_26  ls  (lv_sub hl [0, 1, 2, 3, 4, 5, 6, 7, 8, 9, 10] rfl)
      ·
        refine lv_aload_n hx hb dX5_aloneToGoal_63 rfl (lv_at hl 0 rfl) ?_
        refine va_get (D := E.1) (ci := 6) (v := .ref g1) (C := RX5) (T := TX5) (N := 6) hx hb hts i_s_aloneToGoal_X5 hown hK hP 0 rfl rfl 0 (by decide) (hts (.fieldLink RX5 11 "HushWatch$State" "row" "[I") (List.mem_of_getElem? (i := 1) rfl)) (fun _ h9 => h9) rfl dX5_aloneToGoal_64 ?_
        refine lv_iconst (v := 3) hx hb dX5_aloneToGoal_67 (by decide) ?_
        refine va_iald hx hb hK hP 1 0 rfl rfl (vin rfl) dX5_aloneToGoal_68 ?_
        refine W.eq (g2 := F0 m 69 ls [.int (f 3)]) rfl ?_
        refine W.eq (g2 := F0 m 69 ls [.int (nI k)]) (by rw [hk]) ?_
        refine lv_iload hx hb dX5_aloneToGoal_69 (lv_at hl 6 rfl) ?_
        refine lv_isub hx hb dX5_aloneToGoal_71 ?_
        refine lv_topi (fun z_39 ez_39 => ?_)
        refine lv_istore (lv' := [(11, .int z_39), (0, .ref h), (1, .int p0), (2, .int p1), (3, .int v3), (4, .int v4), (5, .int v5), (6, .int v6), (7, .int v7), (8, .int v8), (9, .int v9), (10, .int (nI i))]) hx hb dX5_aloneToGoal_72 hl (by decide) rfl (fun ls hl => ?_)
        refine lv_iload hx hb dX5_aloneToGoal_74 (lv_at hl 0 rfl) ?_
        refine lv_iload hx hb dX5_aloneToGoal_76 (lv_at hl 10 rfl) ?_
        refine lv_imul hx hb dX5_aloneToGoal_78 ?_
        refine lv_topi (fun z_40 ez_40 => ?_)
        refine lv_iload hx hb dX5_aloneToGoal_79 (lv_at hl 6 rfl) ?_
        refine lv_isub hx hb dX5_aloneToGoal_81 ?_
        refine lv_topi (fun z_41 ez_41 => ?_)
        refine lv_istore (lv' := [(12, .int z_41), (11, .int z_39), (0, .ref h), (1, .int p0), (2, .int p1), (3, .int v3), (4, .int v4), (5, .int v5), (6, .int v6), (7, .int v7), (8, .int v8), (9, .int v9), (10, .int (nI i))]) hx hb dX5_aloneToGoal_82 hl (by decide) rfl (fun ls hl => ?_)
        refine lv_iload hx hb dX5_aloneToGoal_84 (lv_at hl 9 rfl) ?_
        refine lv_iload hx hb dX5_aloneToGoal_86 (lv_at hl 0 rfl) ?_
        refine lv_iadd hx hb dX5_aloneToGoal_88 ?_
        refine lv_topi (fun z_42 ez_42 => ?_)
        refine lv_istore (lv' := [(7, .int z_42), (12, .int z_41), (11, .int z_39), (0, .ref h), (1, .int p0), (2, .int p1), (3, .int v3), (4, .int v4), (5, .int v5), (6, .int v6), (8, .int v8), (9, .int v9), (10, .int (nI i))]) hx hb dX5_aloneToGoal_89 hl (by decide) rfl (fun ls hl => ?_)
        refine lv_iload hx hb dX5_aloneToGoal_91 (lv_at hl 7 rfl) ?_
        refine lv_iload hx hb dX5_aloneToGoal_93 (lv_at hl 1 rfl) ?_
        refine lv_iadd hx hb dX5_aloneToGoal_95 ?_
        refine lv_topi (fun z_43 ez_43 => ?_)
        refine lv_istore (lv' := [(4, .int z_43), (7, .int z_42), (12, .int z_41), (11, .int z_39), (0, .ref h), (1, .int p0), (2, .int p1), (3, .int v3), (5, .int v5), (6, .int v6), (8, .int v8), (9, .int v9), (10, .int (nI i))]) hx hb dX5_aloneToGoal_96 hl (by decide) rfl (fun ls hl => ?_)
        refine lv_iload hx hb dX5_aloneToGoal_98 (lv_at hl 10 rfl) ?_
        refine lv_iload hx hb dX5_aloneToGoal_100 (lv_at hl 3 rfl) ?_
        refine lv_iconst (v := 2) hx hb dX5_aloneToGoal_102 (by decide) ?_
        refine lv_aload_n hx hb dX5_aloneToGoal_103 rfl (lv_at hl 4 rfl) ?_
        refine va_get (D := E.1) (ci := 6) (v := .ref g1) (C := RX5) (T := TX5) (N := 6) hx hb hts i_s_aloneToGoal_X5 hown hK hP 0 rfl rfl 0 (by decide) (hts (.fieldLink RX5 11 "HushWatch$State" "row" "[I") (List.mem_of_getElem? (i := 1) rfl)) (fun _ h9 => h9) rfl dX5_aloneToGoal_104 ?_
        refine lv_iconst (v := 3) hx hb dX5_aloneToGoal_107 (by decide) ?_
        refine va_iald hx hb hK hP 1 0 rfl rfl (vin rfl) dX5_aloneToGoal_108 ?_
        refine W.eq (g2 := F0 m 109 ls [.int (f 3), .int 2, .int z_39, .int v8]) rfl ?_
        refine W.eq (g2 := F0 m 109 ls [.int (nI k), .int 2, .int z_39, .int v8]) (by rw [hk]) ?_
        refine lv_imul hx hb dX5_aloneToGoal_109 ?_
        refine lv_topi (fun z_44 ez_44 => ?_)
        obtain rfl : z_44 = nI (2 * k) := ez_44.trans (nI_mul 2 _)
        refine lv_iadd hx hb dX5_aloneToGoal_110 ?_
        refine lv_topi (fun z_45 ez_45 => ?_)
        refine lv_iadd hx hb dX5_aloneToGoal_111 ?_
        refine lv_topi (fun z_46 ez_46 => ?_)
        refine lv_istore (lv' := [(8, .int z_46), (4, .int z_43), (7, .int z_42), (12, .int z_41), (11, .int z_39), (0, .ref h), (1, .int p0), (2, .int p1), (3, .int v3), (5, .int v5), (6, .int v6), (9, .int v9), (10, .int (nI i))]) hx hb dX5_aloneToGoal_112 hl (by decide) rfl (fun ls hl => ?_)
        refine lv_iload hx hb dX5_aloneToGoal_114 (lv_at hl 1 rfl) ?_
        refine lv_istore_n (lv' := [(3, .int z_43), (8, .int z_46), (4, .int z_43), (7, .int z_42), (12, .int z_41), (11, .int z_39), (0, .ref h), (1, .int p0), (2, .int p1), (5, .int v5), (6, .int v6), (9, .int v9), (10, .int (nI i))]) hx hb dX5_aloneToGoal_116 rfl hl (by decide) rfl (fun ls hl => ?_)
        refine lv_iconst (v := 0) hx hb dX5_aloneToGoal_117 (by decide) ?_
        refine lv_istore (lv' := [(5, .int 0), (3, .int z_43), (8, .int z_46), (4, .int z_43), (7, .int z_42), (12, .int z_41), (11, .int z_39), (0, .ref h), (1, .int p0), (2, .int p1), (6, .int v6), (9, .int v9), (10, .int (nI i))]) hx hb dX5_aloneToGoal_118 hl (by decide) rfl (fun ls hl => ?_)
        refine lv_iconst (v := 0) hx hb dX5_aloneToGoal_120 (by decide) ?_
        refine lv_istore (lv' := [(6, .int 0), (5, .int 0), (3, .int z_43), (8, .int z_46), (4, .int z_43), (7, .int z_42), (12, .int z_41), (11, .int z_39), (0, .ref h), (1, .int p0), (2, .int p1), (9, .int v9), (10, .int (nI i))]) hx hb dX5_aloneToGoal_121 hl (by decide) rfl (fun ls hl => ?_)
        refine lv_aload_n hx hb dX5_aloneToGoal_123 rfl (lv_at hl 8 rfl) ?_
        refine lv_iload_n hx hb dX5_aloneToGoal_124 rfl (lv_at hl 2 rfl) ?_
        have hPc := hP.sub (ws' := [(h, .inr (6, [.ref g1, .ref g2, .int ka, .int ko, .ref g3, .ref g4])), (g1, .inl (E.2.1, 81, .inl f))]) [0, 1] rfl
        refine pc_i (va_runV (As := [.int z_43]) (rest := []) ⟨hx, hb, hml, hown, hts⟩ (s_stepFrom l E h g1 g2 g3 g4 k ka ko f z_43 hk (by omega)) (cwV 1 hts g_s_aloneToGoal_s_stepFrom_182 rfl rfl rfl (by decide +kernel) ⟨Nat.le_of_ble_eq_true rfl, Nat.le_of_ble_eq_true rfl⟩) ⟨pP.blind, va_recv hK hPc (ci := 6) (q0 := 0) rfl rfl, (pP.pre ⟨hK, hN⟩ hPc)⟩ rfl rfl hl.1 rfl (lv_room (Nat.le_of_ble_eq_true rfl)) dX5_aloneToGoal_125 ⟨Nat.le_of_ble_eq_true rfl, Nat.le_of_ble_eq_true rfl⟩) (fun r_47 hr_47 => ?_)
        refine lv_istore (lv' := [(9, .int r_47), (6, .int 0), (5, .int 0), (3, .int z_43), (8, .int z_46), (4, .int z_43), (7, .int z_42), (12, .int z_41), (11, .int z_39), (0, .ref h), (1, .int p0), (2, .int p1), (10, .int (nI i))]) hx hb dX5_aloneToGoal_128 hl (by decide) rfl (fun ls hl => ?_)
        refine lv_iinc (v := nI (i + 1)) (lv' := [(10, .int (nI (i + 1))), (9, .int r_47), (6, .int 0), (5, .int 0), (3, .int z_43), (8, .int z_46), (4, .int z_43), (7, .int z_42), (12, .int z_41), (11, .int z_39), (0, .ref h), (1, .int p0), (2, .int p1)]) hx hb dX5_aloneToGoal_130 hl (k := 12) rfl (show nI (i) + 1 = nI (i + 1) from nI_add _ 1) (by decide) rfl (fun ls hl => ?_)
        refine lv_goto (tgt := 50) hx hb dX5_aloneToGoal_133 (by decide) ?_
        exact ih z_43 z_43 0 0 z_42 z_46 r_47 (i + 1) ls (by omega) (by omega) (lv_sub hl [10, 11, 12, 4, 6, 3, 2, 7, 5, 1, 0] rfl)

set_option maxHeartbeats 4000000 in
set_option maxRecDepth 100000 in
theorem s_aloneToGoal (l : Launch) (E : EE) (h g1 g2 g3 g4 k : Nat) (ka ko : Int32) (f : Nat → Int32) (p0 p1 : Int32) (hk : f 3 = nI k) (hk8 : k ≤ 8) : Met l yX5_aloneToGoal v_s_aloneToGoal ({ frames := 2, cells := 0, slots := 0, locals := 45 }) (va_Pc [.ref h, .int p0, .int p1] (pP E [(h, .inr (6, [.ref g1, .ref g2, .int ka, .int ko, .ref g3, .ref g4])), (g1, .inl (E.2.1, 81, .inl f))])) (vp_Si (fun r : Int32 => True)) 0 0 (fun _ => False) := by
  refine Met.ofW (cc := cX5_aloneToGoal) (maxL := 13) (ret := (some .int)) (by decide) rfl ?_
  intro p e s m args below meth c s₁ B hml hv
  obtain ⟨rfl, ⟨hK, hN⟩, hP⟩ := hv
  have hx := B.exec
  have hb := B.bytes
  have hr := B.returns
  have hts := atoms_spec (ws := v_s_aloneToGoal) B.pre
  have hown : s.vm.findClass RX5 = some m.cls := findClass_of_methodNamed B.named
  have hlocks := B.notSynchronized
  have hP : va_P E.1 vwCl [(h, .inr (6, [.ref g1, .ref g2, .int ka, .int ko, .ref g3, .ref g4])), (g1, .inl (E.2.1, 81, .inl f))] s.heap := hP
  have hl := lv_entry ([.ref h, .int p0, .int p1]) (n := 13) (Nat.le_of_ble_eq_true rfl)
  rw [lg_entry_eq]
  generalize (lg_sl ([.ref h, .int p0, .int p1]) ++ List.replicate (13 - (lg_sl ([.ref h, .int p0, .int p1])).length) Slot.unset).toArray = ls at hl ⊢
  have hl : lv_has ls 13 [(0, .ref h), (1, .int p0), (2, .int p1)] := hl
  obtain ⟨Q, hQ⟩ : ∃ Q : State → Prop, Q = MQ below (vp_Si (fun r : Int32 => True)) #[Value.ref h, Value.int p0, Value.int p1] s 0 0 (fun _ => False) := ⟨_, rfl⟩
  rw [← hQ]
  change W p l e ({ frames := 2, cells := 0, slots := 0, locals := 45 } : Room) s m #[Value.ref h, Value.int p0, Value.int p1] below meth c s.heap [] 0 0 Q (F0 m 0 ls [])
  refine lv_aload_n hx hb dX5_aloneToGoal_0 rfl (lv_at hl 0 rfl) ?_
  refine va_get (D := E.1) (ci := 6) (v := .ref g1) (C := RX5) (T := TX5) (N := 6) hx hb hts i_s_aloneToGoal_X5 hown hK hP 0 rfl rfl 0 (by decide) (hts (.fieldLink RX5 11 "HushWatch$State" "row" "[I") (List.mem_of_getElem? (i := 1) rfl)) (fun _ h9 => h9) rfl dX5_aloneToGoal_1 ?_
  refine lv_bipush (v := 8) hx hb dX5_aloneToGoal_4 (by decide) ?_
  refine va_iald hx hb hK hP 1 0 rfl rfl (vin rfl) dX5_aloneToGoal_6 ?_
  refine W.eq (g2 := F0 m 7 ls [.int (f 8)]) rfl ?_
  refine lv_topi (fun z_1 ez_1 => ?_)
  refine lv_istore_n (lv' := [(3, .int z_1), (0, .ref h), (1, .int p0), (2, .int p1)]) hx hb dX5_aloneToGoal_7 rfl hl (by decide) rfl (fun ls hl => ?_)
  refine lv_aload_n hx hb dX5_aloneToGoal_8 rfl (lv_at hl 1 rfl) ?_
  refine lv_bipush (v := 6) hx hb dX5_aloneToGoal_9 (by decide) ?_
  have hPc := hP.sub (ws' := [(h, .inr (6, [.ref g1, .ref g2, .int ka, .int ko, .ref g3, .ref g4])), (g1, .inl (E.2.1, 81, .inl f))]) [0, 1] rfl
  refine pc_i (va_runV (As := [.int 6]) (rest := []) ⟨hx, hb, hml, hown, hts⟩ (s_total l E h g1 g2 g3 g4 k ka ko f 6 hk (by omega)) (cwV 1 hts g_s_aloneToGoal_s_total_188 rfl rfl rfl (by decide +kernel) ⟨Nat.le_of_ble_eq_true rfl, Nat.le_of_ble_eq_true rfl⟩) ⟨pP.blind, va_recv hK hPc (ci := 6) (q0 := 0) rfl rfl, (pP.pre ⟨hK, hN⟩ hPc)⟩ rfl rfl hl.1 rfl (lv_room (Nat.le_of_ble_eq_true rfl)) dX5_aloneToGoal_11 ⟨Nat.le_of_ble_eq_true rfl, Nat.le_of_ble_eq_true rfl⟩) (fun r_2 hr_2 => ?_)
  refine lv_istore (lv' := [(4, .int r_2), (3, .int z_1), (0, .ref h), (1, .int p0), (2, .int p1)]) hx hb dX5_aloneToGoal_14 hl (by decide) rfl (fun ls hl => ?_)
  refine lv_aload_n hx hb dX5_aloneToGoal_16 rfl (lv_at hl 2 rfl) ?_
  refine lv_iload_n hx hb dX5_aloneToGoal_17 rfl (lv_at hl 3 rfl) ?_
  refine lv_bipush (v := 7) hx hb dX5_aloneToGoal_18 (by decide) ?_
  have hPc := hP.sub (ws' := [(h, .inr (6, [.ref g1, .ref g2, .int ka, .int ko, .ref g3, .ref g4])), (g1, .inl (E.2.1, 81, .inl f))]) [0, 1] rfl
  refine pc_i (va_runV (As := [.int p0, .int 7]) (rest := []) ⟨hx, hb, hml, hown, hts⟩ (s_of l E h g1 g2 g3 g4 k ka ko f p0 7 hk (by omega)) (cwV 2 hts g_s_aloneToGoal_s_of_69 rfl rfl rfl (by decide +kernel) ⟨Nat.le_of_ble_eq_true rfl, Nat.le_of_ble_eq_true rfl⟩) ⟨pP.blind, va_recv hK hPc (ci := 6) (q0 := 0) rfl rfl, (pP.pre ⟨hK, hN⟩ hPc)⟩ rfl rfl hl.1 rfl (lv_room (Nat.le_of_ble_eq_true rfl)) dX5_aloneToGoal_20 ⟨Nat.le_of_ble_eq_true rfl, Nat.le_of_ble_eq_true rfl⟩) (fun r_3 hr_3 => ?_)
  refine lv_istore (lv' := [(5, .int r_3), (4, .int r_2), (3, .int z_1), (0, .ref h), (1, .int p0), (2, .int p1)]) hx hb dX5_aloneToGoal_23 hl (by decide) rfl (fun ls hl => ?_)
  refine lv_aload_n hx hb dX5_aloneToGoal_25 rfl (lv_at hl 3 rfl) ?_
  refine va_get (D := E.1) (ci := 6) (v := .ref g1) (C := RX5) (T := TX5) (N := 6) hx hb hts i_s_aloneToGoal_X5 hown hK hP 0 rfl rfl 0 (by decide) (hts (.fieldLink RX5 11 "HushWatch$State" "row" "[I") (List.mem_of_getElem? (i := 1) rfl)) (fun _ h9 => h9) rfl dX5_aloneToGoal_26 ?_
  refine lv_bipush (v := 9) hx hb dX5_aloneToGoal_29 (by decide) ?_
  refine va_iald hx hb hK hP 1 0 rfl rfl (vin rfl) dX5_aloneToGoal_31 ?_
  refine W.eq (g2 := F0 m 32 ls [.int (f 9)]) rfl ?_
  refine lv_topi (fun z_4 ez_4 => ?_)
  refine lv_istore (lv' := [(6, .int z_4), (5, .int r_3), (4, .int r_2), (3, .int z_1), (0, .ref h), (1, .int p0), (2, .int p1)]) hx hb dX5_aloneToGoal_32 hl (by decide) rfl (fun ls hl => ?_)
  refine lv_iconst (v := 0) hx hb dX5_aloneToGoal_34 (by decide) ?_
  refine lv_istore (lv' := [(7, .int 0), (6, .int z_4), (5, .int r_3), (4, .int r_2), (3, .int z_1), (0, .ref h), (1, .int p0), (2, .int p1)]) hx hb dX5_aloneToGoal_35 hl (by decide) rfl (fun ls hl => ?_)
  refine lv_iconst (v := 0) hx hb dX5_aloneToGoal_37 (by decide) ?_
  refine lv_istore (lv' := [(8, .int 0), (7, .int 0), (6, .int z_4), (5, .int r_3), (4, .int r_2), (3, .int z_1), (0, .ref h), (1, .int p0), (2, .int p1)]) hx hb dX5_aloneToGoal_38 hl (by decide) rfl (fun ls hl => ?_)
  refine lv_aload_n hx hb dX5_aloneToGoal_40 rfl (lv_at hl 6 rfl) ?_
  refine lv_iload_n hx hb dX5_aloneToGoal_41 rfl (lv_at hl 5 rfl) ?_
  have hPc := hP.sub (ws' := [(h, .inr (6, [.ref g1, .ref g2, .int ka, .int ko, .ref g3, .ref g4])), (g1, .inl (E.2.1, 81, .inl f))]) [0, 1] rfl
  refine pc_i (va_runV (As := [.int z_1]) (rest := []) ⟨hx, hb, hml, hown, hts⟩ (s_stepFrom l E h g1 g2 g3 g4 k ka ko f z_1 hk (by omega)) (cwV 1 hts g_s_aloneToGoal_s_stepFrom_182 rfl rfl rfl (by decide +kernel) ⟨Nat.le_of_ble_eq_true rfl, Nat.le_of_ble_eq_true rfl⟩) ⟨pP.blind, va_recv hK hPc (ci := 6) (q0 := 0) rfl rfl, (pP.pre ⟨hK, hN⟩ hPc)⟩ rfl rfl hl.1 rfl (lv_room (Nat.le_of_ble_eq_true rfl)) dX5_aloneToGoal_42 ⟨Nat.le_of_ble_eq_true rfl, Nat.le_of_ble_eq_true rfl⟩) (fun r_5 hr_5 => ?_)
  refine lv_istore (lv' := [(9, .int r_5), (8, .int 0), (7, .int 0), (6, .int z_4), (5, .int r_3), (4, .int r_2), (3, .int z_1), (0, .ref h), (1, .int p0), (2, .int p1)]) hx hb dX5_aloneToGoal_45 hl (by decide) rfl (fun ls hl => ?_)
  refine lv_iconst (v := 0) hx hb dX5_aloneToGoal_47 (by decide) ?_
  refine lv_istore (lv' := [(10, .int 0), (9, .int r_5), (8, .int 0), (7, .int 0), (6, .int z_4), (5, .int r_3), (4, .int r_2), (3, .int z_1), (0, .ref h), (1, .int p0), (2, .int p1)]) hx hb dX5_aloneToGoal_48 hl (by decide) rfl (fun ls hl => ?_)
  refine lp_s_aloneToGoal_50 (h := h) (g1 := g1) (g2 := g2) (g3 := g3) (g4 := g4) (k := k) (ka := ka) (ko := ko) (f := f) (p0 := p0) (p1 := p1) l E hk hk8 hx hb hml hown hts hK hN hP ?_ (10001) z_1 r_2 r_3 z_4 0 0 r_5 0 ls (by omega) (by omega) (lv_sub hl [8, 9, 10, 7, 6, 5, 4, 3, 2, 1, 0] rfl)
  ·
    intro v3 v4 v5 v6 v7 v8 v9 i ls hi hl
    refine lv_aload_n hx hb dX5_aloneToGoal_136 rfl (lv_at hl 0 rfl) ?_
    refine va_get (D := E.1) (ci := 6) (v := .ref g1) (C := RX5) (T := TX5) (N := 6) hx hb hts i_s_aloneToGoal_X5 hown hK hP 0 rfl rfl 0 (by decide) (hts (.fieldLink RX5 11 "HushWatch$State" "row" "[I") (List.mem_of_getElem? (i := 1) rfl)) (fun _ h9 => h9) rfl dX5_aloneToGoal_137 ?_
    refine lv_iconst (v := 2) hx hb dX5_aloneToGoal_140 (by decide) ?_
    refine va_iald hx hb hK hP 1 0 rfl rfl (vin rfl) dX5_aloneToGoal_141 ?_
    refine W.eq (g2 := F0 m 142 ls [.int (f 2)]) rfl ?_
    refine lv_topi (fun z_48 ez_48 => ?_)
    refine lv_iload_n hx hb dX5_aloneToGoal_142 rfl (lv_at hl 3 rfl) ?_
    refine lv_isub hx hb dX5_aloneToGoal_143 ?_
    refine lv_topi (fun z_49 ez_49 => ?_)
    refine lv_iconst (v := 0) hx hb dX5_aloneToGoal_144 (by decide) ?_
    refine va_mmax hx hb (hml.trans hl.1.symm) hown (hts (.methodLink RX5 191 Lib.Math.max.name) (List.mem_of_getElem? (i := 2) rfl)) (hts (.static Lib.Math.max.name) (List.mem_of_getElem? (i := 3) rfl)) (hts (.initialized "java/lang/Math") (List.mem_of_getElem? (i := 4) rfl)) (hts (.code Lib.Math.max.name Lib.Math.max.code 2 (some .int)) (List.mem_of_getElem? (i := 5) rfl)) (Nat.le_of_ble_eq_true rfl) (Nat.le_of_ble_eq_true rfl) (Nat.le_of_ble_eq_true rfl) (Nat.le_of_ble_eq_true rfl) dX5_aloneToGoal_145 ?_
    refine lv_topi (fun z_50 ez_50 => ?_)
    refine lv_istore (lv' := [(10, .int z_50), (0, .ref h), (1, .int p0), (2, .int p1), (3, .int v3), (4, .int v4), (5, .int v5), (6, .int v6), (7, .int v7), (8, .int v8), (9, .int v9)]) hx hb dX5_aloneToGoal_148 hl (by decide) rfl (fun ls hl => ?_)
    refine lv_iload_n hx hb dX5_aloneToGoal_150 rfl (lv_at hl 3 rfl) ?_
    have K_54 : ∀ (y_53 : Int32), ∀ (ls : Array Slot), lv_has ls 13 [(0, .ref h), (1, .int p0), (2, .int p1), (3, .int v3), (4, .int v4), (5, .int v5), (6, .int v6), (7, .int v7), (8, .int v8), (9, .int v9), (10, .int z_50)] → W p l e ({ frames := 2, cells := 0, slots := 0, locals := 45 } : Room) s m #[Value.ref h, Value.int p0, Value.int p1] below meth c s.heap [] 0 0 Q (F0 m 161 ls [.int y_53]) := by
      intro y_53 ls hl
      refine lv_iload hx hb dX5_aloneToGoal_161 (lv_at hl 10 rfl) ?_
      refine lv_iadd hx hb dX5_aloneToGoal_163 ?_
      refine lv_topi (fun z_55 ez_55 => ?_)
      rw [hQ]
      exact W.iret (v := z_55) hx hb hr (fun tt ht hW => ⟨_, rfl, trivial, ht⟩) (fun _ h => by cases h) dX5_aloneToGoal_164
    refine lv_if_eq (tgt := 159) hx hb dX5_aloneToGoal_151 (by decide) (fun c_51 => ?_) (fun c_51 => ?_)
    ·
      obtain ⟨j_56, hj_56, ej_56⟩ : ∃ j : Nat, j ≤ 0 ∧ p1 = nI j := nat_rng (by have t0 : (0 : Int32).toInt = 0 := (by decide); simp only [Int32.lt_iff_toInt_lt, Int32.le_iff_toInt_le, ge_iff_le, gt_iff_lt, ne_eq, ← Int32.toInt_inj, t0] at c_51 ⊢; omega)
      refine lv_iload hx hb dX5_aloneToGoal_159 (lv_at hl 8 rfl) ?_
      exact K_54 v7 ls  (lv_sub hl [1, 2, 3, 4, 5, 6, 7, 8, 9, 10, 0] rfl)
    ·
      refine lv_iload hx hb dX5_aloneToGoal_154 (lv_at hl 9 rfl) ?_
      refine lv_goto (tgt := 161) hx hb dX5_aloneToGoal_156 (by decide) ?_
      exact K_54 v8 ls  (lv_sub hl [1, 2, 3, 4, 5, 6, 7, 8, 9, 10, 0] rfl)
