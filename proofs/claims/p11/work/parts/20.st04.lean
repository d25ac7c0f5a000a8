def dl_X5_moveSite_20_st04_0 : List (Nat × Instr × Nat) := [(102, .istore 6, 2), (104, .aload_n 0, 1), (105, .iload 6, 2), (107, .invokevirtual 131, 3), (110, .ifCond .eq 6, 3), (116, .aload_n 0, 1), (117, .iload 6, 2), (119, .invokevirtual 153, 3), (122, .iload 4, 2), (124, .iconst 1, 1), (125, .iload 6, 2), (127, .ishl, 1), (128, .ior, 1), (129, .istore 4, 2), (131, .aload_n 0, 1), (132, .iload 4, 2), (134, .invokevirtual 156, 3), (137, .ifCond .eq 10, 3), (147, .iinc 5 1, 3), (150, .goto (-104), 3), (113, .goto 34, 3), (46, .iload 5, 2), (48, .aload_n 0, 1), (49, .getfield 11, 3), (52, .iconst 3, 1), (53, .iaload, 1), (54, .if_icmp .ge 99, 3), (57, .iload 5, 2), (59, .bipush 8, 2), (61, .if_icmp .ge 92, 3), (64, .aload_n 0, 1), (65, .invokevirtual 83, 3), (68, .ifCond .ne 85, 3), (71, .iload_n 1, 1), (72, .iload 5, 2), (74, .iadd, 1), (75, .aload_n 0, 1), (76, .getfield 11, 3), (79, .iconst 3, 1), (80, .iaload, 1), (81, .if_icmp .ge 10, 3), (91, .iload_n 1, 1), (92, .iload 5, 2), (94, .iadd, 1), (95, .aload_n 0, 1), (96, .getfield 11, 3), (99, .iconst 3, 1), (100, .iaload, 1), (101, .isub, 1), (84, .iload_n 1, 1)]
set_option maxRecDepth 100000 in
theorem dall_X5_moveSite_20_st04_0 : dchk cX5_moveSite dl_X5_moveSite_20_st04_0 = true := by decide +kernel
theorem dX5_moveSite_102 : decode cX5_moveSite 102 = .ok (.istore 6, 2) := dchk_at dall_X5_moveSite_20_st04_0 (k := 0) rfl
theorem dX5_moveSite_104 : decode cX5_moveSite 104 = .ok (.aload_n 0, 1) := dchk_at dall_X5_moveSite_20_st04_0 (k := 1) rfl
theorem dX5_moveSite_105 : decode cX5_moveSite 105 = .ok (.iload 6, 2) := dchk_at dall_X5_moveSite_20_st04_0 (k := 2) rfl
theorem dX5_moveSite_107 : decode cX5_moveSite 107 = .ok (.invokevirtual 131, 3) := dchk_at dall_X5_moveSite_20_st04_0 (k := 3) rfl
theorem dX5_moveSite_110 : decode cX5_moveSite 110 = .ok (.ifCond .eq 6, 3) := dchk_at dall_X5_moveSite_20_st04_0 (k := 4) rfl
theorem dX5_moveSite_116 : decode cX5_moveSite 116 = .ok (.aload_n 0, 1) := dchk_at dall_X5_moveSite_20_st04_0 (k := 5) rfl
theorem dX5_moveSite_117 : decode cX5_moveSite 117 = .ok (.iload 6, 2) := dchk_at dall_X5_moveSite_20_st04_0 (k := 6) rfl
theorem dX5_moveSite_119 : decode cX5_moveSite 119 = .ok (.invokevirtual 153, 3) := dchk_at dall_X5_moveSite_20_st04_0 (k := 7) rfl
theorem dX5_moveSite_122 : decode cX5_moveSite 122 = .ok (.iload 4, 2) := dchk_at dall_X5_moveSite_20_st04_0 (k := 8) rfl
theorem dX5_moveSite_124 : decode cX5_moveSite 124 = .ok (.iconst 1, 1) := dchk_at dall_X5_moveSite_20_st04_0 (k := 9) rfl
theorem dX5_moveSite_125 : decode cX5_moveSite 125 = .ok (.iload 6, 2) := dchk_at dall_X5_moveSite_20_st04_0 (k := 10) rfl
theorem dX5_moveSite_127 : decode cX5_moveSite 127 = .ok (.ishl, 1) := dchk_at dall_X5_moveSite_20_st04_0 (k := 11) rfl
theorem dX5_moveSite_128 : decode cX5_moveSite 128 = .ok (.ior, 1) := dchk_at dall_X5_moveSite_20_st04_0 (k := 12) rfl
theorem dX5_moveSite_129 : decode cX5_moveSite 129 = .ok (.istore 4, 2) := dchk_at dall_X5_moveSite_20_st04_0 (k := 13) rfl
theorem dX5_moveSite_131 : decode cX5_moveSite 131 = .ok (.aload_n 0, 1) := dchk_at dall_X5_moveSite_20_st04_0 (k := 14) rfl
theorem dX5_moveSite_132 : decode cX5_moveSite 132 = .ok (.iload 4, 2) := dchk_at dall_X5_moveSite_20_st04_0 (k := 15) rfl
theorem dX5_moveSite_134 : decode cX5_moveSite 134 = .ok (.invokevirtual 156, 3) := dchk_at dall_X5_moveSite_20_st04_0 (k := 16) rfl
theorem dX5_moveSite_137 : decode cX5_moveSite 137 = .ok (.ifCond .eq 10, 3) := dchk_at dall_X5_moveSite_20_st04_0 (k := 17) rfl
theorem dX5_moveSite_147 : decode cX5_moveSite 147 = .ok (.iinc 5 1, 3) := dchk_at dall_X5_moveSite_20_st04_0 (k := 18) rfl
theorem dX5_moveSite_150 : decode cX5_moveSite 150 = .ok (.goto (-104), 3) := dchk_at dall_X5_moveSite_20_st04_0 (k := 19) rfl
theorem dX5_moveSite_113 : decode cX5_moveSite 113 = .ok (.goto 34, 3) := dchk_at dall_X5_moveSite_20_st04_0 (k := 20) rfl
theorem dX5_moveSite_46 : decode cX5_moveSite 46 = .ok (.iload 5, 2) := dchk_at dall_X5_moveSite_20_st04_0 (k := 21) rfl
theorem dX5_moveSite_48 : decode cX5_moveSite 48 = .ok (.aload_n 0, 1) := dchk_at dall_X5_moveSite_20_st04_0 (k := 22) rfl
theorem dX5_moveSite_49 : decode cX5_moveSite 49 = .ok (.getfield 11, 3) := dchk_at dall_X5_moveSite_20_st04_0 (k := 23) rfl
theorem dX5_moveSite_52 : decode cX5_moveSite 52 = .ok (.iconst 3, 1) := dchk_at dall_X5_moveSite_20_st04_0 (k := 24) rfl
theorem dX5_moveSite_53 : decode cX5_moveSite 53 = .ok (.iaload, 1) := dchk_at dall_X5_moveSite_20_st04_0 (k := 25) rfl
theorem dX5_moveSite_54 : decode cX5_moveSite 54 = .ok (.if_icmp .ge 99, 3) := dchk_at dall_X5_moveSite_20_st04_0 (k := 26) rfl
theorem dX5_moveSite_57 : decode cX5_moveSite 57 = .ok (.iload 5, 2) := dchk_at dall_X5_moveSite_20_st04_0 (k := 27) rfl
theorem dX5_moveSite_59 : decode cX5_moveSite 59 = .ok (.bipush 8, 2) := dchk_at dall_X5_moveSite_20_st04_0 (k := 28) rfl
theorem dX5_moveSite_61 : decode cX5_moveSite 61 = .ok (.if_icmp .ge 92, 3) := dchk_at dall_X5_moveSite_20_st04_0 (k := 29) rfl
theorem dX5_moveSite_64 : decode cX5_moveSite 64 = .ok (.aload_n 0, 1) := dchk_at dall_X5_moveSite_20_st04_0 (k := 30) rfl
theorem dX5_moveSite_65 : decode cX5_moveSite 65 = .ok (.invokevirtual 83, 3) := dchk_at dall_X5_moveSite_20_st04_0 (k := 31) rfl
theorem dX5_moveSite_68 : decode cX5_moveSite 68 = .ok (.ifCond .ne 85, 3) := dchk_at dall_X5_moveSite_20_st04_0 (k := 32) rfl
theorem dX5_moveSite_71 : decode cX5_moveSite 71 = .ok (.iload_n 1, 1) := dchk_at dall_X5_moveSite_20_st04_0 (k := 33) rfl
theorem dX5_moveSite_72 : decode cX5_moveSite 72 = .ok (.iload 5, 2) := dchk_at dall_X5_moveSite_20_st04_0 (k := 34) rfl
theorem dX5_moveSite_74 : decode cX5_moveSite 74 = .ok (.iadd, 1) := dchk_at dall_X5_moveSite_20_st04_0 (k := 35) rfl
theorem dX5_moveSite_75 : decode cX5_moveSite 75 = .ok (.aload_n 0, 1) := dchk_at dall_X5_moveSite_20_st04_0 (k := 36) rfl
theorem dX5_moveSite_76 : decode cX5_moveSite 76 = .ok (.getfield 11, 3) := dchk_at dall_X5_moveSite_20_st04_0 (k := 37) rfl
theorem dX5_moveSite_79 : decode cX5_moveSite 79 = .ok (.iconst 3, 1) := dchk_at dall_X5_moveSite_20_st04_0 (k := 38) rfl
theorem dX5_moveSite_80 : decode cX5_moveSite 80 = .ok (.iaload, 1) := dchk_at dall_X5_moveSite_20_st04_0 (k := 39) rfl
theorem dX5_moveSite_81 : decode cX5_moveSite 81 = .ok (.if_icmp .ge 10, 3) := dchk_at dall_X5_moveSite_20_st04_0 (k := 40) rfl
theorem dX5_moveSite_91 : decode cX5_moveSite 91 = .ok (.iload_n 1, 1) := dchk_at dall_X5_moveSite_20_st04_0 (k := 41) rfl
theorem dX5_moveSite_92 : decode cX5_moveSite 92 = .ok (.iload 5, 2) := dchk_at dall_X5_moveSite_20_st04_0 (k := 42) rfl
theorem dX5_moveSite_94 : decode cX5_moveSite 94 = .ok (.iadd, 1) := dchk_at dall_X5_moveSite_20_st04_0 (k := 43) rfl
theorem dX5_moveSite_95 : decode cX5_moveSite 95 = .ok (.aload_n 0, 1) := dchk_at dall_X5_moveSite_20_st04_0 (k := 44) rfl
theorem dX5_moveSite_96 : decode cX5_moveSite 96 = .ok (.getfield 11, 3) := dchk_at dall_X5_moveSite_20_st04_0 (k := 45) rfl
theorem dX5_moveSite_99 : decode cX5_moveSite 99 = .ok (.iconst 3, 1) := dchk_at dall_X5_moveSite_20_st04_0 (k := 46) rfl
theorem dX5_moveSite_100 : decode cX5_moveSite 100 = .ok (.iaload, 1) := dchk_at dall_X5_moveSite_20_st04_0 (k := 47) rfl
theorem dX5_moveSite_101 : decode cX5_moveSite 101 = .ok (.isub, 1) := dchk_at dall_X5_moveSite_20_st04_0 (k := 48) rfl
theorem dX5_moveSite_84 : decode cX5_moveSite 84 = .ok (.iload_n 1, 1) := dchk_at dall_X5_moveSite_20_st04_0 (k := 49) rfl
def dl_X5_moveSite_20_st04_1 : List (Nat × Instr × Nat) := [(85, .iload 5, 2), (87, .iadd, 1), (88, .goto 14, 3), (153, .aload_n 0, 1), (154, .invokevirtual 162, 3), (157, .aload_n 0, 1), (158, .iconst 2, 1), (159, .putfield 22, 3), (162, .aload_n 0, 1), (163, .getfield 11, 3), (166, .iconst 3, 1), (167, .iaload, 1), (168, .iconst 1, 1), (169, .isub, 1), (170, .aload_n 0, 1), (171, .getfield 18, 3), (174, .isub, 1), (175, .istore 5, 2), (177, .iconst 1, 1), (178, .iconst 2, 1), (179, .aload_n 0, 1), (180, .getfield 18, 3), (183, .imul, 1), (184, .iadd, 1), (185, .iload 5, 2), (187, .iadd, 1), (188, .aload_n 0, 1), (189, .getfield 11, 3), (192, .iconst 3, 1), (193, .iaload, 1), (194, .iadd, 1), (195, .ireturn, 1), (0, .aload_n 0, 1), (1, .iconst 0, 1), (2, .putfield 18, 3), (5, .aload_n 0, 1), (6, .iconst 0, 1), (7, .putfield 22, 3), (10, .aload_n 0, 1), (11, .iload_n 1, 1), (12, .iload_n 2, 1), (13, .iload_n 3, 1), (14, .invokevirtual 150, 3), (17, .aload_n 0, 1), (18, .iload_n 1, 1), (19, .invokevirtual 99, 3), (22, .ifCond .eq 5, 3), (27, .aload_n 0, 1), (28, .getfield 11, 3), (31, .bipush 12, 2)]
set_option maxRecDepth 100000 in
theorem dall_X5_moveSite_20_st04_1 : dchk cX5_moveSite dl_X5_moveSite_20_st04_1 = true := by decide +kernel
theorem dX5_moveSite_85 : decode cX5_moveSite 85 = .ok (.iload 5, 2) := dchk_at dall_X5_moveSite_20_st04_1 (k := 0) rfl
theorem dX5_moveSite_87 : decode cX5_moveSite 87 = .ok (.iadd, 1) := dchk_at dall_X5_moveSite_20_st04_1 (k := 1) rfl
theorem dX5_moveSite_88 : decode cX5_moveSite 88 = .ok (.goto 14, 3) := dchk_at dall_X5_moveSite_20_st04_1 (k := 2) rfl
theorem dX5_moveSite_153 : decode cX5_moveSite 153 = .ok (.aload_n 0, 1) := dchk_at dall_X5_moveSite_20_st04_1 (k := 3) rfl
theorem dX5_moveSite_154 : decode cX5_moveSite 154 = .ok (.invokevirtual 162, 3) := dchk_at dall_X5_moveSite_20_st04_1 (k := 4) rfl
theorem dX5_moveSite_157 : decode cX5_moveSite 157 = .ok (.aload_n 0, 1) := dchk_at dall_X5_moveSite_20_st04_1 (k := 5) rfl
theorem dX5_moveSite_158 : decode cX5_moveSite 158 = .ok (.iconst 2, 1) := dchk_at dall_X5_moveSite_20_st04_1 (k := 6) rfl
theorem dX5_moveSite_159 : decode cX5_moveSite 159 = .ok (.putfield 22, 3) := dchk_at dall_X5_moveSite_20_st04_1 (k := 7) rfl
theorem dX5_moveSite_162 : decode cX5_moveSite 162 = .ok (.aload_n 0, 1) := dchk_at dall_X5_moveSite_20_st04_1 (k := 8) rfl
theorem dX5_moveSite_163 : decode cX5_moveSite 163 = .ok (.getfield 11, 3) := dchk_at dall_X5_moveSite_20_st04_1 (k := 9) rfl
theorem dX5_moveSite_166 : decode cX5_moveSite 166 = .ok (.iconst 3, 1) := dchk_at dall_X5_moveSite_20_st04_1 (k := 10) rfl
theorem dX5_moveSite_167 : decode cX5_moveSite 167 = .ok (.iaload, 1) := dchk_at dall_X5_moveSite_20_st04_1 (k := 11) rfl
theorem dX5_moveSite_168 : decode cX5_moveSite 168 = .ok (.iconst 1, 1) := dchk_at dall_X5_moveSite_20_st04_1 (k := 12) rfl
theorem dX5_moveSite_169 : decode cX5_moveSite 169 = .ok (.isub, 1) := dchk_at dall_X5_moveSite_20_st04_1 (k := 13) rfl
theorem dX5_moveSite_170 : decode cX5_moveSite 170 = .ok (.aload_n 0, 1) := dchk_at dall_X5_moveSite_20_st04_1 (k := 14) rfl
theorem dX5_moveSite_171 : decode cX5_moveSite 171 = .ok (.getfield 18, 3) := dchk_at dall_X5_moveSite_20_st04_1 (k := 15) rfl
theorem dX5_moveSite_174 : decode cX5_moveSite 174 = .ok (.isub, 1) := dchk_at dall_X5_moveSite_20_st04_1 (k := 16) rfl
theorem dX5_moveSite_175 : decode cX5_moveSite 175 = .ok (.istore 5, 2) := dchk_at dall_X5_moveSite_20_st04_1 (k := 17) rfl
theorem dX5_moveSite_177 : decode cX5_moveSite 177 = .ok (.iconst 1, 1) := dchk_at dall_X5_moveSite_20_st04_1 (k := 18) rfl
theorem dX5_moveSite_178 : decode cX5_moveSite 178 = .ok (.iconst 2, 1) := dchk_at dall_X5_moveSite_20_st04_1 (k := 19) rfl
theorem dX5_moveSite_179 : decode cX5_moveSite 179 = .ok (.aload_n 0, 1) := dchk_at dall_X5_moveSite_20_st04_1 (k := 20) rfl
theorem dX5_moveSite_180 : decode cX5_moveSite 180 = .ok (.getfield 18, 3) := dchk_at dall_X5_moveSite_20_st04_1 (k := 21) rfl
theorem dX5_moveSite_183 : decode cX5_moveSite 183 = .ok (.imul, 1) := dchk_at dall_X5_moveSite_20_st04_1 (k := 22) rfl
theorem dX5_moveSite_184 : decode cX5_moveSite 184 = .ok (.iadd, 1) := dchk_at dall_X5_moveSite_20_st04_1 (k := 23) rfl
theorem dX5_moveSite_185 : decode cX5_moveSite 185 = .ok (.iload 5, 2) := dchk_at dall_X5_moveSite_20_st04_1 (k := 24) rfl
theorem dX5_moveSite_187 : decode cX5_moveSite 187 = .ok (.iadd, 1) := dchk_at dall_X5_moveSite_20_st04_1 (k := 25) rfl
theorem dX5_moveSite_188 : decode cX5_moveSite 188 = .ok (.aload_n 0, 1) := dchk_at dall_X5_moveSite_20_st04_1 (k := 26) rfl
theorem dX5_moveSite_189 : decode cX5_moveSite 189 = .ok (.getfield 11, 3) := dchk_at dall_X5_moveSite_20_st04_1 (k := 27) rfl
theorem dX5_moveSite_192 : decode cX5_moveSite 192 = .ok (.iconst 3, 1) := dchk_at dall_X5_moveSite_20_st04_1 (k := 28) rfl
theorem dX5_moveSite_193 : decode cX5_moveSite 193 = .ok (.iaload, 1) := dchk_at dall_X5_moveSite_20_st04_1 (k := 29) rfl
theorem dX5_moveSite_194 : decode cX5_moveSite 194 = .ok (.iadd, 1) := dchk_at dall_X5_moveSite_20_st04_1 (k := 30) rfl
theorem dX5_moveSite_195 : decode cX5_moveSite 195 = .ok (.ireturn, 1) := dchk_at dall_X5_moveSite_20_st04_1 (k := 31) rfl
theorem dX5_moveSite_0 : decode cX5_moveSite 0 = .ok (.aload_n 0, 1) := dchk_at dall_X5_moveSite_20_st04_1 (k := 32) rfl
theorem dX5_moveSite_1 : decode cX5_moveSite 1 = .ok (.iconst 0, 1) := dchk_at dall_X5_moveSite_20_st04_1 (k := 33) rfl
theorem dX5_moveSite_2 : decode cX5_moveSite 2 = .ok (.putfield 18, 3) := dchk_at dall_X5_moveSite_20_st04_1 (k := 34) rfl
theorem dX5_moveSite_5 : decode cX5_moveSite 5 = .ok (.aload_n 0, 1) := dchk_at dall_X5_moveSite_20_st04_1 (k := 35) rfl
theorem dX5_moveSite_6 : decode cX5_moveSite 6 = .ok (.iconst 0, 1) := dchk_at dall_X5_moveSite_20_st04_1 (k := 36) rfl
theorem dX5_moveSite_7 : decode cX5_moveSite 7 = .ok (.putfield 22, 3) := dchk_at dall_X5_moveSite_20_st04_1 (k := 37) rfl
theorem dX5_moveSite_10 : decode cX5_moveSite 10 = .ok (.aload_n 0, 1) := dchk_at dall_X5_moveSite_20_st04_1 (k := 38) rfl
theorem dX5_moveSite_11 : decode cX5_moveSite 11 = .ok (.iload_n 1, 1) := dchk_at dall_X5_moveSite_20_st04_1 (k := 39) rfl
theorem dX5_moveSite_12 : decode cX5_moveSite 12 = .ok (.iload_n 2, 1) := dchk_at dall_X5_moveSite_20_st04_1 (k := 40) rfl
theorem dX5_moveSite_13 : decode cX5_moveSite 13 = .ok (.iload_n 3, 1) := dchk_at dall_X5_moveSite_20_st04_1 (k := 41) rfl
theorem dX5_moveSite_14 : decode cX5_moveSite 14 = .ok (.invokevirtual 150, 3) := dchk_at dall_X5_moveSite_20_st04_1 (k := 42) rfl
theorem dX5_moveSite_17 : decode cX5_moveSite 17 = .ok (.aload_n 0, 1) := dchk_at dall_X5_moveSite_20_st04_1 (k := 43) rfl
theorem dX5_moveSite_18 : decode cX5_moveSite 18 = .ok (.iload_n 1, 1) := dchk_at dall_X5_moveSite_20_st04_1 (k := 44) rfl
theorem dX5_moveSite_19 : decode cX5_moveSite 19 = .ok (.invokevirtual 99, 3) := dchk_at dall_X5_moveSite_20_st04_1 (k := 45) rfl
theorem dX5_moveSite_22 : decode cX5_moveSite 22 = .ok (.ifCond .eq 5, 3) := dchk_at dall_X5_moveSite_20_st04_1 (k := 46) rfl
theorem dX5_moveSite_27 : decode cX5_moveSite 27 = .ok (.aload_n 0, 1) := dchk_at dall_X5_moveSite_20_st04_1 (k := 47) rfl
theorem dX5_moveSite_28 : decode cX5_moveSite 28 = .ok (.getfield 11, 3) := dchk_at dall_X5_moveSite_20_st04_1 (k := 48) rfl
theorem dX5_moveSite_31 : decode cX5_moveSite 31 = .ok (.bipush 12, 2) := dchk_at dall_X5_moveSite_20_st04_1 (k := 49) rfl
def dl_X5_moveSite_20_st04_2 : List (Nat × Instr × Nat) := [(33, .dup2, 1), (34, .iaload, 1), (35, .iconst 1, 1), (36, .iadd, 1), (37, .iastore, 1), (38, .iconst 1, 1), (39, .iload_n 1, 1), (40, .ishl, 1), (41, .istore 4, 2), (43, .iconst 1, 1), (44, .istore 5, 2), (140, .aload_n 0, 1), (141, .iload 4, 2), (143, .invokevirtual 159, 3), (146, .ireturn, 1), (25, .iconst 0, 1), (26, .ireturn, 1)]
set_option maxRecDepth 100000 in
theorem dall_X5_moveSite_20_st04_2 : dchk cX5_moveSite dl_X5_moveSite_20_st04_2 = true := by decide +kernel
theorem dX5_moveSite_33 : decode cX5_moveSite 33 = .ok (.dup2, 1) := dchk_at dall_X5_moveSite_20_st04_2 (k := 0) rfl
theorem dX5_moveSite_34 : decode cX5_moveSite 34 = .ok (.iaload, 1) := dchk_at dall_X5_moveSite_20_st04_2 (k := 1) rfl
theorem dX5_moveSite_35 : decode cX5_moveSite 35 = .ok (.iconst 1, 1) := dchk_at dall_X5_moveSite_20_st04_2 (k := 2) rfl
theorem dX5_moveSite_36 : decode cX5_moveSite 36 = .ok (.iadd, 1) := dchk_at dall_X5_moveSite_20_st04_2 (k := 3) rfl
theorem dX5_moveSite_37 : decode cX5_moveSite 37 = .ok (.iastore, 1) := dchk_at dall_X5_moveSite_20_st04_2 (k := 4) rfl
theorem dX5_moveSite_38 : decode cX5_moveSite 38 = .ok (.iconst 1, 1) := dchk_at dall_X5_moveSite_20_st04_2 (k := 5) rfl
theorem dX5_moveSite_39 : decode cX5_moveSite 39 = .ok (.iload_n 1, 1) := dchk_at dall_X5_moveSite_20_st04_2 (k := 6) rfl
theorem dX5_moveSite_40 : decode cX5_moveSite 40 = .ok (.ishl, 1) := dchk_at dall_X5_moveSite_20_st04_2 (k := 7) rfl
theorem dX5_moveSite_41 : decode cX5_moveSite 41 = .ok (.istore 4, 2) := dchk_at dall_X5_moveSite_20_st04_2 (k := 8) rfl
theorem dX5_moveSite_43 : decode cX5_moveSite 43 = .ok (.iconst 1, 1) := dchk_at dall_X5_moveSite_20_st04_2 (k := 9) rfl
theorem dX5_moveSite_44 : decode cX5_moveSite 44 = .ok (.istore 5, 2) := dchk_at dall_X5_moveSite_20_st04_2 (k := 10) rfl
theorem dX5_moveSite_140 : decode cX5_moveSite 140 = .ok (.aload_n 0, 1) := dchk_at dall_X5_moveSite_20_st04_2 (k := 11) rfl
theorem dX5_moveSite_141 : decode cX5_moveSite 141 = .ok (.iload 4, 2) := dchk_at dall_X5_moveSite_20_st04_2 (k := 12) rfl
theorem dX5_moveSite_143 : decode cX5_moveSite 143 = .ok (.invokevirtual 159, 3) := dchk_at dall_X5_moveSite_20_st04_2 (k := 13) rfl
theorem dX5_moveSite_146 : decode cX5_moveSite 146 = .ok (.ireturn, 1) := dchk_at dall_X5_moveSite_20_st04_2 (k := 14) rfl
theorem dX5_moveSite_25 : decode cX5_moveSite 25 = .ok (.iconst 0, 1) := dchk_at dall_X5_moveSite_20_st04_2 (k := 15) rfl
theorem dX5_moveSite_26 : decode cX5_moveSite 26 = .ok (.ireturn, 1) := dchk_at dall_X5_moveSite_20_st04_2 (k := 16) rfl
def dl_X5_hearByHand_20_st04_0 : List (Nat × Instr × Nat) := [(0, .aload_n 0, 1), (1, .invokevirtual 162, 3), (4, .iconst 2, 1), (5, .aload_n 0, 1), (6, .getfield 11, 3), (9, .iconst 3, 1), (10, .iaload, 1), (11, .imul, 1), (12, .ireturn, 1)]
set_option maxRecDepth 100000 in
theorem dall_X5_hearByHand_20_st04_0 : dchk cX5_hearByHand dl_X5_hearByHand_20_st04_0 = true := by decide +kernel
theorem dX5_hearByHand_0 : decode cX5_hearByHand 0 = .ok (.aload_n 0, 1) := dchk_at dall_X5_hearByHand_20_st04_0 (k := 0) rfl
theorem dX5_hearByHand_1 : decode cX5_hearByHand 1 = .ok (.invokevirtual 162, 3) := dchk_at dall_X5_hearByHand_20_st04_0 (k := 1) rfl
theorem dX5_hearByHand_4 : decode cX5_hearByHand 4 = .ok (.iconst 2, 1) := dchk_at dall_X5_hearByHand_20_st04_0 (k := 2) rfl
theorem dX5_hearByHand_5 : decode cX5_hearByHand 5 = .ok (.aload_n 0, 1) := dchk_at dall_X5_hearByHand_20_st04_0 (k := 3) rfl
theorem dX5_hearByHand_6 : decode cX5_hearByHand 6 = .ok (.getfield 11, 3) := dchk_at dall_X5_hearByHand_20_st04_0 (k := 4) rfl
theorem dX5_hearByHand_9 : decode cX5_hearByHand 9 = .ok (.iconst 3, 1) := dchk_at dall_X5_hearByHand_20_st04_0 (k := 5) rfl
theorem dX5_hearByHand_10 : decode cX5_hearByHand 10 = .ok (.iaload, 1) := dchk_at dall_X5_hearByHand_20_st04_0 (k := 6) rfl
theorem dX5_hearByHand_11 : decode cX5_hearByHand 11 = .ok (.imul, 1) := dchk_at dall_X5_hearByHand_20_st04_0 (k := 7) rfl
theorem dX5_hearByHand_12 : decode cX5_hearByHand 12 = .ok (.ireturn, 1) := dchk_at dall_X5_hearByHand_20_st04_0 (k := 8) rfl
def dl_X5_startCounts_20_st04_0 : List (Nat × Instr × Nat) := [(33, .iload_n 2, 1), (34, .aload_n 0, 1), (35, .invokevirtual 45, 3), (38, .if_icmp .ge 25, 3), (41, .aload_n 0, 1), (42, .iload_n 2, 1), (43, .bipush 6, 2), (45, .iconst 0, 1), (46, .invokevirtual 52, 3), (49, .aload_n 0, 1), (50, .iload_n 2, 1), (51, .bipush 7, 2), (53, .iconst 0, 1), (54, .invokevirtual 52, 3), (57, .iinc 2 1, 3), (60, .goto (-27), 3), (0, .aload_n 0, 1), (1, .getfield 11, 3), (4, .iconst 2, 1), (5, .iload_n 1, 1), (6, .iastore, 1), (7, .aload_n 0, 1), (8, .getfield 11, 3), (11, .bipush 8, 2), (13, .iconst 0, 1), (14, .iastore, 1), (15, .aload_n 0, 1), (16, .getfield 11, 3), (19, .bipush 9, 2), (21, .iconst 0, 1), (22, .iastore, 1), (23, .aload_n 0, 1), (24, .getfield 11, 3), (27, .bipush 10, 2), (29, .iconst 0, 1), (30, .iastore, 1), (31, .iconst 0, 1), (32, .istore_n 2, 1), (63, .return_, 1)]
set_option maxRecDepth 100000 in
theorem dall_X5_startCounts_20_st04_0 : dchk cX5_startCounts dl_X5_startCounts_20_st04_0 = true := by decide +kernel
theorem dX5_startCounts_33 : decode cX5_startCounts 33 = .ok (.iload_n 2, 1) := dchk_at dall_X5_startCounts_20_st04_0 (k := 0) rfl
theorem dX5_startCounts_34 : decode cX5_startCounts 34 = .ok (.aload_n 0, 1) := dchk_at dall_X5_startCounts_20_st04_0 (k := 1) rfl
theorem dX5_startCounts_35 : decode cX5_startCounts 35 = .ok (.invokevirtual 45, 3) := dchk_at dall_X5_startCounts_20_st04_0 (k := 2) rfl
theorem dX5_startCounts_38 : decode cX5_startCounts 38 = .ok (.if_icmp .ge 25, 3) := dchk_at dall_X5_startCounts_20_st04_0 (k := 3) rfl
theorem dX5_startCounts_41 : decode cX5_startCounts 41 = .ok (.aload_n 0, 1) := dchk_at dall_X5_startCounts_20_st04_0 (k := 4) rfl
theorem dX5_startCounts_42 : decode cX5_startCounts 42 = .ok (.iload_n 2, 1) := dchk_at dall_X5_startCounts_20_st04_0 (k := 5) rfl
theorem dX5_startCounts_43 : decode cX5_startCounts 43 = .ok (.bipush 6, 2) := dchk_at dall_X5_startCounts_20_st04_0 (k := 6) rfl
theorem dX5_startCounts_45 : decode cX5_startCounts 45 = .ok (.iconst 0, 1) := dchk_at dall_X5_startCounts_20_st04_0 (k := 7) rfl
theorem dX5_startCounts_46 : decode cX5_startCounts 46 = .ok (.invokevirtual 52, 3) := dchk_at dall_X5_startCounts_20_st04_0 (k := 8) rfl
theorem dX5_startCounts_49 : decode cX5_startCounts 49 = .ok (.aload_n 0, 1) := dchk_at dall_X5_startCounts_20_st04_0 (k := 9) rfl
theorem dX5_startCounts_50 : decode cX5_startCounts 50 = .ok (.iload_n 2, 1) := dchk_at dall_X5_startCounts_20_st04_0 (k := 10) rfl
theorem dX5_startCounts_51 : decode cX5_startCounts 51 = .ok (.bipush 7, 2) := dchk_at dall_X5_startCounts_20_st04_0 (k := 11) rfl
theorem dX5_startCounts_53 : decode cX5_startCounts 53 = .ok (.iconst 0, 1) := dchk_at dall_X5_startCounts_20_st04_0 (k := 12) rfl
theorem dX5_startCounts_54 : decode cX5_startCounts 54 = .ok (.invokevirtual 52, 3) := dchk_at dall_X5_startCounts_20_st04_0 (k := 13) rfl
theorem dX5_startCounts_57 : decode cX5_startCounts 57 = .ok (.iinc 2 1, 3) := dchk_at dall_X5_startCounts_20_st04_0 (k := 14) rfl
theorem dX5_startCounts_60 : decode cX5_startCounts 60 = .ok (.goto (-27), 3) := dchk_at dall_X5_startCounts_20_st04_0 (k := 15) rfl
theorem dX5_startCounts_0 : decode cX5_startCounts 0 = .ok (.aload_n 0, 1) := dchk_at dall_X5_startCounts_20_st04_0 (k := 16) rfl
theorem dX5_startCounts_1 : decode cX5_startCounts 1 = .ok (.getfield 11, 3) := dchk_at dall_X5_startCounts_20_st04_0 (k := 17) rfl
theorem dX5_startCounts_4 : decode cX5_startCounts 4 = .ok (.iconst 2, 1) := dchk_at dall_X5_startCounts_20_st04_0 (k := 18) rfl
theorem dX5_startCounts_5 : decode cX5_startCounts 5 = .ok (.iload_n 1, 1) := dchk_at dall_X5_startCounts_20_st04_0 (k := 19) rfl
theorem dX5_startCounts_6 : decode cX5_startCounts 6 = .ok (.iastore, 1) := dchk_at dall_X5_startCounts_20_st04_0 (k := 20) rfl
theorem dX5_startCounts_7 : decode cX5_startCounts 7 = .ok (.aload_n 0, 1) := dchk_at dall_X5_startCounts_20_st04_0 (k := 21) rfl
theorem dX5_startCounts_8 : decode cX5_startCounts 8 = .ok (.getfield 11, 3) := dchk_at dall_X5_startCounts_20_st04_0 (k := 22) rfl
theorem dX5_startCounts_11 : decode cX5_startCounts 11 = .ok (.bipush 8, 2) := dchk_at dall_X5_startCounts_20_st04_0 (k := 23) rfl
theorem dX5_startCounts_13 : decode cX5_startCounts 13 = .ok (.iconst 0, 1) := dchk_at dall_X5_startCounts_20_st04_0 (k := 24) rfl
theorem dX5_startCounts_14 : decode cX5_startCounts 14 = .ok (.iastore, 1) := dchk_at dall_X5_startCounts_20_st04_0 (k := 25) rfl
theorem dX5_startCounts_15 : decode cX5_startCounts 15 = .ok (.aload_n 0, 1) := dchk_at dall_X5_startCounts_20_st04_0 (k := 26) rfl
theorem dX5_startCounts_16 : decode cX5_startCounts 16 = .ok (.getfield 11, 3) := dchk_at dall_X5_startCounts_20_st04_0 (k := 27) rfl
theorem dX5_startCounts_19 : decode cX5_startCounts 19 = .ok (.bipush 9, 2) := dchk_at dall_X5_startCounts_20_st04_0 (k := 28) rfl
theorem dX5_startCounts_21 : decode cX5_startCounts 21 = .ok (.iconst 0, 1) := dchk_at dall_X5_startCounts_20_st04_0 (k := 29) rfl
theorem dX5_startCounts_22 : decode cX5_startCounts 22 = .ok (.iastore, 1) := dchk_at dall_X5_startCounts_20_st04_0 (k := 30) rfl
theorem dX5_startCounts_23 : decode cX5_startCounts 23 = .ok (.aload_n 0, 1) := dchk_at dall_X5_startCounts_20_st04_0 (k := 31) rfl
theorem dX5_startCounts_24 : decode cX5_startCounts 24 = .ok (.getfield 11, 3) := dchk_at dall_X5_startCounts_20_st04_0 (k := 32) rfl
theorem dX5_startCounts_27 : decode cX5_startCounts 27 = .ok (.bipush 10, 2) := dchk_at dall_X5_startCounts_20_st04_0 (k := 33) rfl
theorem dX5_startCounts_29 : decode cX5_startCounts 29 = .ok (.iconst 0, 1) := dchk_at dall_X5_startCounts_20_st04_0 (k := 34) rfl
theorem dX5_startCounts_30 : decode cX5_startCounts 30 = .ok (.iastore, 1) := dchk_at dall_X5_startCounts_20_st04_0 (k := 35) rfl
theorem dX5_startCounts_31 : decode cX5_startCounts 31 = .ok (.iconst 0, 1) := dchk_at dall_X5_startCounts_20_st04_0 (k := 36) rfl
theorem dX5_startCounts_32 : decode cX5_startCounts 32 = .ok (.istore_n 2, 1) := dchk_at dall_X5_startCounts_20_st04_0 (k := 37) rfl
theorem dX5_startCounts_63 : decode cX5_startCounts 63 = .ok (.return_, 1) := dchk_at dall_X5_startCounts_20_st04_0 (k := 38) rfl
def J_X5_moveSite_102_r47 (K : Nat) (k0 : Int32) (x4 : Int32) (x5 : Int32) (c_row : Nat → Int32) (c_partners : Nat → Int32) (c_askedCount : Int32) (c_share : Nat → Int32) (c_leftOver : Nat → Int32) : Option ((Int32 × Int32 × (Nat → Int32) × Int32 × (Nat → Int32) × (Nat → Int32)) ⊕ (Nat × Int32 × (Nat → Int32) × Int32 × (Nat → Int32) × (Nat → Int32))) :=
  bd1 (F_X5_isFrozen k0 c_row) (fun r_15 => if r_15 = (0 : Int32) then bd2 (F_X5_noteAsked k0 c_partners c_askedCount) (fun w_19 w_20 => bd3 (F_X5_canShare K (x4 ||| ((1 : Int32) <<< (k0 &&& (31 : Int32)))) c_row c_share c_leftOver) (fun r_22 w_23 w_24 => if r_22 = (0 : Int32) then some (.inl (x4 ||| ((1 : Int32) <<< (k0 &&& (31 : Int32))), x5 + (1 : Int32), w_19, w_20, w_23, w_24)) else some (.inr (0, x4 ||| ((1 : Int32) <<< (k0 &&& (31 : Int32))), w_19, w_20, w_23, w_24)))) else some (.inl (x4, x5 + (1 : Int32), c_partners, c_askedCount, c_share, c_leftOver)))
def B_X5_moveSite_46 (K : Nat) (p1 : Int32) (c_row : Nat → Int32) (x4 : Int32) (x5 : Int32) (c_partners : Nat → Int32) (c_askedCount : Int32) (c_share : Nat → Int32) (c_leftOver : Nat → Int32) : Option ((Int32 × Int32 × (Nat → Int32) × Int32 × (Nat → Int32) × (Nat → Int32)) ⊕ (Nat × Int32 × (Nat → Int32) × Int32 × (Nat → Int32) × (Nat → Int32))) :=
  if c_row 3 ≤ x5 then some (.inr (1, x4, c_partners, c_askedCount, c_share, c_leftOver)) else if (8 : Int32) ≤ x5 then some (.inr (1, x4, c_partners, c_askedCount, c_share, c_leftOver)) else bd1 (F_X5_isAbove c_row) (fun r_10 => if r_10 = (0 : Int32) then if c_row 3 ≤ p1 + x5 then J_X5_moveSite_102_r47 K ((p1 + x5) - (c_row 3)) x4 x5 c_row c_partners c_askedCount c_share c_leftOver else J_X5_moveSite_102_r47 K (p1 + x5) x4 x5 c_row c_partners c_askedCount c_share c_leftOver else some (.inr (1, x4, c_partners, c_askedCount, c_share, c_leftOver)))
def J_X5_moveSite_153 (K : Nat) (c_row : Nat → Int32) (c_partners : Nat → Int32) (c_askedCount : Int32) (c_share : Nat → Int32) (c_leftOver : Nat → Int32) : Option (Int32 × (Nat → Int32) × (Nat → Int32) × Int32 × Int32 × (Nat → Int32) × (Nat → Int32)) :=
  bd1 (F_X5_hearAll K c_row) (fun w_39 => some ((((1 : Int32) + ((2 : Int32) * c_askedCount)) + (((w_39 3) - (1 : Int32)) - c_askedCount)) + (w_39 3), w_39, c_partners, c_askedCount, (2 : Int32), c_share, c_leftOver))
def F_X5_moveSite (K : Nat) (p1 : Int32) (p2 : Int32) (p3 : Int32) (c_row : Nat → Int32) (c_partners : Nat → Int32) (c_askedCount : Int32) (c_outcome : Int32) (c_share : Nat → Int32) (c_leftOver : Nat → Int32) : Option (Int32 × (Nat → Int32) × (Nat → Int32) × Int32 × Int32 × (Nat → Int32) × (Nat → Int32)) :=
  bd1 (F_X5_shift p1 p2 p3 c_row) (fun w_1 => bd1 (F_X5_isQuiet p1 w_1) (fun r_3 => if r_3 = (0 : Int32) then nmF (upd w_1 12 ((w_1 12) + (1 : Int32))) (fun f_7 => bd6 (lpF (fun u9 : Int32 × Int32 × (Nat → Int32) × Int32 × (Nat → Int32) × (Nat → Int32) => B_X5_moveSite_46 K p1 f_7 u9.1 u9.2.1 u9.2.2.1 u9.2.2.2.1 u9.2.2.2.2.1 u9.2.2.2.2.2) K ((1 : Int32) <<< (p1 &&& (31 : Int32)), (1 : Int32), c_partners, (0 : Int32), c_share, c_leftOver)) (fun t_28 x4_29 c_partners_30 c_askedCount_31 c_share_32 c_leftOver_33 => if t_28 = 0 then bd3 (F_X5_balance K x4_29 f_7 c_askedCount_31 (0 : Int32) c_share_32 c_leftOver_33) (fun r_35 w_36 w_37 => some (r_35, w_36, c_partners_30, c_askedCount_31, w_37, c_share_32, c_leftOver_33)) else if t_28 = 1 then J_X5_moveSite_153 K f_7 c_partners_30 c_askedCount_31 c_share_32 c_leftOver_33 else none)) else some ((0 : Int32), w_1, c_partners, (0 : Int32), (0 : Int32), c_share, c_leftOver)))
abbrev w_X5_moveSite (E : EE) (a_ a_row a_partners a_share a_leftOver : Nat) (c_askedCount : Int32) (c_outcome : Int32) (c_row : Nat → Int32) (c_partners : Nat → Int32) (c_share : Nat → Int32) (c_leftOver : Nat → Int32) : va_W := [(a_, .inr (6, [.ref a_row, .ref a_partners, .int c_askedCount, .int c_outcome, .ref a_share, .ref a_leftOver])), (a_row, .inl (E.2.1, 81, .inl c_row)), (a_partners, .inl (E.2.1, 8, .inl c_partners)), (a_share, .inl (E.2.1, 2, .inl c_share)), (a_leftOver, .inl (E.2.1, 2, .inl c_leftOver))]
def v_f_X5_moveSite : List Cond := List.cons (.code yX5_moveSite cX5_moveSite 7 (some .int)) (HAppend.hAppend (α := List Cond) (β := List Cond) (γ := List Cond) [.fieldLink RX5 18 "HushWatch$State" "askedCount" "I", .fieldLink RX5 22 "HushWatch$State" "outcome" "I", .fieldLink RX5 11 "HushWatch$State" "row" "[I", .methodLink RX5 150 yX5_shift, .instanceMethod yX5_shift, .selects RX5 yX5_shift yX5_shift, .initialized RX5, .methodLink RX5 99 yX5_isQuiet, .instanceMethod yX5_isQuiet, .selects RX5 yX5_isQuiet yX5_isQuiet, .methodLink RX5 83 yX5_isAbove, .instanceMethod yX5_isAbove, .selects RX5 yX5_isAbove yX5_isAbove, .methodLink RX5 131 yX5_isFrozen, .instanceMethod yX5_isFrozen, .selects RX5 yX5_isFrozen yX5_isFrozen, .methodLink RX5 153 yX5_noteAsked, .instanceMethod yX5_noteAsked, .selects RX5 yX5_noteAsked yX5_noteAsked, .methodLink RX5 156 yX5_canShare, .instanceMethod yX5_canShare, .selects RX5 yX5_canShare yX5_canShare, .methodLink RX5 159 yX5_balance, .instanceMethod yX5_balance, .selects RX5 yX5_balance yX5_balance, .methodLink RX5 162 yX5_hearAll, .instanceMethod yX5_hearAll, .selects RX5 yX5_hearAll yX5_hearAll] (HAppend.hAppend (α := List Cond) (β := List Cond) (γ := List Cond) wsX50 (HAppend.hAppend (α := List Cond) (β := List Cond) (γ := List Cond) v_f_X5_shift (HAppend.hAppend (α := List Cond) (β := List Cond) (γ := List Cond) v_f_X5_isQuiet (HAppend.hAppend (α := List Cond) (β := List Cond) (γ := List Cond) v_f_X5_isAbove (HAppend.hAppend (α := List Cond) (β := List Cond) (γ := List Cond) v_f_X5_isFrozen (HAppend.hAppend (α := List Cond) (β := List Cond) (γ := List Cond) v_f_X5_noteAsked (HAppend.hAppend (α := List Cond) (β := List Cond) (γ := List Cond) v_f_X5_canShare (HAppend.hAppend (α := List Cond) (β := List Cond) (γ := List Cond) v_f_X5_balance (HAppend.hAppend (α := List Cond) (β := List Cond) (γ := List Cond) v_f_X5_hearAll []))))))))))
theorem gw_f_X5_moveSite : v_f_X5_moveSite.all goodWord = true := by decide +kernel
theorem i_f_X5_moveSite_X5 : ∀ w ∈ wsX50, w ∈ v_f_X5_moveSite := fun _ h => List.mem_cons_of_mem _ (List.mem_append_right _ (List.mem_append_left _ h))
theorem g_f_X5_moveSite_f_X5_shift_150 : GoodIn v_f_X5_moveSite (wsV RX5 150 RX5 yX5_shift v_f_X5_shift) := goodIn_app (goodIn_of _ (by decide +kernel)) (goodIn_sub (fun _ h => List.mem_cons_of_mem _ (List.mem_append_right _ (List.mem_append_right _ (List.mem_append_left _ h)))) gw_f_X5_shift)
theorem g_f_X5_moveSite_f_X5_isQuiet_99 : GoodIn v_f_X5_moveSite (wsV RX5 99 RX5 yX5_isQuiet v_f_X5_isQuiet) := goodIn_app (goodIn_of _ (by decide +kernel)) (goodIn_sub (fun _ h => List.mem_cons_of_mem _ (List.mem_append_right _ (List.mem_append_right _ (List.mem_append_right _ (List.mem_append_left _ h))))) gw_f_X5_isQuiet)
theorem g_f_X5_moveSite_f_X5_isAbove_83 : GoodIn v_f_X5_moveSite (wsV RX5 83 RX5 yX5_isAbove v_f_X5_isAbove) := goodIn_app (goodIn_of _ (by decide +kernel)) (goodIn_sub (fun _ h => List.mem_cons_of_mem _ (List.mem_append_right _ (List.mem_append_right _ (List.mem_append_right _ (List.mem_append_right _ (List.mem_append_left _ h)))))) gw_f_X5_isAbove)
theorem g_f_X5_moveSite_f_X5_isFrozen_131 : GoodIn v_f_X5_moveSite (wsV RX5 131 RX5 yX5_isFrozen v_f_X5_isFrozen) := goodIn_app (goodIn_of _ (by decide +kernel)) (goodIn_sub (fun _ h => List.mem_cons_of_mem _ (List.mem_append_right _ (List.mem_append_right _ (List.mem_append_right _ (List.mem_append_right _ (List.mem_append_right _ (List.mem_append_left _ h))))))) gw_f_X5_isFrozen)
theorem g_f_X5_moveSite_f_X5_noteAsked_153 : GoodIn v_f_X5_moveSite (wsV RX5 153 RX5 yX5_noteAsked v_f_X5_noteAsked) := goodIn_app (goodIn_of _ (by decide +kernel)) (goodIn_sub (fun _ h => List.mem_cons_of_mem _ (List.mem_append_right _ (List.mem_append_right _ (List.mem_append_right _ (List.mem_append_right _ (List.mem_append_right _ (List.mem_append_right _ (List.mem_append_left _ h)))))))) gw_f_X5_noteAsked)
theorem g_f_X5_moveSite_f_X5_canShare_156 : GoodIn v_f_X5_moveSite (wsV RX5 156 RX5 yX5_canShare v_f_X5_canShare) := goodIn_app (goodIn_of _ (by decide +kernel)) (goodIn_sub (fun _ h => List.mem_cons_of_mem _ (List.mem_append_right _ (List.mem_append_right _ (List.mem_append_right _ (List.mem_append_right _ (List.mem_append_right _ (List.mem_append_right _ (List.mem_append_right _ (List.mem_append_left _ h))))))))) gw_f_X5_canShare)
theorem g_f_X5_moveSite_f_X5_balance_159 : GoodIn v_f_X5_moveSite (wsV RX5 159 RX5 yX5_balance v_f_X5_balance) := goodIn_app (goodIn_of _ (by decide +kernel)) (goodIn_sub (fun _ h => List.mem_cons_of_mem _ (List.mem_append_right _ (List.mem_append_right _ (List.mem_append_right _ (List.mem_append_right _ (List.mem_append_right _ (List.mem_append_right _ (List.mem_append_right _ (List.mem_append_right _ (List.mem_append_left _ h)))))))))) gw_f_X5_balance)
theorem g_f_X5_moveSite_f_X5_hearAll_162 : GoodIn v_f_X5_moveSite (wsV RX5 162 RX5 yX5_hearAll v_f_X5_hearAll) := goodIn_app (goodIn_of _ (by decide +kernel)) (goodIn_sub (fun _ h => List.mem_cons_of_mem _ (List.mem_append_right _ (List.mem_append_right _ (List.mem_append_right _ (List.mem_append_right _ (List.mem_append_right _ (List.mem_append_right _ (List.mem_append_right _ (List.mem_append_right _ (List.mem_append_right _ (List.mem_append_left _ h))))))))))) gw_f_X5_hearAll)
theorem hd_X5_moveSite : yX5_moveSite.cls = RX5 ∧ yX5_moveSite.cls ≠ "java/lang/invoke/MethodHandle" ∧ yX5_moveSite.cls ≠ "java/lang/invoke/VarHandle" ∧ (parseMethodDescriptor yX5_moveSite.desc).map (fun d => d.parameters.length) = some 3 := by decide +kernel
set_option maxHeartbeats 4000000 in
set_option maxRecDepth 100000 in
theorem j_X5_moveSite_102_r47 {p : Program} (l : Launch) {e : Env} {s : State} {m : MethodId} {below : List Frame} {meth : Method} {c : Code} {Q : State → Prop} (E : EE) (K : Nat) {a_ a_row a_partners a_share a_leftOver : Nat} {p1 : Int32} {p2 : Int32} {p3 : Int32} {k0 : Int32} {x4 : Int32} {x5 : Int32} {c_row : Nat → Int32} {c_partners : Nat → Int32} {c_askedCount : Int32} {c_outcome : Int32} {c_share : Nat → Int32} {c_leftOver : Nat → Int32} (hx : p.tables.exec = Jvm.exec) (hb : c.code = cX5_moveSite) (hml : c.maxLocals = 7) (hown : s.vm.findClass RX5 = some m.cls) (hts : ∀ w ∈ v_f_X5_moveSite, w.before #[Value.ref a_, Value.int p1, Value.int p2, Value.int p3] s = true) (hK : va_K E.1 vwCl (TY E) s) (hN : NX s) {A : Nat → Prop} (hA : ∀ q : Nat, s.heap.size ≤ q → A q) {xx : (Int32 × Int32 × (Nat → Int32) × Int32 × (Nat → Int32) × (Nat → Int32)) ⊕ (Nat × Int32 × (Nat → Int32) × Int32 × (Nat → Int32) × (Nat → Int32))} (hC : ∀ (x4 : Int32), ∀ (x5 : Int32), ∀ (c_partners : Nat → Int32), ∀ (c_askedCount : Int32), ∀ (c_share : Nat → Int32), ∀ (c_leftOver : Nat → Int32), xx = .inl (x4, x5, c_partners, c_askedCount, c_share, c_leftOver) → ∀ (H : Heap) (locs : List Loc) (ls : Array Slot), va_P E.1 vwCl (w_X5_moveSite E a_ a_row a_partners a_share a_leftOver c_askedCount c_outcome c_row c_partners c_share c_leftOver) H → va_D A (w_X5_moveSite E a_ a_row a_partners a_share a_leftOver c_askedCount c_outcome c_row c_partners c_share c_leftOver) → va_S A s.heap H locs → lv_has ls 7 [(0, .ref a_), (1, .int p1), (4, .int x4), (5, .int x5)] → W p l e ({ frames := 3, cells := 0, slots := 0, locals := 73 } : Room) s m #[Value.ref a_, Value.int p1, Value.int p2, Value.int p3] below meth c H locs 0 0 Q (F0 m 46 ls [])) (hE : ∀ (t9 : Nat), ∀ (x4 : Int32), ∀ (c_partners : Nat → Int32), ∀ (c_askedCount : Int32), ∀ (c_share : Nat → Int32), ∀ (c_leftOver : Nat → Int32), xx = .inr (t9, x4, c_partners, c_askedCount, c_share, c_leftOver) → ((t9 = 0 → ∀ (H : Heap) (locs : List Loc) (ls : Array Slot), va_P E.1 vwCl (w_X5_moveSite E a_ a_row a_partners a_share a_leftOver c_askedCount c_outcome c_row c_partners c_share c_leftOver) H → va_D A (w_X5_moveSite E a_ a_row a_partners a_share a_leftOver c_askedCount c_outcome c_row c_partners c_share c_leftOver) → va_S A s.heap H locs → lv_has ls 7 [(0, .ref a_), (4, .int x4)] → W p l e ({ frames := 3, cells := 0, slots := 0, locals := 73 } : Room) s m #[Value.ref a_, Value.int p1, Value.int p2, Value.int p3] below meth c H locs 0 0 Q (F0 m 140 ls [])) ∧ (t9 = 1 → ∀ (H : Heap) (locs : List Loc) (ls : Array Slot), va_P E.1 vwCl (w_X5_moveSite E a_ a_row a_partners a_share a_leftOver c_askedCount c_outcome c_row c_partners c_share c_leftOver) H → va_D A (w_X5_moveSite E a_ a_row a_partners a_share a_leftOver c_askedCount c_outcome c_row c_partners c_share c_leftOver) → va_S A s.heap H locs → lv_has ls 7 [(0, .ref a_)] → W p l e ({ frames := 3, cells := 0, slots := 0, locals := 73 } : Room) s m #[Value.ref a_, Value.int p1, Value.int p2, Value.int p3] below meth c H locs 0 0 Q (F0 m 153 ls [])))) (hF : J_X5_moveSite_102_r47 K k0 x4 x5 c_row c_partners c_askedCount c_share c_leftOver = some xx) : ∀ (H : Heap) (locs : List Loc) (ls : Array Slot), va_P E.1 vwCl (w_X5_moveSite E a_ a_row a_partners a_share a_leftOver c_askedCount c_outcome c_row c_partners c_share c_leftOver) H → va_D A (w_X5_moveSite E a_ a_row a_partners a_share a_leftOver c_askedCount c_outcome c_row c_partners c_share c_leftOver) → va_S A s.heap H locs → lv_has ls 7 [(0, .ref a_), (1, .int p1), (4, .int x4), (5, .int x5)] → W p l e ({ frames := 3, cells := 0, slots := 0, locals := 73 } : Room) s m #[Value.ref a_, Value.int p1, Value.int p2, Value.int p3] below meth c H locs 0 0 Q (F0 m 102 ls [.int k0]) := by
  unfold J_X5_moveSite_102_r47 at hF
  intro H locs ls hP hD hS hl
  replace hP : va_P E.1 vwCl [(a_, .inr (6, [.ref a_row, .ref a_partners, .int c_askedCount, .int c_outcome, .ref a_share, .ref a_leftOver])), (a_row, .inl (E.2.1, 81, .inl c_row)), (a_partners, .inl (E.2.1, 8, .inl c_partners)), (a_share, .inl (E.2.1, 2, .inl c_share)), (a_leftOver, .inl (E.2.1, 2, .inl c_leftOver))] H := hP
  replace hD : va_D A [(a_, .inr (6, [.ref a_row, .ref a_partners, .int c_askedCount, .int c_outcome, .ref a_share, .ref a_leftOver])), (a_row, .inl (E.2.1, 81, .inl c_row)), (a_partners, .inl (E.2.1, 8, .inl c_partners)), (a_share, .inl (E.2.1, 2, .inl c_share)), (a_leftOver, .inl (E.2.1, 2, .inl c_leftOver))] := hD
  refine lv_istore (lv' := [(6, .int k0), (0, .ref a_), (1, .int p1), (4, .int x4), (5, .int x5)]) hx hb dX5_moveSite_102 hl (by decide) rfl (fun ls hl => ?_)
  refine lv_aload_n hx hb dX5_moveSite_104 rfl (lv_at hl 1 rfl) ?_
  refine lv_iload hx hb dX5_moveSite_105 (lv_at hl 0 rfl) ?_
  replace hF := bd1_s hF
  obtain ⟨r_15, hc_16, hF⟩ := hF
  have hPc : va_P E.1 vwCl (w_X5_isFrozen E a_ a_row a_partners a_share a_leftOver c_askedCount c_outcome c_row) H := hP.sub (ws' := [(a_, .inr (6, [.ref a_row, .ref a_partners, .int c_askedCount, .int c_outcome, .ref a_share, .ref a_leftOver])), (a_row, .inl (E.2.1, 81, .inl c_row))]) [0, 1] rfl
  have hrc := va_recv hK hPc (ci := 6) (q0 := 0) rfl rfl
  refine pE_z (va_runV (As := [.int k0]) (rest := [])  ⟨hx, hb, hml, hown, hts⟩ (f_X5_isFrozen l E (a_ := a_) (a_row := a_row) (a_partners := a_partners) (a_share := a_share) (a_leftOver := a_leftOver) (p1 := k0) (c_askedCount := c_askedCount) (c_outcome := c_outcome) (c_row := c_row) hc_16) (cwV 1 hts g_f_X5_moveSite_f_X5_isFrozen_131 rfl rfl rfl hd_X5_isFrozen ⟨Nat.le_of_ble_eq_true rfl, Nat.le_of_ble_eq_true rfl⟩) ⟨pP.blind, hrc, (pP.pre ⟨hK, hN⟩ hPc)⟩ rfl rfl hl.1 rfl (lv_room (Nat.le_of_ble_eq_true rfl)) dX5_moveSite_107 ⟨Nat.le_of_ble_eq_true rfl, Nat.le_of_ble_eq_true rfl⟩) (fun hb_17 => ?_)
  refine lv_if_eq (tgt := 116) hx hb dX5_moveSite_110 (by decide) (fun c_18 => ?_) (fun c_18 => ?_)
  ·
    replace hF := ip c_18 hF
    refine lv_aload_n hx hb dX5_moveSite_116 rfl (lv_at hl 1 rfl) ?_
    refine lv_iload hx hb dX5_moveSite_117 (lv_at hl 0 rfl) ?_
    replace hF := bd2_s hF
    obtain ⟨w_19, w_20, hc_21, hF⟩ := hF
    obtain ⟨hPc, hDc, hFc⟩ := wcut (wc := (w_X5_noteAsked E a_ a_row a_partners a_share a_leftOver c_askedCount c_outcome c_partners)) hP hD hS hA [0, 2] (by decide) rfl
    have hrc := va_recv hK hPc (ci := 6) (q0 := 0) rfl rfl
    refine cE_v (wc := (w_X5_noteAsked E a_ a_row a_partners a_share a_leftOver c_askedCount c_outcome c_partners)) (wr := [(a_row, .inl (E.2.1, 81, .inl c_row)), (a_share, .inl (E.2.1, 2, .inl c_share)), (a_leftOver, .inl (E.2.1, 2, .inl c_leftOver))]) (w1 := (w_X5_noteAsked E a_ a_row a_partners a_share a_leftOver w_20 c_outcome w_19)) (va_runV (As := [.int k0]) (rest := [])  ⟨hx, hb, hml, hown, hts⟩ (f_X5_noteAsked l E H.size (a_ := a_) (a_row := a_row) (a_partners := a_partners) (a_share := a_share) (a_leftOver := a_leftOver) (p1 := k0) (c_askedCount := c_askedCount) (c_outcome := c_outcome) (c_partners := c_partners) hc_21) (cwV 1 hts g_f_X5_moveSite_f_X5_noteAsked_153 rfl rfl rfl hd_X5_noteAsked ⟨Nat.le_of_ble_eq_true rfl, Nat.le_of_ble_eq_true rfl⟩) ⟨pW.blind, hrc, (pW.pre ⟨hK, hN⟩ hPc hDc)⟩ rfl rfl hl.1 rfl (lv_room (Nat.le_of_ble_eq_true rfl)) dX5_moveSite_119 ⟨Nat.le_of_ble_eq_true rfl, Nat.le_of_ble_eq_true rfl⟩) hS hFc hP hD [0, 2] [1, 3, 4] rfl rfl (by decide) (by decide) (fun H locs hP hD hS => ?_)
    replace hP : va_P E.1 vwCl [(a_row, .inl (E.2.1, 81, .inl c_row)), (a_share, .inl (E.2.1, 2, .inl c_share)), (a_leftOver, .inl (E.2.1, 2, .inl c_leftOver)), (a_, .inr (6, [.ref a_row, .ref a_partners, .int w_20, .int c_outcome, .ref a_share, .ref a_leftOver])), (a_partners, .inl (E.2.1, 8, .inl w_19))] H := hP
    replace hD : va_D A [(a_row, .inl (E.2.1, 81, .inl c_row)), (a_share, .inl (E.2.1, 2, .inl c_share)), (a_leftOver, .inl (E.2.1, 2, .inl c_leftOver)), (a_, .inr (6, [.ref a_row, .ref a_partners, .int w_20, .int c_outcome, .ref a_share, .ref a_leftOver])), (a_partners, .inl (E.2.1, 8, .inl w_19))] := hD
    refine lv_iload hx hb dX5_moveSite_122 (lv_at hl 3 rfl) ?_
    refine lv_iconst (v := 1) hx hb dX5_moveSite_124 (by decide) ?_
    refine lv_iload hx hb dX5_moveSite_125 (lv_at hl 0 rfl) ?_
    refine lv_ishl hx hb dX5_moveSite_127 ?_
    refine lv_ior hx hb dX5_moveSite_128 ?_
    refine lv_istore (lv' := [(4, .int (x4 ||| ((1 : Int32) <<< (k0 &&& (31 : Int32))))), (6, .int k0), (0, .ref a_), (1, .int p1), (5, .int x5)]) hx hb dX5_moveSite_129 hl (by decide) rfl (fun ls hl => ?_)
    refine lv_aload_n hx hb dX5_moveSite_131 rfl (lv_at hl 2 rfl) ?_
    refine lv_iload hx hb dX5_moveSite_132 (lv_at hl 0 rfl) ?_
    replace hF := bd3_s hF
    obtain ⟨r_22, w_23, w_24, hc_25, hF⟩ := hF
    obtain ⟨hPc, hDc, hFc⟩ := wcut (wc := (w_X5_canShare E a_ a_row a_partners a_share a_leftOver w_20 c_outcome c_row c_share c_leftOver)) hP hD hS hA [3, 0, 1, 2] (by decide) rfl
    have hrc := va_recv hK hPc (ci := 6) (q0 := 0) rfl rfl
    refine cE_z (wc := (w_X5_canShare E a_ a_row a_partners a_share a_leftOver w_20 c_outcome c_row c_share c_leftOver)) (wr := [(a_partners, .inl (E.2.1, 8, .inl w_19))]) (w1 := (w_X5_canShare E a_ a_row a_partners a_share a_leftOver w_20 c_outcome c_row w_23 w_24)) (va_runV (As := [.int (x4 ||| ((1 : Int32) <<< (k0 &&& (31 : Int32))))]) (rest := [])  ⟨hx, hb, hml, hown, hts⟩ (f_X5_canShare l E H.size K (a_ := a_) (a_row := a_row) (a_partners := a_partners) (a_share := a_share) (a_leftOver := a_leftOver) (p1 := x4 ||| ((1 : Int32) <<< (k0 &&& (31 : Int32)))) (c_askedCount := w_20) (c_outcome := c_outcome) (c_row := c_row) (c_share := c_share) (c_leftOver := c_leftOver) hc_25) (cwV 1 hts g_f_X5_moveSite_f_X5_canShare_156 rfl rfl rfl hd_X5_canShare ⟨Nat.le_of_ble_eq_true rfl, Nat.le_of_ble_eq_true rfl⟩) ⟨pW.blind, hrc, (pW.pre ⟨hK, hN⟩ hPc hDc)⟩ rfl rfl hl.1 rfl (lv_room (Nat.le_of_ble_eq_true rfl)) dX5_moveSite_134 ⟨Nat.le_of_ble_eq_true rfl, Nat.le_of_ble_eq_true rfl⟩) hS hFc hP hD [3, 0, 1, 2] [4] rfl rfl (by decide) (by decide) (fun hb_26 H locs hP hD hS => ?_)
    replace hP : va_P E.1 vwCl [(a_partners, .inl (E.2.1, 8, .inl w_19)), (a_, .inr (6, [.ref a_row, .ref a_partners, .int w_20, .int c_outcome, .ref a_share, .ref a_leftOver])), (a_row, .inl (E.2.1, 81, .inl c_row)), (a_share, .inl (E.2.1, 2, .inl w_23)), (a_leftOver, .inl (E.2.1, 2, .inl w_24))] H := hP
    replace hD : va_D A [(a_partners, .inl (E.2.1, 8, .inl w_19)), (a_, .inr (6, [.ref a_row, .ref a_partners, .int w_20, .int c_outcome, .ref a_share, .ref a_leftOver])), (a_row, .inl (E.2.1, 81, .inl c_row)), (a_share, .inl (E.2.1, 2, .inl w_23)), (a_leftOver, .inl (E.2.1, 2, .inl w_24))] := hD
    refine lv_if_eq (tgt := 147) hx hb dX5_moveSite_137 (by decide) (fun c_27 => ?_) (fun c_27 => ?_)
    ·
      replace hF := ip c_27 hF
      refine lv_iinc (v := x5 + (1 : Int32)) (lv' := [(5, .int (x5 + (1 : Int32))), (4, .int (x4 ||| ((1 : Int32) <<< (k0 &&& (31 : Int32))))), (6, .int k0), (0, .ref a_), (1, .int p1)]) hx hb dX5_moveSite_147 hl (k := 4) rfl (rfl) (by decide) rfl (fun ls hl => ?_)
      refine lv_goto (tgt := 46) hx hb dX5_moveSite_150 (by decide) ?_
      cases hF
      exact hC (x4 ||| ((1 : Int32) <<< (k0 &&& (31 : Int32)))) (x5 + (1 : Int32)) w_19 w_20 w_23 w_24 rfl H locs ls (hP.sub [1, 2, 0, 3, 4] rfl) (hD.sub [1, 2, 0, 3, 4] (by decide) rfl) hS (lv_sub hl [3, 4, 1, 0] rfl)
    ·
      replace hF := inn c_27 hF
      cases hF
      exact (hE 0 (x4 ||| ((1 : Int32) <<< (k0 &&& (31 : Int32)))) w_19 w_20 w_23 w_24 rfl).1 rfl H locs ls (hP.sub [1, 2, 0, 3, 4] rfl) (hD.sub [1, 2, 0, 3, 4] (by decide) rfl) hS (lv_sub hl [2, 0] rfl)
  ·
    replace hF := inn c_18 hF
    refine lv_goto (tgt := 147) hx hb dX5_moveSite_113 (by decide) ?_
    refine lv_iinc (v := x5 + (1 : Int32)) (lv' := [(5, .int (x5 + (1 : Int32))), (6, .int k0), (0, .ref a_), (1, .int p1), (4, .int x4)]) hx hb dX5_moveSite_147 hl (k := 4) rfl (rfl) (by decide) rfl (fun ls hl => ?_)
    refine lv_goto (tgt := 46) hx hb dX5_moveSite_150 (by decide) ?_
    cases hF
    exact hC x4 (x5 + (1 : Int32)) c_partners c_askedCount c_share c_leftOver rfl H locs ls (hP.sub [0, 1, 2, 3, 4] rfl) (hD.sub [0, 1, 2, 3, 4] (by decide) rfl) hS (lv_sub hl [2, 3, 4, 0] rfl)

set_option maxHeartbeats 4000000 in
set_option maxRecDepth 100000 in
theorem wb_X5_moveSite_46 {p : Program} (l : Launch) {e : Env} {s : State} {m : MethodId} {below : List Frame} {meth : Method} {c : Code} {Q : State → Prop} (E : EE) (K : Nat) {a_ a_row a_partners a_share a_leftOver : Nat} {p1 : Int32} {p2 : Int32} {p3 : Int32} {x4 : Int32} {x5 : Int32} {c_row : Nat → Int32} {c_partners : Nat → Int32} {c_askedCount : Int32} {c_outcome : Int32} {c_share : Nat → Int32} {c_leftOver : Nat → Int32} (hx : p.tables.exec = Jvm.exec) (hb : c.code = cX5_moveSite) (hml : c.maxLocals = 7) (hown : s.vm.findClass RX5 = some m.cls) (hts : ∀ w ∈ v_f_X5_moveSite, w.before #[Value.ref a_, Value.int p1, Value.int p2, Value.int p3] s = true) (hK : va_K E.1 vwCl (TY E) s) (hN : NX s) {A : Nat → Prop} (hA : ∀ q : Nat, s.heap.size ≤ q → A q) {xx : (Int32 × Int32 × (Nat → Int32) × Int32 × (Nat → Int32) × (Nat → Int32)) ⊕ (Nat × Int32 × (Nat → Int32) × Int32 × (Nat → Int32) × (Nat → Int32))} (hC : ∀ (x4 : Int32), ∀ (x5 : Int32), ∀ (c_partners : Nat → Int32), ∀ (c_askedCount : Int32), ∀ (c_share : Nat → Int32), ∀ (c_leftOver : Nat → Int32), xx = .inl (x4, x5, c_partners, c_askedCount, c_share, c_leftOver) → ∀ (H : Heap) (locs : List Loc) (ls : Array Slot), va_P E.1 vwCl (w_X5_moveSite E a_ a_row a_partners a_share a_leftOver c_askedCount c_outcome c_row c_partners c_share c_leftOver) H → va_D A (w_X5_moveSite E a_ a_row a_partners a_share a_leftOver c_askedCount c_outcome c_row c_partners c_share c_leftOver) → va_S A s.heap H locs → lv_has ls 7 [(0, .ref a_), (1, .int p1), (4, .int x4), (5, .int x5)] → W p l e ({ frames := 3, cells := 0, slots := 0, locals := 73 } : Room) s m #[Value.ref a_, Value.int p1, Value.int p2, Value.int p3] below meth c H locs 0 0 Q (F0 m 46 ls [])) (hE : ∀ (t9 : Nat), ∀ (x4 : Int32), ∀ (c_partners : Nat → Int32), ∀ (c_askedCount : Int32), ∀ (c_share : Nat → Int32), ∀ (c_leftOver : Nat → Int32), xx = .inr (t9, x4, c_partners, c_askedCount, c_share, c_leftOver) → ((t9 = 0 → ∀ (H : Heap) (locs : List Loc) (ls : Array Slot), va_P E.1 vwCl (w_X5_moveSite E a_ a_row a_partners a_share a_leftOver c_askedCount c_outcome c_row c_partners c_share c_leftOver) H → va_D A (w_X5_moveSite E a_ a_row a_partners a_share a_leftOver c_askedCount c_outcome c_row c_partners c_share c_leftOver) → va_S A s.heap H locs → lv_has ls 7 [(0, .ref a_), (4, .int x4)] → W p l e ({ frames := 3, cells := 0, slots := 0, locals := 73 } : Room) s m #[Value.ref a_, Value.int p1, Value.int p2, Value.int p3] below meth c H locs 0 0 Q (F0 m 140 ls [])) ∧ (t9 = 1 → ∀ (H : Heap) (locs : List Loc) (ls : Array Slot), va_P E.1 vwCl (w_X5_moveSite E a_ a_row a_partners a_share a_leftOver c_askedCount c_outcome c_row c_partners c_share c_leftOver) H → va_D A (w_X5_moveSite E a_ a_row a_partners a_share a_leftOver c_askedCount c_outcome c_row c_partners c_share c_leftOver) → va_S A s.heap H locs → lv_has ls 7 [(0, .ref a_)] → W p l e ({ frames := 3, cells := 0, slots := 0, locals := 73 } : Room) s m #[Value.ref a_, Value.int p1, Value.int p2, Value.int p3] below meth c H locs 0 0 Q (F0 m 153 ls [])))) (hF : B_X5_moveSite_46 K p1 c_row x4 x5 c_partners c_askedCount c_share c_leftOver = some xx) : ∀ (H : Heap) (locs : List Loc) (ls : Array Slot), va_P E.1 vwCl (w_X5_moveSite E a_ a_row a_partners a_share a_leftOver c_askedCount c_outcome c_row c_partners c_share c_leftOver) H → va_D A (w_X5_moveSite E a_ a_row a_partners a_share a_leftOver c_askedCount c_outcome c_row c_partners c_share c_leftOver) → va_S A s.heap H locs → lv_has ls 7 [(0, .ref a_), (1, .int p1), (4, .int x4), (5, .int x5)] → W p l e ({ frames := 3, cells := 0, slots := 0, locals := 73 } : Room) s m #[Value.ref a_, Value.int p1, Value.int p2, Value.int p3] below meth c H locs 0 0 Q (F0 m 46 ls []) := by
  unfold B_X5_moveSite_46 at hF
  intro H locs ls hP hD hS hl
  replace hP : va_P E.1 vwCl [(a_, .inr (6, [.ref a_row, .ref a_partners, .int c_askedCount, .int c_outcome, .ref a_share, .ref a_leftOver])), (a_row, .inl (E.2.1, 81, .inl c_row)), (a_partners, .inl (E.2.1, 8, .inl c_partners)), (a_share, .inl (E.2.1, 2, .inl c_share)), (a_leftOver, .inl (E.2.1, 2, .inl c_leftOver))] H := hP
  replace hD : va_D A [(a_, .inr (6, [.ref a_row, .ref a_partners, .int c_askedCount, .int c_outcome, .ref a_share, .ref a_leftOver])), (a_row, .inl (E.2.1, 81, .inl c_row)), (a_partners, .inl (E.2.1, 8, .inl c_partners)), (a_share, .inl (E.2.1, 2, .inl c_share)), (a_leftOver, .inl (E.2.1, 2, .inl c_leftOver))] := hD
  refine lv_iload hx hb dX5_moveSite_46 (lv_at hl 3 rfl) ?_
  refine lv_aload_n hx hb dX5_moveSite_48 rfl (lv_at hl 0 rfl) ?_
  refine gt_X5_0 (v := .ref a_row) hx hb hts i_f_X5_moveSite_X5 hown hK hP 0 rfl (hts (.fieldLink RX5 11 "HushWatch$State" "row" "[I") (List.mem_of_getElem? (i := 3) rfl)) rfl dX5_moveSite_49 ?_
  refine lv_iconst (v := 3) hx hb dX5_moveSite_52 (by decide) ?_
  refine va_iald hx hb hK hP 1 0 rfl rfl (vin rfl) dX5_moveSite_53 ?_
  refine W.eq (g2 := F0 m 54 ls [.int (c_row 3), .int x5]) rfl ?_
  refine lv_icmp_ge (tgt := 153) hx hb dX5_moveSite_54 (by decide) (fun c_8 => ?_) (fun c_8 => ?_)
  ·
    replace hF := ip c_8 hF
    cases hF
    exact (hE 1 x4 c_partners c_askedCount c_share c_leftOver rfl).2 rfl H locs ls (hP.sub [0, 1, 2, 3, 4] rfl) (hD.sub [0, 1, 2, 3, 4] (by decide) rfl) hS (lv_sub hl [0] rfl)
  ·
    replace hF := inn c_8 hF
    refine lv_iload hx hb dX5_moveSite_57 (lv_at hl 3 rfl) ?_
    refine lv_bipush (v := 8) hx hb dX5_moveSite_59 (by decide) ?_
    refine lv_icmp_ge (tgt := 153) hx hb dX5_moveSite_61 (by decide) (fun c_9 => ?_) (fun c_9 => ?_)
    ·
      replace hF := ip c_9 hF
      cases hF
      exact (hE 1 x4 c_partners c_askedCount c_share c_leftOver rfl).2 rfl H locs ls (hP.sub [0, 1, 2, 3, 4] rfl) (hD.sub [0, 1, 2, 3, 4] (by decide) rfl) hS (lv_sub hl [0] rfl)
    ·
      replace hF := inn c_9 hF
      refine lv_aload_n hx hb dX5_moveSite_64 rfl (lv_at hl 0 rfl) ?_
      replace hF := bd1_s hF
      obtain ⟨r_10, hc_11, hF⟩ := hF
      have hPc : va_P E.1 vwCl (w_X5_isAbove E a_ a_row a_partners a_share a_leftOver c_askedCount c_outcome c_row) H := hP.sub (ws' := [(a_, .inr (6, [.ref a_row, .ref a_partners, .int c_askedCount, .int c_outcome, .ref a_share, .ref a_leftOver])), (a_row, .inl (E.2.1, 81, .inl c_row))]) [0, 1] rfl
      have hrc := va_recv hK hPc (ci := 6) (q0 := 0) rfl rfl
      refine pE_z (va_runV (As := []) (rest := [])  ⟨hx, hb, hml, hown, hts⟩ (f_X5_isAbove l E (a_ := a_) (a_row := a_row) (a_partners := a_partners) (a_share := a_share) (a_leftOver := a_leftOver) (c_askedCount := c_askedCount) (c_outcome := c_outcome) (c_row := c_row) hc_11) (cwV 0 hts g_f_X5_moveSite_f_X5_isAbove_83 rfl rfl rfl hd_X5_isAbove ⟨Nat.le_of_ble_eq_true rfl, Nat.le_of_ble_eq_true rfl⟩) ⟨pP.blind, hrc, (pP.pre ⟨hK, hN⟩ hPc)⟩ rfl rfl hl.1 rfl (lv_room (Nat.le_of_ble_eq_true rfl)) dX5_moveSite_65 ⟨Nat.le_of_ble_eq_true rfl, Nat.le_of_ble_eq_true rfl⟩) (fun hb_12 => ?_)
      refine lv_if_ne (tgt := 153) hx hb dX5_moveSite_68 (by decide) (fun c_13 => ?_) (fun c_13 => ?_)
      ·
        replace hF := inn c_13 hF
        cases hF
        exact (hE 1 x4 c_partners c_askedCount c_share c_leftOver rfl).2 rfl H locs ls (hP.sub [0, 1, 2, 3, 4] rfl) (hD.sub [0, 1, 2, 3, 4] (by decide) rfl) hS (lv_sub hl [0] rfl)
      ·
        replace hF := ip c_13 hF
        refine lv_iload_n hx hb dX5_moveSite_71 rfl (lv_at hl 1 rfl) ?_
        refine lv_iload hx hb dX5_moveSite_72 (lv_at hl 3 rfl) ?_
        refine lv_iadd hx hb dX5_moveSite_74 ?_
        refine lv_aload_n hx hb dX5_moveSite_75 rfl (lv_at hl 0 rfl) ?_
        refine gt_X5_0 (v := .ref a_row) hx hb hts i_f_X5_moveSite_X5 hown hK hP 0 rfl (hts (.fieldLink RX5 11 "HushWatch$State" "row" "[I") (List.mem_of_getElem? (i := 3) rfl)) rfl dX5_moveSite_76 ?_
        refine lv_iconst (v := 3) hx hb dX5_moveSite_79 (by decide) ?_
        refine va_iald hx hb hK hP 1 0 rfl rfl (vin rfl) dX5_moveSite_80 ?_
        refine W.eq (g2 := F0 m 81 ls [.int (c_row 3), .int (p1 + x5)]) rfl ?_
        refine lv_icmp_ge (tgt := 91) hx hb dX5_moveSite_81 (by decide) (fun c_14 => ?_) (fun c_14 => ?_)
        ·
          replace hF := ip c_14 hF
          refine lv_iload_n hx hb dX5_moveSite_91 rfl (lv_at hl 1 rfl) ?_
          refine lv_iload hx hb dX5_moveSite_92 (lv_at hl 3 rfl) ?_
          refine lv_iadd hx hb dX5_moveSite_94 ?_
          refine lv_aload_n hx hb dX5_moveSite_95 rfl (lv_at hl 0 rfl) ?_
          refine gt_X5_0 (v := .ref a_row) hx hb hts i_f_X5_moveSite_X5 hown hK hP 0 rfl (hts (.fieldLink RX5 11 "HushWatch$State" "row" "[I") (List.mem_of_getElem? (i := 3) rfl)) rfl dX5_moveSite_96 ?_
          refine lv_iconst (v := 3) hx hb dX5_moveSite_99 (by decide) ?_
          refine va_iald hx hb hK hP 1 0 rfl rfl (vin rfl) dX5_moveSite_100 ?_
          refine W.eq (g2 := F0 m 101 ls [.int (c_row 3), .int (p1 + x5)]) rfl ?_
          refine lv_isub hx hb dX5_moveSite_101 ?_
          exact j_X5_moveSite_102_r47 l E K (p1 := p1) (p2 := p2) (p3 := p3) (k0 := (p1 + x5) - (c_row 3)) (x4 := x4) (x5 := x5) (c_row := c_row) (c_partners := c_partners) (c_askedCount := c_askedCount) (c_outcome := c_outcome) (c_share := c_share) (c_leftOver := c_leftOver) hx hb hml hown hts hK hN hA hC hE hF H locs ls (hP.sub [0, 1, 2, 3, 4] rfl) (hD.sub [0, 1, 2, 3, 4] (by decide) rfl) hS (lv_sub hl [0, 1, 2, 3] rfl)
        ·
          replace hF := inn c_14 hF
          refine lv_iload_n hx hb dX5_moveSite_84 rfl (lv_at hl 1 rfl) ?_
          refine lv_iload hx hb dX5_moveSite_85 (lv_at hl 3 rfl) ?_
          refine lv_iadd hx hb dX5_moveSite_87 ?_
          refine lv_goto (tgt := 102) hx hb dX5_moveSite_88 (by decide) ?_
          exact j_X5_moveSite_102_r47 l E K (p1 := p1) (p2 := p2) (p3 := p3) (k0 := p1 + x5) (x4 := x4) (x5 := x5) (c_row := c_row) (c_partners := c_partners) (c_askedCount := c_askedCount) (c_outcome := c_outcome) (c_share := c_share) (c_leftOver := c_leftOver) hx hb hml hown hts hK hN hA hC hE hF H locs ls (hP.sub [0, 1, 2, 3, 4] rfl) (hD.sub [0, 1, 2, 3, 4] (by decide) rfl) hS (lv_sub hl [0, 1, 2, 3] rfl)

set_option maxHeartbeats 4000000 in
set_option maxRecDepth 100000 in
theorem lw_X5_moveSite_46 {p : Program} (l : Launch) {e : Env} {s : State} {m : MethodId} {below : List Frame} {meth : Method} {c : Code} {Q : State → Prop} (E : EE) (K : Nat) {a_ a_row a_partners a_share a_leftOver : Nat} {p1 : Int32} {p2 : Int32} {p3 : Int32} {c_row : Nat → Int32} {c_outcome : Int32} (hx : p.tables.exec = Jvm.exec) (hb : c.code = cX5_moveSite) (hml : c.maxLocals = 7) (hown : s.vm.findClass RX5 = some m.cls) (hts : ∀ w ∈ v_f_X5_moveSite, w.before #[Value.ref a_, Value.int p1, Value.int p2, Value.int p3] s = true) (hK : va_K E.1 vwCl (TY E) s) (hN : NX s) {A : Nat → Prop} (hA : ∀ q : Nat, s.heap.size ≤ q → A q) (j9 : Nat) (x4 : Int32) (x5 : Int32) (c_partners : Nat → Int32) (c_askedCount : Int32) (c_share : Nat → Int32) (c_leftOver : Nat → Int32) (t9' : Nat) (x4' : Int32) (c_partners' : Nat → Int32) (c_askedCount' : Int32) (c_share' : Nat → Int32) (c_leftOver' : Nat → Int32) (hL : lpF (fun u9 : Int32 × Int32 × (Nat → Int32) × Int32 × (Nat → Int32) × (Nat → Int32) => B_X5_moveSite_46 K p1 c_row u9.1 u9.2.1 u9.2.2.1 u9.2.2.2.1 u9.2.2.2.2.1 u9.2.2.2.2.2) j9 (x4, x5, c_partners, c_askedCount, c_share, c_leftOver) = some (t9', x4', c_partners', c_askedCount', c_share', c_leftOver')) (hX : (t9' = 0 → ∀ (H : Heap) (locs : List Loc) (ls : Array Slot), va_P E.1 vwCl (w_X5_moveSite E a_ a_row a_partners a_share a_leftOver c_askedCount' c_outcome c_row c_partners' c_share' c_leftOver') H → va_D A (w_X5_moveSite E a_ a_row a_partners a_share a_leftOver c_askedCount' c_outcome c_row c_partners' c_share' c_leftOver') → va_S A s.heap H locs → lv_has ls 7 [(0, .ref a_), (4, .int x4')] → W p l e ({ frames := 3, cells := 0, slots := 0, locals := 73 } : Room) s m #[Value.ref a_, Value.int p1, Value.int p2, Value.int p3] below meth c H locs 0 0 Q (F0 m 140 ls [])) ∧ (t9' = 1 → ∀ (H : Heap) (locs : List Loc) (ls : Array Slot), va_P E.1 vwCl (w_X5_moveSite E a_ a_row a_partners a_share a_leftOver c_askedCount' c_outcome c_row c_partners' c_share' c_leftOver') H → va_D A (w_X5_moveSite E a_ a_row a_partners a_share a_leftOver c_askedCount' c_outcome c_row c_partners' c_share' c_leftOver') → va_S A s.heap H locs → lv_has ls 7 [(0, .ref a_)] → W p l e ({ frames := 3, cells := 0, slots := 0, locals := 73 } : Room) s m #[Value.ref a_, Value.int p1, Value.int p2, Value.int p3] below meth c H locs 0 0 Q (F0 m 153 ls []))) : ∀ (H : Heap) (locs : List Loc) (ls : Array Slot), va_P E.1 vwCl (w_X5_moveSite E a_ a_row a_partners a_share a_leftOver c_askedCount c_outcome c_row c_partners c_share c_leftOver) H → va_D A (w_X5_moveSite E a_ a_row a_partners a_share a_leftOver c_askedCount c_outcome c_row c_partners c_share c_leftOver) → va_S A s.heap H locs → lv_has ls 7 [(0, .ref a_), (1, .int p1), (4, .int x4), (5, .int x5)] → W p l e ({ frames := 3, cells := 0, slots := 0, locals := 73 } : Room) s m #[Value.ref a_, Value.int p1, Value.int p2, Value.int p3] below meth c H locs 0 0 Q (F0 m 46 ls []) := by
  exact lp_rule (P := (fun u9 : Int32 × Int32 × (Nat → Int32) × Int32 × (Nat → Int32) × (Nat → Int32) => ∀ (H : Heap) (locs : List Loc) (ls : Array Slot), va_P E.1 vwCl (w_X5_moveSite E a_ a_row a_partners a_share a_leftOver u9.2.2.2.1 c_outcome c_row u9.2.2.1 u9.2.2.2.2.1 u9.2.2.2.2.2) H → va_D A (w_X5_moveSite E a_ a_row a_partners a_share a_leftOver u9.2.2.2.1 c_outcome c_row u9.2.2.1 u9.2.2.2.2.1 u9.2.2.2.2.2) → va_S A s.heap H locs → lv_has ls 7 [(0, .ref a_), (1, .int p1), (4, .int u9.1), (5, .int u9.2.1)] → W p l e ({ frames := 3, cells := 0, slots := 0, locals := 73 } : Room) s m #[Value.ref a_, Value.int p1, Value.int p2, Value.int p3] below meth c H locs 0 0 Q (F0 m 46 ls []))) (R := (fun r9 : Nat × Int32 × (Nat → Int32) × Int32 × (Nat → Int32) × (Nat → Int32) => (r9.1 = 0 → ∀ (H : Heap) (locs : List Loc) (ls : Array Slot), va_P E.1 vwCl (w_X5_moveSite E a_ a_row a_partners a_share a_leftOver r9.2.2.2.1 c_outcome c_row r9.2.2.1 r9.2.2.2.2.1 r9.2.2.2.2.2) H → va_D A (w_X5_moveSite E a_ a_row a_partners a_share a_leftOver r9.2.2.2.1 c_outcome c_row r9.2.2.1 r9.2.2.2.2.1 r9.2.2.2.2.2) → va_S A s.heap H locs → lv_has ls 7 [(0, .ref a_), (4, .int r9.2.1)] → W p l e ({ frames := 3, cells := 0, slots := 0, locals := 73 } : Room) s m #[Value.ref a_, Value.int p1, Value.int p2, Value.int p3] below meth c H locs 0 0 Q (F0 m 140 ls [])) ∧ (r9.1 = 1 → ∀ (H : Heap) (locs : List Loc) (ls : Array Slot), va_P E.1 vwCl (w_X5_moveSite E a_ a_row a_partners a_share a_leftOver r9.2.2.2.1 c_outcome c_row r9.2.2.1 r9.2.2.2.2.1 r9.2.2.2.2.2) H → va_D A (w_X5_moveSite E a_ a_row a_partners a_share a_leftOver r9.2.2.2.1 c_outcome c_row r9.2.2.1 r9.2.2.2.2.1 r9.2.2.2.2.2) → va_S A s.heap H locs → lv_has ls 7 [(0, .ref a_)] → W p l e ({ frames := 3, cells := 0, slots := 0, locals := 73 } : Room) s m #[Value.ref a_, Value.int p1, Value.int p2, Value.int p3] below meth c H locs 0 0 Q (F0 m 153 ls [])))) (fun u9 xx hF hC hE => wb_X5_moveSite_46 l E K (p1 := p1) (p2 := p2) (p3 := p3) (x4 := u9.1) (x5 := u9.2.1) (c_row := c_row) (c_partners := u9.2.2.1) (c_askedCount := u9.2.2.2.1) (c_outcome := c_outcome) (c_share := u9.2.2.2.2.1) (c_leftOver := u9.2.2.2.2.2) hx hb hml hown hts hK hN hA (fun x4 x5 c_partners c_askedCount c_share c_leftOver q9 => hC _ q9) (fun t9 x4 c_partners c_askedCount c_share c_leftOver q9 => hE _ q9) hF) j9 (x4, x5, c_partners, c_askedCount, c_share, c_leftOver) (t9', x4', c_partners', c_askedCount', c_share', c_leftOver') hL hX

set_option maxHeartbeats 4000000 in
set_option maxRecDepth 100000 in
theorem j_X5_moveSite_153 {p : Program} (l : Launch) {e : Env} {s : State} {m : MethodId} {below : List Frame} {meth : Method} {c : Code} {Q : State → Prop} (E : EE) (K : Nat) {a_ a_row a_partners a_share a_leftOver : Nat} {p1 : Int32} {p2 : Int32} {p3 : Int32} {c_row : Nat → Int32} {c_partners : Nat → Int32} {c_askedCount : Int32} {c_outcome : Int32} {c_share : Nat → Int32} {c_leftOver : Nat → Int32} (hx : p.tables.exec = Jvm.exec) (hb : c.code = cX5_moveSite) (hml : c.maxLocals = 7) (hown : s.vm.findClass RX5 = some m.cls) (hts : ∀ w ∈ v_f_X5_moveSite, w.before #[Value.ref a_, Value.int p1, Value.int p2, Value.int p3] s = true) (hK : va_K E.1 vwCl (TY E) s) (hN : NX s) {A : Nat → Prop} (hA : ∀ q : Nat, s.heap.size ≤ q → A q) {rr : Int32} {n_row : Nat → Int32} {n_partners : Nat → Int32} {n_askedCount : Int32} {n_outcome : Int32} {n_share : Nat → Int32} {n_leftOver : Nat → Int32} (hr : meth.sig.returnType = (some .int)) (hlocks : meth.locks = false) (hQ : Q = MQ below (va_Qi (fun (q : Int32) (_u : Unit) => q = rr) (fun (_u : Unit) tt => va_P E.1 vwCl (w_X5_moveSite E a_ a_row a_partners a_share a_leftOver n_askedCount n_outcome n_row n_partners n_share n_leftOver) tt.heap ∧ va_D A (w_X5_moveSite E a_ a_row a_partners a_share a_leftOver n_askedCount n_outcome n_row n_partners n_share n_leftOver)) A) #[Value.ref a_, Value.int p1, Value.int p2, Value.int p3] s 0 0 A) (hF : J_X5_moveSite_153 K c_row c_partners c_askedCount c_share c_leftOver = some (rr, n_row, n_partners, n_askedCount, n_outcome, n_share, n_leftOver)) : ∀ (H : Heap) (locs : List Loc) (ls : Array Slot), va_P E.1 vwCl (w_X5_moveSite E a_ a_row a_partners a_share a_leftOver c_askedCount c_outcome c_row c_partners c_share c_leftOver) H → va_D A (w_X5_moveSite E a_ a_row a_partners a_share a_leftOver c_askedCount c_outcome c_row c_partners c_share c_leftOver) → va_S A s.heap H locs → lv_has ls 7 [(0, .ref a_)] → W p l e ({ frames := 3, cells := 0, slots := 0, locals := 73 } : Room) s m #[Value.ref a_, Value.int p1, Value.int p2, Value.int p3] below meth c H locs 0 0 Q (F0 m 153 ls []) := by
  unfold J_X5_moveSite_153 at hF
  intro H locs ls hP hD hS hl
  replace hP : va_P E.1 vwCl [(a_, .inr (6, [.ref a_row, .ref a_partners, .int c_askedCount, .int c_outcome, .ref a_share, .ref a_leftOver])), (a_row, .inl (E.2.1, 81, .inl c_row)), (a_partners, .inl (E.2.1, 8, .inl c_partners)), (a_share, .inl (E.2.1, 2, .inl c_share)), (a_leftOver, .inl (E.2.1, 2, .inl c_leftOver))] H := hP
  replace hD : va_D A [(a_, .inr (6, [.ref a_row, .ref a_partners, .int c_askedCount, .int c_outcome, .ref a_share, .ref a_leftOver])), (a_row, .inl (E.2.1, 81, .inl c_row)), (a_partners, .inl (E.2.1, 8, .inl c_partners)), (a_share, .inl (E.2.1, 2, .inl c_share)), (a_leftOver, .inl (E.2.1, 2, .inl c_leftOver))] := hD
  refine lv_aload_n hx hb dX5_moveSite_153 rfl (lv_at hl 0 rfl) ?_
  replace hF := bd1_s hF
  obtain ⟨w_39, hc_40, hF⟩ := hF
  obtain ⟨hPc, hDc, hFc⟩ := wcut (wc := (w_X5_hearAll E a_ a_row a_partners a_share a_leftOver c_askedCount c_outcome c_row)) hP hD hS hA [0, 1] (by decide) rfl
  have hrc := va_recv hK hPc (ci := 6) (q0 := 0) rfl rfl
  refine cE_v (wc := (w_X5_hearAll E a_ a_row a_partners a_share a_leftOver c_askedCount c_outcome c_row)) (wr := [(a_partners, .inl (E.2.1, 8, .inl c_partners)), (a_share, .inl (E.2.1, 2, .inl c_share)), (a_leftOver, .inl (E.2.1, 2, .inl c_leftOver))]) (w1 := (w_X5_hearAll E a_ a_row a_partners a_share a_leftOver c_askedCount c_outcome w_39)) (va_runV (As := []) (rest := [])  ⟨hx, hb, hml, hown, hts⟩ (f_X5_hearAll l E H.size K (a_ := a_) (a_row := a_row) (a_partners := a_partners) (a_share := a_share) (a_leftOver := a_leftOver) (c_askedCount := c_askedCount) (c_outcome := c_outcome) (c_row := c_row) hc_40) (cwV 0 hts g_f_X5_moveSite_f_X5_hearAll_162 rfl rfl rfl hd_X5_hearAll ⟨Nat.le_of_ble_eq_true rfl, Nat.le_of_ble_eq_true rfl⟩) ⟨pW.blind, hrc, (pW.pre ⟨hK, hN⟩ hPc hDc)⟩ rfl rfl hl.1 rfl (lv_room (Nat.le_of_ble_eq_true rfl)) dX5_moveSite_154 ⟨Nat.le_of_ble_eq_true rfl, Nat.le_of_ble_eq_true rfl⟩) hS hFc hP hD [0, 1] [2, 3, 4] rfl rfl (by decide) (by decide) (fun H locs hP hD hS => ?_)
  replace hP : va_P E.1 vwCl [(a_partners, .inl (E.2.1, 8, .inl c_partners)), (a_share, .inl (E.2.1, 2, .inl c_share)), (a_leftOver, .inl (E.2.1, 2, .inl c_leftOver)), (a_, .inr (6, [.ref a_row, .ref a_partners, .int c_askedCount, .int c_outcome, .ref a_share, .ref a_leftOver])), (a_row, .inl (E.2.1, 81, .inl w_39))] H := hP
  replace hD : va_D A [(a_partners, .inl (E.2.1, 8, .inl c_partners)), (a_share, .inl (E.2.1, 2, .inl c_share)), (a_leftOver, .inl (E.2.1, 2, .inl c_leftOver)), (a_, .inr (6, [.ref a_row, .ref a_partners, .int c_askedCount, .int c_outcome, .ref a_share, .ref a_leftOver])), (a_row, .inl (E.2.1, 81, .inl w_39))] := hD
  refine lv_aload_n hx hb dX5_moveSite_157 rfl (lv_at hl 0 rfl) ?_
  refine lv_iconst (v := 2) hx hb dX5_moveSite_158 (by decide) ?_
  refine pt_X5_3 (v := .int (2 : Int32)) hx hb hts i_f_X5_moveSite_X5 hown hK hP hD hS 3 rfl (hts (.fieldLink RX5 22 "HushWatch$State" "outcome" "I") (List.mem_of_getElem? (i := 2) rfl)) rfl rfl (Nat.le_of_ble_eq_true rfl) dX5_moveSite_159 (fun H locs hP hD hS => ?_)
  replace hP : va_P E.1 vwCl [(a_partners, .inl (E.2.1, 8, .inl c_partners)), (a_share, .inl (E.2.1, 2, .inl c_share)), (a_leftOver, .inl (E.2.1, 2, .inl c_leftOver)), (a_, .inr (6, [.ref a_row, .ref a_partners, .int c_askedCount, .int (2 : Int32), .ref a_share, .ref a_leftOver])), (a_row, .inl (E.2.1, 81, .inl w_39))] H := hP
  replace hD : va_D A [(a_partners, .inl (E.2.1, 8, .inl c_partners)), (a_share, .inl (E.2.1, 2, .inl c_share)), (a_leftOver, .inl (E.2.1, 2, .inl c_leftOver)), (a_, .inr (6, [.ref a_row, .ref a_partners, .int c_askedCount, .int (2 : Int32), .ref a_share, .ref a_leftOver])), (a_row, .inl (E.2.1, 81, .inl w_39))] := hD
  refine lv_aload_n hx hb dX5_moveSite_162 rfl (lv_at hl 0 rfl) ?_
  refine gt_X5_0 (v := .ref a_row) hx hb hts i_f_X5_moveSite_X5 hown hK hP 3 rfl (hts (.fieldLink RX5 11 "HushWatch$State" "row" "[I") (List.mem_of_getElem? (i := 3) rfl)) rfl dX5_moveSite_163 ?_
  refine lv_iconst (v := 3) hx hb dX5_moveSite_166 (by decide) ?_
  refine va_iald hx hb hK hP 4 0 rfl rfl (vin rfl) dX5_moveSite_167 ?_
  refine W.eq (g2 := F0 m 168 ls [.int (w_39 3)]) rfl ?_
  refine lv_iconst (v := 1) hx hb dX5_moveSite_168 (by decide) ?_
  refine lv_isub hx hb dX5_moveSite_169 ?_
  refine lv_aload_n hx hb dX5_moveSite_170 rfl (lv_at hl 0 rfl) ?_
  refine gt_X5_2 (v := .int c_askedCount) hx hb hts i_f_X5_moveSite_X5 hown hK hP 3 rfl (hts (.fieldLink RX5 18 "HushWatch$State" "askedCount" "I") (List.mem_of_getElem? (i := 1) rfl)) rfl dX5_moveSite_171 ?_
  refine lv_isub hx hb dX5_moveSite_174 ?_
  refine lv_istore (lv' := [(5, .int (((w_39 3) - (1 : Int32)) - c_askedCount)), (0, .ref a_)]) hx hb dX5_moveSite_175 hl (by decide) rfl (fun ls hl => ?_)
  refine lv_iconst (v := 1) hx hb dX5_moveSite_177 (by decide) ?_
  refine lv_iconst (v := 2) hx hb dX5_moveSite_178 (by decide) ?_
  refine lv_aload_n hx hb dX5_moveSite_179 rfl (lv_at hl 1 rfl) ?_
  refine gt_X5_2 (v := .int c_askedCount) hx hb hts i_f_X5_moveSite_X5 hown hK hP 3 rfl (hts (.fieldLink RX5 18 "HushWatch$State" "askedCount" "I") (List.mem_of_getElem? (i := 1) rfl)) rfl dX5_moveSite_180 ?_
  refine lv_imul hx hb dX5_moveSite_183 ?_
  refine lv_iadd hx hb dX5_moveSite_184 ?_
  refine lv_iload hx hb dX5_moveSite_185 (lv_at hl 0 rfl) ?_
  refine lv_iadd hx hb dX5_moveSite_187 ?_
  refine lv_aload_n hx hb dX5_moveSite_188 rfl (lv_at hl 1 rfl) ?_
  refine gt_X5_0 (v := .ref a_row) hx hb hts i_f_X5_moveSite_X5 hown hK hP 3 rfl (hts (.fieldLink RX5 11 "HushWatch$State" "row" "[I") (List.mem_of_getElem? (i := 3) rfl)) rfl dX5_moveSite_189 ?_
  refine lv_iconst (v := 3) hx hb dX5_moveSite_192 (by decide) ?_
  refine va_iald hx hb hK hP 4 0 rfl rfl (vin rfl) dX5_moveSite_193 ?_
  refine W.eq (g2 := F0 m 194 ls [.int (w_39 3), .int (((1 : Int32) + ((2 : Int32) * c_askedCount)) + (((w_39 3) - (1 : Int32)) - c_askedCount))]) rfl ?_
  refine lv_iadd hx hb dX5_moveSite_194 ?_
  rw [hQ]
  have h9 := fin9 (P := fun u9 : Int32 × (Nat → Int32) × (Nat → Int32) × Int32 × Int32 × (Nat → Int32) × (Nat → Int32) => ((((1 : Int32) + ((2 : Int32) * c_askedCount)) + (((w_39 3) - (1 : Int32)) - c_askedCount)) + (w_39 3)) = u9.1 ∧ va_P E.1 vwCl (w_X5_moveSite E a_ a_row a_partners a_share a_leftOver u9.2.2.2.1 u9.2.2.2.2.1 u9.2.1 u9.2.2.1 u9.2.2.2.2.2.1 u9.2.2.2.2.2.2) H ∧ va_D A (w_X5_moveSite E a_ a_row a_partners a_share a_leftOver u9.2.2.2.1 u9.2.2.2.2.1 u9.2.1 u9.2.2.1 u9.2.2.2.2.2.1 u9.2.2.2.2.2.2)) hF ⟨rfl, hP.sub [3, 4, 0, 1, 2] rfl, hD.sub [3, 4, 0, 1, 2] (by decide) rfl⟩
  obtain ⟨e9_0, hP9, hD9⟩ := h9
  exact W.iret (v := (((1 : Int32) + ((2 : Int32) * c_askedCount)) + (((w_39 3) - (1 : Int32)) - c_askedCount)) + (w_39 3)) hx hb hr (fun tt ht hW => ⟨⟨_, (), rfl, e9_0, ht ▸ hP9, hD9⟩, hS.F ht⟩) hS.2.2 dX5_moveSite_195

set_option maxHeartbeats 4000000 in
set_option maxRecDepth 100000 in
theorem f_X5_moveSite (l : Launch) (E : EE) (sz : Nat) (K : Nat) {a_ a_row a_partners a_share a_leftOver : Nat} {p1 : Int32} {p2 : Int32} {p3 : Int32} {c_askedCount : Int32} {c_outcome : Int32} {c_row : Nat → Int32} {c_partners : Nat → Int32} {c_share : Nat → Int32} {c_leftOver : Nat → Int32} {rr : Int32} {n_row : Nat → Int32} {n_partners : Nat → Int32} {n_askedCount : Int32} {n_outcome : Int32} {n_share : Nat → Int32} {n_leftOver : Nat → Int32} (hF : F_X5_moveSite K p1 p2 p3 c_row c_partners c_askedCount c_outcome c_share c_leftOver = some (rr, n_row, n_partners, n_askedCount, n_outcome, n_share, n_leftOver)) : Met l yX5_moveSite v_f_X5_moveSite (({ frames := 3, cells := 0, slots := 0, locals := 73 } : Room)) (va_Pc [.ref a_, .int p1, .int p2, .int p3] (pW E sz (w_X5_moveSite E a_ a_row a_partners a_share a_leftOver c_askedCount c_outcome c_row c_partners c_share c_leftOver))) (va_Qi (fun (q : Int32) (_u : Unit) => q = rr) (fun (_u : Unit) tt => va_P E.1 vwCl (w_X5_moveSite E a_ a_row a_partners a_share a_leftOver n_askedCount n_outcome n_row n_partners n_share n_leftOver) tt.heap ∧ va_D (va_A (w_X5_moveSite E a_ a_row a_partners a_share a_leftOver c_askedCount c_outcome c_row c_partners c_share c_leftOver) sz) (w_X5_moveSite E a_ a_row a_partners a_share a_leftOver n_askedCount n_outcome n_row n_partners n_share n_leftOver)) (va_A (w_X5_moveSite E a_ a_row a_partners a_share a_leftOver c_askedCount c_outcome c_row c_partners c_share c_leftOver) sz)) 0 0 (va_A (w_X5_moveSite E a_ a_row a_partners a_share a_leftOver c_askedCount c_outcome c_row c_partners c_share c_leftOver) sz) := by
  refine Met.ofW (cc := cX5_moveSite) (maxL := 7) (ret := (some .int)) (by decide) rfl ?_
  intro p e s m args below meth c s₁ B hml hv
  obtain ⟨rfl, hsz, ⟨hK, hN⟩, hP, hD0⟩ := hv
  have hx := B.exec
  have hb := B.bytes
  have hr := B.returns
  have hts := atoms_spec (ws := v_f_X5_moveSite) B.pre
  have hown : s.vm.findClass RX5 = some m.cls := own_of hd_X5_moveSite.1 (findClass_of_methodNamed B.named)
  have hlocks : meth.locks = false := B.notSynchronized
  subst hsz
  have hD := hD0.self (sz := s.heap.size)
  generalize hAe : va_A (w_X5_moveSite E a_ a_row a_partners a_share a_leftOver c_askedCount c_outcome c_row c_partners c_share c_leftOver) s.heap.size = A at hD ⊢
  have hA : ∀ q : Nat, s.heap.size ≤ q → A q := fun q h => by rw [← hAe]; exact Or.inr h
  have hS : va_S A s.heap s.heap [] := va_S.rf
  have hl := lv_entry ([.ref a_, .int p1, .int p2, .int p3]) (n := 7) (Nat.le_of_ble_eq_true rfl)
  rw [lg_entry_eq]
  generalize (lg_sl ([.ref a_, .int p1, .int p2, .int p3]) ++ List.replicate (7 - (lg_sl ([.ref a_, .int p1, .int p2, .int p3])).length) Slot.unset).toArray = ls at hl ⊢
  have hl : lv_has ls 7 [(0, .ref a_), (1, .int p1), (2, .int p2), (3, .int p3)] := hl
  obtain ⟨Q, hQ⟩ : ∃ Q : State → Prop, Q = MQ below (va_Qi (fun (q : Int32) (_u : Unit) => q = rr) (fun (_u : Unit) tt => va_P E.1 vwCl (w_X5_moveSite E a_ a_row a_partners a_share a_leftOver n_askedCount n_outcome n_row n_partners n_share n_leftOver) tt.heap ∧ va_D A (w_X5_moveSite E a_ a_row a_partners a_share a_leftOver n_askedCount n_outcome n_row n_partners n_share n_leftOver)) A) #[Value.ref a_, Value.int p1, Value.int p2, Value.int p3] s 0 0 A := ⟨_, rfl⟩
  rw [← hQ]
  change W p l e ({ frames := 3, cells := 0, slots := 0, locals := 73 } : Room) s m #[Value.ref a_, Value.int p1, Value.int p2, Value.int p3] below meth c s.heap [] 0 0 Q (F0 m 0 ls [])
  suffices hh9 : ∀ (H : Heap) (locs : List Loc), va_P E.1 vwCl (w_X5_moveSite E a_ a_row a_partners a_share a_leftOver c_askedCount c_outcome c_row c_partners c_share c_leftOver) H → va_D A (w_X5_moveSite E a_ a_row a_partners a_share a_leftOver c_askedCount c_outcome c_row c_partners c_share c_leftOver) → va_S A s.heap H locs → W p l e ({ frames := 3, cells := 0, slots := 0, locals := 73 } : Room) s m #[Value.ref a_, Value.int p1, Value.int p2, Value.int p3] below meth c H locs 0 0 Q (F0 m 0 ls []) from hh9 s.heap [] hP hD hS
  clear hP hD hS
  intro H locs hP hD hS
  replace hP : va_P E.1 vwCl [(a_, .inr (6, [.ref a_row, .ref a_partners, .int c_askedCount, .int c_outcome, .ref a_share, .ref a_leftOver])), (a_row, .inl (E.2.1, 81, .inl c_row)), (a_partners, .inl (E.2.1, 8, .inl c_partners)), (a_share, .inl (E.2.1, 2, .inl c_share)), (a_leftOver, .inl (E.2.1, 2, .inl c_leftOver))] H := hP
  replace hD : va_D A [(a_, .inr (6, [.ref a_row, .ref a_partners, .int c_askedCount, .int c_outcome, .ref a_share, .ref a_leftOver])), (a_row, .inl (E.2.1, 81, .inl c_row)), (a_partners, .inl (E.2.1, 8, .inl c_partners)), (a_share, .inl (E.2.1, 2, .inl c_share)), (a_leftOver, .inl (E.2.1, 2, .inl c_leftOver))] := hD
  unfold F_X5_moveSite at hF
  refine lv_aload_n hx hb dX5_moveSite_0 rfl (lv_at hl 0 rfl) ?_
  refine lv_iconst (v := 0) hx hb dX5_moveSite_1 (by decide) ?_
  refine pt_X5_2 (v := .int (0 : Int32)) hx hb hts i_f_X5_moveSite_X5 hown hK hP hD hS 0 rfl (hts (.fieldLink RX5 18 "HushWatch$State" "askedCount" "I") (List.mem_of_getElem? (i := 1) rfl)) rfl rfl (Nat.le_of_ble_eq_true rfl) dX5_moveSite_2 (fun H locs hP hD hS => ?_)
  replace hP : va_P E.1 vwCl [(a_, .inr (6, [.ref a_row, .ref a_partners, .int (0 : Int32), .int c_outcome, .ref a_share, .ref a_leftOver])), (a_row, .inl (E.2.1, 81, .inl c_row)), (a_partners, .inl (E.2.1, 8, .inl c_partners)), (a_share, .inl (E.2.1, 2, .inl c_share)), (a_leftOver, .inl (E.2.1, 2, .inl c_leftOver))] H := hP
  replace hD : va_D A [(a_, .inr (6, [.ref a_row, .ref a_partners, .int (0 : Int32), .int c_outcome, .ref a_share, .ref a_leftOver])), (a_row, .inl (E.2.1, 81, .inl c_row)), (a_partners, .inl (E.2.1, 8, .inl c_partners)), (a_share, .inl (E.2.1, 2, .inl c_share)), (a_leftOver, .inl (E.2.1, 2, .inl c_leftOver))] := hD
  refine lv_aload_n hx hb dX5_moveSite_5 rfl (lv_at hl 0 rfl) ?_
  refine lv_iconst (v := 0) hx hb dX5_moveSite_6 (by decide) ?_
  refine pt_X5_3 (v := .int (0 : Int32)) hx hb hts i_f_X5_moveSite_X5 hown hK hP hD hS 0 rfl (hts (.fieldLink RX5 22 "HushWatch$State" "outcome" "I") (List.mem_of_getElem? (i := 2) rfl)) rfl rfl (Nat.le_of_ble_eq_true rfl) dX5_moveSite_7 (fun H locs hP hD hS => ?_)
  replace hP : va_P E.1 vwCl [(a_, .inr (6, [.ref a_row, .ref a_partners, .int (0 : Int32), .int (0 : Int32), .ref a_share, .ref a_leftOver])), (a_row, .inl (E.2.1, 81, .inl c_row)), (a_partners, .inl (E.2.1, 8, .inl c_partners)), (a_share, .inl (E.2.1, 2, .inl c_share)), (a_leftOver, .inl (E.2.1, 2, .inl c_leftOver))] H := hP
  replace hD : va_D A [(a_, .inr (6, [.ref a_row, .ref a_partners, .int (0 : Int32), .int (0 : Int32), .ref a_share, .ref a_leftOver])), (a_row, .inl (E.2.1, 81, .inl c_row)), (a_partners, .inl (E.2.1, 8, .inl c_partners)), (a_share, .inl (E.2.1, 2, .inl c_share)), (a_leftOver, .inl (E.2.1, 2, .inl c_leftOver))] := hD
  refine lv_aload_n hx hb dX5_moveSite_10 rfl (lv_at hl 0 rfl) ?_
  refine lv_iload_n hx hb dX5_moveSite_11 rfl (lv_at hl 1 rfl) ?_
  refine lv_iload_n hx hb dX5_moveSite_12 rfl (lv_at hl 2 rfl) ?_
  refine lv_iload_n hx hb dX5_moveSite_13 rfl (lv_at hl 3 rfl) ?_
  replace hF := bd1_s hF
  obtain ⟨w_1, hc_2, hF⟩ := hF
  obtain ⟨hPc, hDc, hFc⟩ := wcut (wc := (w_X5_shift E a_ a_row a_partners a_share a_leftOver (0 : Int32) (0 : Int32) c_row)) hP hD hS hA [0, 1] (by decide) rfl
  have hrc := va_recv hK hPc (ci := 6) (q0 := 0) rfl rfl
  refine cE_v (wc := (w_X5_shift E a_ a_row a_partners a_share a_leftOver (0 : Int32) (0 : Int32) c_row)) (wr := [(a_partners, .inl (E.2.1, 8, .inl c_partners)), (a_share, .inl (E.2.1, 2, .inl c_share)), (a_leftOver, .inl (E.2.1, 2, .inl c_leftOver))]) (w1 := (w_X5_shift E a_ a_row a_partners a_share a_leftOver (0 : Int32) (0 : Int32) w_1)) (va_runV (As := [.int p1, .int p2, .int p3]) (rest := [])  ⟨hx, hb, hml, hown, hts⟩ (f_X5_shift l E H.size (a_ := a_) (a_row := a_row) (a_partners := a_partners) (a_share := a_share) (a_leftOver := a_leftOver) (p1 := p1) (p2 := p2) (p3 := p3) (c_askedCount := (0 : Int32)) (c_outcome := (0 : Int32)) (c_row := c_row) hc_2) (cwV 3 hts g_f_X5_moveSite_f_X5_shift_150 rfl rfl rfl hd_X5_shift ⟨Nat.le_of_ble_eq_true rfl, Nat.le_of_ble_eq_true rfl⟩) ⟨pW.blind, hrc, (pW.pre ⟨hK, hN⟩ hPc hDc)⟩ rfl rfl hl.1 rfl (lv_room (Nat.le_of_ble_eq_true rfl)) dX5_moveSite_14 ⟨Nat.le_of_ble_eq_true rfl, Nat.le_of_ble_eq_true rfl⟩) hS hFc hP hD [0, 1] [2, 3, 4] rfl rfl (by decide) (by decide) (fun H locs hP hD hS => ?_)
  replace hP : va_P E.1 vwCl [(a_partners, .inl (E.2.1, 8, .inl c_partners)), (a_share, .inl (E.2.1, 2, .inl c_share)), (a_leftOver, .inl (E.2.1, 2, .inl c_leftOver)), (a_, .inr (6, [.ref a_row, .ref a_partners, .int (0 : Int32), .int (0 : Int32), .ref a_share, .ref a_leftOver])), (a_row, .inl (E.2.1, 81, .inl w_1))] H := hP
  replace hD : va_D A [(a_partners, .inl (E.2.1, 8, .inl c_partners)), (a_share, .inl (E.2.1, 2, .inl c_share)), (a_leftOver, .inl (E.2.1, 2, .inl c_leftOver)), (a_, .inr (6, [.ref a_row, .ref a_partners, .int (0 : Int32), .int (0 : Int32), .ref a_share, .ref a_leftOver])), (a_row, .inl (E.2.1, 81, .inl w_1))] := hD
  refine lv_aload_n hx hb dX5_moveSite_17 rfl (lv_at hl 0 rfl) ?_
  refine lv_iload_n hx hb dX5_moveSite_18 rfl (lv_at hl 1 rfl) ?_
  replace hF := bd1_s hF
  obtain ⟨r_3, hc_4, hF⟩ := hF
  have hPc : va_P E.1 vwCl (w_X5_isQuiet E a_ a_row a_partners a_share a_leftOver (0 : Int32) (0 : Int32) w_1) H := hP.sub (ws' := [(a_, .inr (6, [.ref a_row, .ref a_partners, .int (0 : Int32), .int (0 : Int32), .ref a_share, .ref a_leftOver])), (a_row, .inl (E.2.1, 81, .inl w_1))]) [3, 4] rfl
  have hrc := va_recv hK hPc (ci := 6) (q0 := 0) rfl rfl
  refine pE_z (va_runV (As := [.int p1]) (rest := [])  ⟨hx, hb, hml, hown, hts⟩ (f_X5_isQuiet l E (a_ := a_) (a_row := a_row) (a_partners := a_partners) (a_share := a_share) (a_leftOver := a_leftOver) (p1 := p1) (c_askedCount := (0 : Int32)) (c_outcome := (0 : Int32)) (c_row := w_1) hc_4) (cwV 1 hts g_f_X5_moveSite_f_X5_isQuiet_99 rfl rfl rfl hd_X5_isQuiet ⟨Nat.le_of_ble_eq_true rfl, Nat.le_of_ble_eq_true rfl⟩) ⟨pP.blind, hrc, (pP.pre ⟨hK, hN⟩ hPc)⟩ rfl rfl hl.1 rfl (lv_room (Nat.le_of_ble_eq_true rfl)) dX5_moveSite_19 ⟨Nat.le_of_ble_eq_true rfl, Nat.le_of_ble_eq_true rfl⟩) (fun hb_5 => ?_)
  refine lv_if_eq (tgt := 27) hx hb dX5_moveSite_22 (by decide) (fun c_6 => ?_) (fun c_6 => ?_)
  ·
    replace hF := ip c_6 hF
    refine lv_aload_n hx hb dX5_moveSite_27 rfl (lv_at hl 0 rfl) ?_
    refine gt_X5_0 (v := .ref a_row) hx hb hts i_f_X5_moveSite_X5 hown hK hP 3 rfl (hts (.fieldLink RX5 11 "HushWatch$State" "row" "[I") (List.mem_of_getElem? (i := 3) rfl)) rfl dX5_moveSite_28 ?_
    refine lv_bipush (v := 12) hx hb dX5_moveSite_31 (by decide) ?_
    refine lv_dup2_11 hx hb dX5_moveSite_33 rfl rfl ?_
    refine va_iald hx hb hK hP 4 0 rfl rfl (vin rfl) dX5_moveSite_34 ?_
    refine W.eq (g2 := F0 m 35 ls [.int (w_1 12), .int (12 : Int32), .ref a_row]) rfl ?_
    refine lv_iconst (v := 1) hx hb dX5_moveSite_35 (by decide) ?_
    refine lv_iadd hx hb dX5_moveSite_36 ?_
    refine va_iast hx hb hK hP hD hS 4 0 rfl rfl (vin rfl) dX5_moveSite_37 (fun H locs hP hD hS => ?_)
    replace hP : va_P E.1 vwCl [(a_partners, .inl (E.2.1, 8, .inl c_partners)), (a_share, .inl (E.2.1, 2, .inl c_share)), (a_leftOver, .inl (E.2.1, 2, .inl c_leftOver)), (a_, .inr (6, [.ref a_row, .ref a_partners, .int (0 : Int32), .int (0 : Int32), .ref a_share, .ref a_leftOver])), (a_row, .inl (E.2.1, 81, .inl (upd w_1 12 ((w_1 12) + (1 : Int32)))))] H := hP
    replace hD : va_D A [(a_partners, .inl (E.2.1, 8, .inl c_partners)), (a_share, .inl (E.2.1, 2, .inl c_share)), (a_leftOver, .inl (E.2.1, 2, .inl c_leftOver)), (a_, .inr (6, [.ref a_row, .ref a_partners, .int (0 : Int32), .int (0 : Int32), .ref a_share, .ref a_leftOver])), (a_row, .inl (E.2.1, 81, .inl (upd w_1 12 ((w_1 12) + (1 : Int32)))))] := hD
    replace hF := nm_s hF
    obtain ⟨f_7, hf_7, hF⟩ := hF
    rw [← hf_7] at hP hD
    refine lv_iconst (v := 1) hx hb dX5_moveSite_38 (by decide) ?_
    refine lv_iload_n hx hb dX5_moveSite_39 rfl (lv_at hl 1 rfl) ?_
    refine lv_ishl hx hb dX5_moveSite_40 ?_
    refine lv_istore (lv' := [(4, .int ((1 : Int32) <<< (p1 &&& (31 : Int32)))), (0, .ref a_), (1, .int p1), (2, .int p2), (3, .int p3)]) hx hb dX5_moveSite_41 hl (by decide) rfl (fun ls hl => ?_)
    refine lv_iconst (v := 1) hx hb dX5_moveSite_43 (by decide) ?_
    refine lv_istore (lv' := [(5, .int (1 : Int32)), (4, .int ((1 : Int32) <<< (p1 &&& (31 : Int32)))), (0, .ref a_), (1, .int p1), (2, .int p2), (3, .int p3)]) hx hb dX5_moveSite_44 hl (by decide) rfl (fun ls hl => ?_)
    replace hF := bd6_s hF
    obtain ⟨t_28, x4_29, c_partners_30, c_askedCount_31, c_share_32, c_leftOver_33, hL_34, hF⟩ := hF
    refine lw_X5_moveSite_46 l E K (p1 := p1) (p2 := p2) (p3 := p3) (c_row := f_7) (c_outcome := (0 : Int32)) hx hb hml hown hts hK hN hA K ((1 : Int32) <<< (p1 &&& (31 : Int32))) (1 : Int32) c_partners (0 : Int32) c_share c_leftOver t_28 x4_29 c_partners_30 c_askedCount_31 c_share_32 c_leftOver_33 hL_34 ⟨?_, ?_⟩ H locs ls (hP.sub [3, 4, 0, 1, 2] rfl) (hD.sub [3, 4, 0, 1, 2] (by decide) rfl) hS (lv_sub hl [2, 3, 1, 0] rfl)
    ·
      intro t9
      replace hF := ip t9 hF
      intro H locs ls hP hD hS hl
      replace hP : va_P E.1 vwCl [(a_, .inr (6, [.ref a_row, .ref a_partners, .int c_askedCount_31, .int (0 : Int32), .ref a_share, .ref a_leftOver])), (a_row, .inl (E.2.1, 81, .inl f_7)), (a_partners, .inl (E.2.1, 8, .inl c_partners_30)), (a_share, .inl (E.2.1, 2, .inl c_share_32)), (a_leftOver, .inl (E.2.1, 2, .inl c_leftOver_33))] H := hP
      replace hD : va_D A [(a_, .inr (6, [.ref a_row, .ref a_partners, .int c_askedCount_31, .int (0 : Int32), .ref a_share, .ref a_leftOver])), (a_row, .inl (E.2.1, 81, .inl f_7)), (a_partners, .inl (E.2.1, 8, .inl c_partners_30)), (a_share, .inl (E.2.1, 2, .inl c_share_32)), (a_leftOver, .inl (E.2.1, 2, .inl c_leftOver_33))] := hD
      refine lv_aload_n hx hb dX5_moveSite_140 rfl (lv_at hl 0 rfl) ?_
      refine lv_iload hx hb dX5_moveSite_141 (lv_at hl 1 rfl) ?_
      replace hF := bd3_s hF
      obtain ⟨r_35, w_36, w_37, hc_38, hF⟩ := hF
      obtain ⟨hPc, hDc, hFc⟩ := wcut (wc := (w_X5_balance E a_ a_row a_partners a_share a_leftOver c_askedCount_31 (0 : Int32) f_7 c_share_32 c_leftOver_33)) hP hD hS hA [0, 1, 3, 4] (by decide) rfl
      have hrc := va_recv hK hPc (ci := 6) (q0 := 0) rfl rfl
      refine cE_i (wc := (w_X5_balance E a_ a_row a_partners a_share a_leftOver c_askedCount_31 (0 : Int32) f_7 c_share_32 c_leftOver_33)) (wr := [(a_partners, .inl (E.2.1, 8, .inl c_partners_30))]) (w1 := (w_X5_balance E a_ a_row a_partners a_share a_leftOver c_askedCount_31 w_37 w_36 c_share_32 c_leftOver_33)) (va_runV (As := [.int x4_29]) (rest := [])  ⟨hx, hb, hml, hown, hts⟩ (f_X5_balance l E H.size K (a_ := a_) (a_row := a_row) (a_partners := a_partners) (a_share := a_share) (a_leftOver := a_leftOver) (p1 := x4_29) (c_askedCount := c_askedCount_31) (c_outcome := (0 : Int32)) (c_row := f_7) (c_share := c_share_32) (c_leftOver := c_leftOver_33) hc_38) (cwV 1 hts g_f_X5_moveSite_f_X5_balance_159 rfl rfl rfl hd_X5_balance ⟨Nat.le_of_ble_eq_true rfl, Nat.le_of_ble_eq_true rfl⟩) ⟨pW.blind, hrc, (pW.pre ⟨hK, hN⟩ hPc hDc)⟩ rfl rfl hl.1 rfl (lv_room (Nat.le_of_ble_eq_true rfl)) dX5_moveSite_143 ⟨Nat.le_of_ble_eq_true rfl, Nat.le_of_ble_eq_true rfl⟩) hS hFc hP hD [0, 1, 3, 4] [2] rfl rfl (by decide) (by decide) (fun H locs hP hD hS => ?_)
      replace hP : va_P E.1 vwCl [(a_partners, .inl (E.2.1, 8, .inl c_partners_30)), (a_, .inr (6, [.ref a_row, .ref a_partners, .int c_askedCount_31, .int w_37, .ref a_share, .ref a_leftOver])), (a_row, .inl (E.2.1, 81, .inl w_36)), (a_share, .inl (E.2.1, 2, .inl c_share_32)), (a_leftOver, .inl (E.2.1, 2, .inl c_leftOver_33))] H := hP
      replace hD : va_D A [(a_partners, .inl (E.2.1, 8, .inl c_partners_30)), (a_, .inr (6, [.ref a_row, .ref a_partners, .int c_askedCount_31, .int w_37, .ref a_share, .ref a_leftOver])), (a_row, .inl (E.2.1, 81, .inl w_36)), (a_share, .inl (E.2.1, 2, .inl c_share_32)), (a_leftOver, .inl (E.2.1, 2, .inl c_leftOver_33))] := hD
      rw [hQ]
      have h9 := fin9 (P := fun u9 : Int32 × (Nat → Int32) × (Nat → Int32) × Int32 × Int32 × (Nat → Int32) × (Nat → Int32) => r_35 = u9.1 ∧ va_P E.1 vwCl (w_X5_moveSite E a_ a_row a_partners a_share a_leftOver u9.2.2.2.1 u9.2.2.2.2.1 u9.2.1 u9.2.2.1 u9.2.2.2.2.2.1 u9.2.2.2.2.2.2) H ∧ va_D A (w_X5_moveSite E a_ a_row a_partners a_share a_leftOver u9.2.2.2.1 u9.2.2.2.2.1 u9.2.1 u9.2.2.1 u9.2.2.2.2.2.1 u9.2.2.2.2.2.2)) hF ⟨rfl, hP.sub [1, 2, 0, 3, 4] rfl, hD.sub [1, 2, 0, 3, 4] (by decide) rfl⟩
      obtain ⟨e9_0, hP9, hD9⟩ := h9
      exact W.iret (v := r_35) hx hb hr (fun tt ht hW => ⟨⟨_, (), rfl, e9_0, ht ▸ hP9, hD9⟩, hS.F ht⟩) hS.2.2 dX5_moveSite_146
    ·
      intro t9
      replace hF := inn (show ¬ t_28 = 0 by omega) hF
      replace hF := ip t9 hF
      intro H locs ls hP hD hS hl
      replace hP : va_P E.1 vwCl [(a_, .inr (6, [.ref a_row, .ref a_partners, .int c_askedCount_31, .int (0 : Int32), .ref a_share, .ref a_leftOver])), (a_row, .inl (E.2.1, 81, .inl f_7)), (a_partners, .inl (E.2.1, 8, .inl c_partners_30)), (a_share, .inl (E.2.1, 2, .inl c_share_32)), (a_leftOver, .inl (E.2.1, 2, .inl c_leftOver_33))] H := hP
      replace hD : va_D A [(a_, .inr (6, [.ref a_row, .ref a_partners, .int c_askedCount_31, .int (0 : Int32), .ref a_share, .ref a_leftOver])), (a_row, .inl (E.2.1, 81, .inl f_7)), (a_partners, .inl (E.2.1, 8, .inl c_partners_30)), (a_share, .inl (E.2.1, 2, .inl c_share_32)), (a_leftOver, .inl (E.2.1, 2, .inl c_leftOver_33))] := hD
      exact j_X5_moveSite_153 l E K (p1 := p1) (p2 := p2) (p3 := p3) (c_row := f_7) (c_partners := c_partners_30) (c_askedCount := c_askedCount_31) (c_outcome := (0 : Int32)) (c_share := c_share_32) (c_leftOver := c_leftOver_33) hx hb hml hown hts hK hN hA hr hlocks hQ hF H locs ls (hP.sub [0, 1, 2, 3, 4] rfl) (hD.sub [0, 1, 2, 3, 4] (by decide) rfl) hS (lv_sub hl [0] rfl)
  ·
    replace hF := inn c_6 hF
    refine lv_iconst (v := 0) hx hb dX5_moveSite_25 (by decide) ?_
    rw [hQ]
    have h9 := fin9 (P := fun u9 : Int32 × (Nat → Int32) × (Nat → Int32) × Int32 × Int32 × (Nat → Int32) × (Nat → Int32) => (0 : Int32) = u9.1 ∧ va_P E.1 vwCl (w_X5_moveSite E a_ a_row a_partners a_share a_leftOver u9.2.2.2.1 u9.2.2.2.2.1 u9.2.1 u9.2.2.1 u9.2.2.2.2.2.1 u9.2.2.2.2.2.2) H ∧ va_D A (w_X5_moveSite E a_ a_row a_partners a_share a_leftOver u9.2.2.2.1 u9.2.2.2.2.1 u9.2.1 u9.2.2.1 u9.2.2.2.2.2.1 u9.2.2.2.2.2.2)) hF ⟨rfl, hP.sub [3, 4, 0, 1, 2] rfl, hD.sub [3, 4, 0, 1, 2] (by decide) rfl⟩
    obtain ⟨e9_0, hP9, hD9⟩ := h9
    exact W.iret (v := (0 : Int32)) hx hb hr (fun tt ht hW => ⟨⟨_, (), rfl, e9_0, ht ▸ hP9, hD9⟩, hS.F ht⟩) hS.2.2 dX5_moveSite_26

def F_X5_hearByHand (K : Nat) (c_row : Nat → Int32) : Option (Int32 × (Nat → Int32)) :=
  bd1 (F_X5_hearAll K c_row) (fun w_1 => some ((2 : Int32) * (w_1 3), w_1))
abbrev w_X5_hearByHand (E : EE) (a_ a_row a_partners a_share a_leftOver : Nat) (c_askedCount : Int32) (c_outcome : Int32) (c_row : Nat → Int32) : va_W := [(a_, .inr (6, [.ref a_row, .ref a_partners, .int c_askedCount, .int c_outcome, .ref a_share, .ref a_leftOver])), (a_row, .inl (E.2.1, 81, .inl c_row))]
def v_f_X5_hearByHand : List Cond := List.cons (.code yX5_hearByHand cX5_hearByHand 1 (some .int)) (HAppend.hAppend (α := List Cond) (β := List Cond) (γ := List Cond) [.fieldLink RX5 11 "HushWatch$State" "row" "[I", .methodLink RX5 162 yX5_hearAll, .instanceMethod yX5_hearAll, .selects RX5 yX5_hearAll yX5_hearAll, .initialized RX5] (HAppend.hAppend (α := List Cond) (β := List Cond) (γ := List Cond) v_f_X5_hearAll (HAppend.hAppend (α := List Cond) (β := List Cond) (γ := List Cond) wsX50 [])))
theorem gw_f_X5_hearByHand : v_f_X5_hearByHand.all goodWord = true := by decide +kernel
theorem i_f_X5_hearByHand_X5 : ∀ w ∈ wsX50, w ∈ v_f_X5_hearByHand := fun _ h => List.mem_cons_of_mem _ (List.mem_append_right _ (List.mem_append_right _ (List.mem_append_left _ h)))
theorem g_f_X5_hearByHand_f_X5_hearAll_162 : GoodIn v_f_X5_hearByHand (wsV RX5 162 RX5 yX5_hearAll v_f_X5_hearAll) := goodIn_app (goodIn_of _ (by decide +kernel)) (goodIn_sub (fun _ h => List.mem_cons_of_mem _ (List.mem_append_right _ (List.mem_append_left _ h))) gw_f_X5_hearAll)
theorem hd_X5_hearByHand : yX5_hearByHand.cls = RX5 ∧ yX5_hearByHand.cls ≠ "java/lang/invoke/MethodHandle" ∧ yX5_hearByHand.cls ≠ "java/lang/invoke/VarHandle" ∧ (parseMethodDescriptor yX5_hearByHand.desc).map (fun d => d.parameters.length) = some 0 := by decide +kernel
set_option maxHeartbeats 4000000 in
set_option maxRecDepth 100000 in
theorem f_X5_hearByHand (l : Launch) (E : EE) (sz : Nat) (K : Nat) {a_ a_row a_partners a_share a_leftOver : Nat} {c_askedCount : Int32} {c_outcome : Int32} {c_row : Nat → Int32} {rr : Int32} {n_row : Nat → Int32} (hF : F_X5_hearByHand K c_row = some (rr, n_row)) : Met l yX5_hearByHand v_f_X5_hearByHand (({ frames := 3, cells := 0, slots := 0, locals := 73 } : Room)) (va_Pc [.ref a_] (pW E sz (w_X5_hearByHand E a_ a_row a_partners a_share a_leftOver c_askedCount c_outcome c_row))) (va_Qi (fun (q : Int32) (_u : Unit) => q = rr) (fun (_u : Unit) tt => va_P E.1 vwCl (w_X5_hearByHand E a_ a_row a_partners a_share a_leftOver c_askedCount c_outcome n_row) tt.heap ∧ va_D (va_A (w_X5_hearByHand E a_ a_row a_partners a_share a_leftOver c_askedCount c_outcome c_row) sz) (w_X5_hearByHand E a_ a_row a_partners a_share a_leftOver c_askedCount c_outcome n_row)) (va_A (w_X5_hearByHand E a_ a_row a_partners a_share a_leftOver c_askedCount c_outcome c_row) sz)) 0 0 (va_A (w_X5_hearByHand E a_ a_row a_partners a_share a_leftOver c_askedCount c_outcome c_row) sz) := by
  refine Met.ofW (cc := cX5_hearByHand) (maxL := 1) (ret := (some .int)) (by decide) rfl ?_
  intro p e s m args below meth c s₁ B hml hv
  obtain ⟨rfl, hsz, ⟨hK, hN⟩, hP, hD0⟩ := hv
  have hx := B.exec
  have hb := B.bytes
  have hr := B.returns
  have hts := atoms_spec (ws := v_f_X5_hearByHand) B.pre
  have hown : s.vm.findClass RX5 = some m.cls := own_of hd_X5_hearByHand.1 (findClass_of_methodNamed B.named)
  have hlocks : meth.locks = false := B.notSynchronized
  subst hsz
  have hD := hD0.self (sz := s.heap.size)
  generalize hAe : va_A (w_X5_hearByHand E a_ a_row a_partners a_share a_leftOver c_askedCount c_outcome c_row) s.heap.size = A at hD ⊢
  have hA : ∀ q : Nat, s.heap.size ≤ q → A q := fun q h => by rw [← hAe]; exact Or.inr h
  have hS : va_S A s.heap s.heap [] := va_S.rf
  have hl := lv_entry ([.ref a_]) (n := 1) (Nat.le_of_ble_eq_true rfl)
  rw [lg_entry_eq]
  generalize (lg_sl ([.ref a_]) ++ List.replicate (1 - (lg_sl ([.ref a_])).length) Slot.unset).toArray = ls at hl ⊢
  have hl : lv_has ls 1 [(0, .ref a_)] := hl
  obtain ⟨Q, hQ⟩ : ∃ Q : State → Prop, Q = MQ below (va_Qi (fun (q : Int32) (_u : Unit) => q = rr) (fun (_u : Unit) tt => va_P E.1 vwCl (w_X5_hearByHand E a_ a_row a_partners a_share a_leftOver c_askedCount c_outcome n_row) tt.heap ∧ va_D A (w_X5_hearByHand E a_ a_row a_partners a_share a_leftOver c_askedCount c_outcome n_row)) A) #[Value.ref a_] s 0 0 A := ⟨_, rfl⟩
  rw [← hQ]
  change W p l e ({ frames := 3, cells := 0, slots := 0, locals := 73 } : Room) s m #[Value.ref a_] below meth c s.heap [] 0 0 Q (F0 m 0 ls [])
  suffices hh9 : ∀ (H : Heap) (locs : List Loc), va_P E.1 vwCl (w_X5_hearByHand E a_ a_row a_partners a_share a_leftOver c_askedCount c_outcome c_row) H → va_D A (w_X5_hearByHand E a_ a_row a_partners a_share a_leftOver c_askedCount c_outcome c_row) → va_S A s.heap H locs → W p l e ({ frames := 3, cells := 0, slots := 0, locals := 73 } : Room) s m #[Value.ref a_] below meth c H locs 0 0 Q (F0 m 0 ls []) from hh9 s.heap [] hP hD hS
  clear hP hD hS
  intro H locs hP hD hS
  replace hP : va_P E.1 vwCl [(a_, .inr (6, [.ref a_row, .ref a_partners, .int c_askedCount, .int c_outcome, .ref a_share, .ref a_leftOver])), (a_row, .inl (E.2.1, 81, .inl c_row))] H := hP
  replace hD : va_D A [(a_, .inr (6, [.ref a_row, .ref a_partners, .int c_askedCount, .int c_outcome, .ref a_share, .ref a_leftOver])), (a_row, .inl (E.2.1, 81, .inl c_row))] := hD
  unfold F_X5_hearByHand at hF
  refine lv_aload_n hx hb dX5_hearByHand_0 rfl (lv_at hl 0 rfl) ?_
  replace hF := bd1_s hF
  obtain ⟨w_1, hc_2, hF⟩ := hF
  obtain ⟨hPc, hDc, hFc⟩ := wcut (wc := (w_X5_hearAll E a_ a_row a_partners a_share a_leftOver c_askedCount c_outcome c_row)) hP hD hS hA [0, 1] (by decide) rfl
  have hrc := va_recv hK hPc (ci := 6) (q0 := 0) rfl rfl
  refine cE_v (wc := (w_X5_hearAll E a_ a_row a_partners a_share a_leftOver c_askedCount c_outcome c_row)) (wr := []) (w1 := (w_X5_hearAll E a_ a_row a_partners a_share a_leftOver c_askedCount c_outcome w_1)) (va_runV (As := []) (rest := [])  ⟨hx, hb, hml, hown, hts⟩ (f_X5_hearAll l E H.size K (a_ := a_) (a_row := a_row) (a_partners := a_partners) (a_share := a_share) (a_leftOver := a_leftOver) (c_askedCount := c_askedCount) (c_outcome := c_outcome) (c_row := c_row) hc_2) (cwV 0 hts g_f_X5_hearByHand_f_X5_hearAll_162 rfl rfl rfl hd_X5_hearAll ⟨Nat.le_of_ble_eq_true rfl, Nat.le_of_ble_eq_true rfl⟩) ⟨pW.blind, hrc, (pW.pre ⟨hK, hN⟩ hPc hDc)⟩ rfl rfl hl.1 rfl (lv_room (Nat.le_of_ble_eq_true rfl)) dX5_hearByHand_1 ⟨Nat.le_of_ble_eq_true rfl, Nat.le_of_ble_eq_true rfl⟩) hS hFc hP hD [0, 1] [] rfl rfl (by decide) (by decide) (fun H locs hP hD hS => ?_)
  replace hP : va_P E.1 vwCl [(a_, .inr (6, [.ref a_row, .ref a_partners, .int c_askedCount, .int c_outcome, .ref a_share, .ref a_leftOver])), (a_row, .inl (E.2.1, 81, .inl w_1))] H := hP
  replace hD : va_D A [(a_, .inr (6, [.ref a_row, .ref a_partners, .int c_askedCount, .int c_outcome, .ref a_share, .ref a_leftOver])), (a_row, .inl (E.2.1, 81, .inl w_1))] := hD
  refine lv_iconst (v := 2) hx hb dX5_hearByHand_4 (by decide) ?_
  refine lv_aload_n hx hb dX5_hearByHand_5 rfl (lv_at hl 0 rfl) ?_
  refine gt_X5_0 (v := .ref a_row) hx hb hts i_f_X5_hearByHand_X5 hown hK hP 0 rfl (hts (.fieldLink RX5 11 "HushWatch$State" "row" "[I") (List.mem_of_getElem? (i := 1) rfl)) rfl dX5_hearByHand_6 ?_
  refine lv_iconst (v := 3) hx hb dX5_hearByHand_9 (by decide) ?_
  refine va_iald hx hb hK hP 1 0 rfl rfl (vin rfl) dX5_hearByHand_10 ?_
  refine W.eq (g2 := F0 m 11 ls [.int (w_1 3), .int (2 : Int32)]) rfl ?_
  refine lv_imul hx hb dX5_hearByHand_11 ?_
  rw [hQ]
  have h9 := fin9 (P := fun u9 : Int32 × (Nat → Int32) => ((2 : Int32) * (w_1 3)) = u9.1 ∧ va_P E.1 vwCl (w_X5_hearByHand E a_ a_row a_partners a_share a_leftOver c_askedCount c_outcome u9.2) H ∧ va_D A (w_X5_hearByHand E a_ a_row a_partners a_share a_leftOver c_askedCount c_outcome u9.2)) hF ⟨rfl, hP, hD⟩
  obtain ⟨e9_0, hP9, hD9⟩ := h9
  exact W.iret (v := (2 : Int32) * (w_1 3)) hx hb hr (fun tt ht hW => ⟨⟨_, (), rfl, e9_0, ht ▸ hP9, hD9⟩, hS.F ht⟩) hS.2.2 dX5_hearByHand_12

def B_X5_startCounts_33 (x2 : Int32) (c_row : Nat → Int32) : Option ((Int32 × (Nat → Int32)) ⊕ ((Nat → Int32))) :=
  bd1 (F_X5_sites c_row) (fun r_5 => if r_5 ≤ x2 then some (.inr c_row) else bd1 (F_X5_put x2 (6 : Int32) (0 : Int32) c_row) (fun w_8 => bd1 (F_X5_put x2 (7 : Int32) (0 : Int32) w_8) (fun w_10 => some (.inl (x2 + (1 : Int32), w_10)))))
def F_X5_startCounts (K : Nat) (p1 : Int32) (c_row : Nat → Int32) : Option ((Nat → Int32)) :=
  nmF (upd c_row 2 p1) (fun f_1 => nmF (upd f_1 8 (0 : Int32)) (fun f_2 => nmF (upd f_2 9 (0 : Int32)) (fun f_3 => nmF (upd f_3 10 (0 : Int32)) (fun f_4 => bd1 (lpF (fun u9 : Int32 × (Nat → Int32) => B_X5_startCounts_33  u9.1 u9.2) K ((0 : Int32), f_4)) (fun c_row_12 => some c_row_12)))))
abbrev w_X5_startCounts (E : EE) (a_ a_row a_partners a_share a_leftOver : Nat) (c_askedCount : Int32) (c_outcome : Int32) (c_row : Nat → Int32) : va_W := [(a_, .inr (6, [.ref a_row, .ref a_partners, .int c_askedCount, .int c_outcome, .ref a_share, .ref a_leftOver])), (a_row, .inl (E.2.1, 81, .inl c_row))]
def v_f_X5_startCounts : List Cond := List.cons (.code yX5_startCounts cX5_startCounts 3 none) (HAppend.hAppend (α := List Cond) (β := List Cond) (γ := List Cond) [.fieldLink RX5 11 "HushWatch$State" "row" "[I", .methodLink RX5 45 yX5_sites, .instanceMethod yX5_sites, .selects RX5 yX5_sites yX5_sites, .initialized RX5, .methodLink RX5 52 yX5_put, .instanceMethod yX5_put, .selects RX5 yX5_put yX5_put] (HAppend.hAppend (α := List Cond) (β := List Cond) (γ := List Cond) wsX50 (HAppend.hAppend (α := List Cond) (β := List Cond) (γ := List Cond) v_f_X5_sites (HAppend.hAppend (α := List Cond) (β := List Cond) (γ := List Cond) v_f_X5_put []))))
theorem gw_f_X5_startCounts : v_f_X5_startCounts.all goodWord = true := by decide +kernel
theorem i_f_X5_startCounts_X5 : ∀ w ∈ wsX50, w ∈ v_f_X5_startCounts := fun _ h => List.mem_cons_of_mem _ (List.mem_append_right _ (List.mem_append_left _ h))
theorem g_f_X5_startCounts_f_X5_sites_45 : GoodIn v_f_X5_startCounts (wsV RX5 45 RX5 yX5_sites v_f_X5_sites) := goodIn_app (goodIn_of _ (by decide +kernel)) (goodIn_sub (fun _ h => List.mem_cons_of_mem _ (List.mem_append_right _ (List.mem_append_right _ (List.mem_append_left _ h)))) gw_f_X5_sites)
theorem g_f_X5_startCounts_f_X5_put_52 : GoodIn v_f_X5_startCounts (wsV RX5 52 RX5 yX5_put v_f_X5_put) := goodIn_app (goodIn_of _ (by decide +kernel)) (goodIn_sub (fun _ h => List.mem_cons_of_mem _ (List.mem_append_right _ (List.mem_append_right _ (List.mem_append_right _ (List.mem_append_left _ h))))) gw_f_X5_put)
theorem hd_X5_startCounts : yX5_startCounts.cls = RX5 ∧ yX5_startCounts.cls ≠ "java/lang/invoke/MethodHandle" ∧ yX5_startCounts.cls ≠ "java/lang/invoke/VarHandle" ∧ (parseMethodDescriptor yX5_startCounts.desc).map (fun d => d.parameters.length) = some 1 := by decide +kernel
set_option maxHeartbeats 4000000 in
set_option maxRecDepth 100000 in
theorem wb_X5_startCounts_33 {p : Program} (l : Launch) {e : Env} {s : State} {m : MethodId} {below : List Frame} {meth : Method} {c : Code} {Q : State → Prop} (E : EE) (K : Nat) {a_ a_row a_partners a_share a_leftOver : Nat} {p1 : Int32} {c_askedCount : Int32} {c_outcome : Int32} {x2 : Int32} {c_row : Nat → Int32} (hx : p.tables.exec = Jvm.exec) (hb : c.code = cX5_startCounts) (hml : c.maxLocals = 3) (hown : s.vm.findClass RX5 = some m.cls) (hts : ∀ w ∈ v_f_X5_startCounts, w.before #[Value.ref a_, Value.int p1] s = true) (hK : va_K E.1 vwCl (TY E) s) (hN : NX s) {A : Nat → Prop} (hA : ∀ q : Nat, s.heap.size ≤ q → A q) {xx : (Int32 × (Nat → Int32)) ⊕ ((Nat → Int32))} (hC : ∀ (x2 : Int32), ∀ (c_row : Nat → Int32), xx = .inl (x2, c_row) → ∀ (H : Heap) (locs : List Loc) (ls : Array Slot), va_P E.1 vwCl (w_X5_startCounts E a_ a_row a_partners a_share a_leftOver c_askedCount c_outcome c_row) H → va_D A (w_X5_startCounts E a_ a_row a_partners a_share a_leftOver c_askedCount c_outcome c_row) → va_S A s.heap H locs → lv_has ls 3 [(0, .ref a_), (2, .int x2)] → W p l e ({ frames := 1, cells := 0, slots := 0, locals := 23 } : Room) s m #[Value.ref a_, Value.int p1] below meth c H locs 0 0 Q (F0 m 33 ls [])) (hE : ∀ (c_row : Nat → Int32), xx = .inr c_row → ((∀ (H : Heap) (locs : List Loc) (ls : Array Slot), va_P E.1 vwCl (w_X5_startCounts E a_ a_row a_partners a_share a_leftOver c_askedCount c_outcome c_row) H → va_D A (w_X5_startCounts E a_ a_row a_partners a_share a_leftOver c_askedCount c_outcome c_row) → va_S A s.heap H locs → lv_has ls 3 [] → W p l e ({ frames := 1, cells := 0, slots := 0, locals := 23 } : Room) s m #[Value.ref a_, Value.int p1] below meth c H locs 0 0 Q (F0 m 63 ls [])))) (hF : B_X5_startCounts_33  x2 c_row = some xx) : ∀ (H : Heap) (locs : List Loc) (ls : Array Slot), va_P E.1 vwCl (w_X5_startCounts E a_ a_row a_partners a_share a_leftOver c_askedCount c_outcome c_row) H → va_D A (w_X5_startCounts E a_ a_row a_partners a_share a_leftOver c_askedCount c_outcome c_row) → va_S A s.heap H locs → lv_has ls 3 [(0, .ref a_), (2, .int x2)] → W p l e ({ frames := 1, cells := 0, slots := 0, locals := 23 } : Room) s m #[Value.ref a_, Value.int p1] below meth c H locs 0 0 Q (F0 m 33 ls []) := by
  unfold B_X5_startCounts_33 at hF
  intro H locs ls hP hD hS hl
  replace hP : va_P E.1 vwCl [(a_, .inr (6, [.ref a_row, .ref a_partners, .int c_askedCount, .int c_outcome, .ref a_share, .ref a_leftOver])), (a_row, .inl (E.2.1, 81, .inl c_row))] H := hP
  replace hD : va_D A [(a_, .inr (6, [.ref a_row, .ref a_partners, .int c_askedCount, .int c_outcome, .ref a_share, .ref a_leftOver])), (a_row, .inl (E.2.1, 81, .inl c_row))] := hD
  refine lv_iload_n hx hb dX5_startCounts_33 rfl (lv_at hl 1 rfl) ?_
  refine lv_aload_n hx hb dX5_startCounts_34 rfl (lv_at hl 0 rfl) ?_
  replace hF := bd1_s hF
  obtain ⟨r_5, hc_6, hF⟩ := hF
  have hPc : va_P E.1 vwCl (w_X5_sites E a_ a_row a_partners a_share a_leftOver c_askedCount c_outcome c_row) H := hP.sub (ws' := [(a_, .inr (6, [.ref a_row, .ref a_partners, .int c_askedCount, .int c_outcome, .ref a_share, .ref a_leftOver])), (a_row, .inl (E.2.1, 81, .inl c_row))]) [0, 1] rfl
  have hrc := va_recv hK hPc (ci := 6) (q0 := 0) rfl rfl
  refine pE_i (va_runV (As := []) (rest := [.int x2])  ⟨hx, hb, hml, hown, hts⟩ (f_X5_sites l E (a_ := a_) (a_row := a_row) (a_partners := a_partners) (a_share := a_share) (a_leftOver := a_leftOver) (c_askedCount := c_askedCount) (c_outcome := c_outcome) (c_row := c_row) hc_6) (cwV 0 hts g_f_X5_startCounts_f_X5_sites_45 rfl rfl rfl hd_X5_sites ⟨Nat.le_of_ble_eq_true rfl, Nat.le_of_ble_eq_true rfl⟩) ⟨pP.blind, hrc, (pP.pre ⟨hK, hN⟩ hPc)⟩ rfl rfl hl.1 rfl (lv_room (Nat.le_of_ble_eq_true rfl)) dX5_startCounts_35 ⟨Nat.le_of_ble_eq_true rfl, Nat.le_of_ble_eq_true rfl⟩) ?_
  refine lv_icmp_ge (tgt := 63) hx hb dX5_startCounts_38 (by decide) (fun c_7 => ?_) (fun c_7 => ?_)
  ·
    replace hF := ip c_7 hF
    cases hF
    exact hE c_row rfl H locs ls (hP.sub [0, 1] rfl) (hD.sub [0, 1] (by decide) rfl) hS (lv_sub hl [] rfl)
  ·
    replace hF := inn c_7 hF
    refine lv_aload_n hx hb dX5_startCounts_41 rfl (lv_at hl 0 rfl) ?_
    refine lv_iload_n hx hb dX5_startCounts_42 rfl (lv_at hl 1 rfl) ?_
    refine lv_bipush (v := 6) hx hb dX5_startCounts_43 (by decide) ?_
    refine lv_iconst (v := 0) hx hb dX5_startCounts_45 (by decide) ?_
    replace hF := bd1_s hF
    obtain ⟨w_8, hc_9, hF⟩ := hF
    obtain ⟨hPc, hDc, hFc⟩ := wcut (wc := (w_X5_put E a_ a_row a_partners a_share a_leftOver c_askedCount c_outcome c_row)) hP hD hS hA [0, 1] (by decide) rfl
    have hrc := va_recv hK hPc (ci := 6) (q0 := 0) rfl rfl
    refine cE_v (wc := (w_X5_put E a_ a_row a_partners a_share a_leftOver c_askedCount c_outcome c_row)) (wr := []) (w1 := (w_X5_put E a_ a_row a_partners a_share a_leftOver c_askedCount c_outcome w_8)) (va_runV (As := [.int x2, .int (6 : Int32), .int (0 : Int32)]) (rest := [])  ⟨hx, hb, hml, hown, hts⟩ (f_X5_put l E H.size (a_ := a_) (a_row := a_row) (a_partners := a_partners) (a_share := a_share) (a_leftOver := a_leftOver) (p1 := x2) (p2 := (6 : Int32)) (p3 := (0 : Int32)) (c_askedCount := c_askedCount) (c_outcome := c_outcome) (c_row := c_row) hc_9) (cwV 3 hts g_f_X5_startCounts_f_X5_put_52 rfl rfl rfl hd_X5_put ⟨Nat.le_of_ble_eq_true rfl, Nat.le_of_ble_eq_true rfl⟩) ⟨pW.blind, hrc, (pW.pre ⟨hK, hN⟩ hPc hDc)⟩ rfl rfl hl.1 rfl (lv_room (Nat.le_of_ble_eq_true rfl)) dX5_startCounts_46 ⟨Nat.le_of_ble_eq_true rfl, Nat.le_of_ble_eq_true rfl⟩) hS hFc hP hD [0, 1] [] rfl rfl (by decide) (by decide) (fun H locs hP hD hS => ?_)
    replace hP : va_P E.1 vwCl [(a_, .inr (6, [.ref a_row, .ref a_partners, .int c_askedCount, .int c_outcome, .ref a_share, .ref a_leftOver])), (a_row, .inl (E.2.1, 81, .inl w_8))] H := hP
    replace hD : va_D A [(a_, .inr (6, [.ref a_row, .ref a_partners, .int c_askedCount, .int c_outcome, .ref a_share, .ref a_leftOver])), (a_row, .inl (E.2.1, 81, .inl w_8))] := hD
    refine lv_aload_n hx hb dX5_startCounts_49 rfl (lv_at hl 0 rfl) ?_
    refine lv_iload_n hx hb dX5_startCounts_50 rfl (lv_at hl 1 rfl) ?_
    refine lv_bipush (v := 7) hx hb dX5_startCounts_51 (by decide) ?_
    refine lv_iconst (v := 0) hx hb dX5_startCounts_53 (by decide) ?_
    replace hF := bd1_s hF
    obtain ⟨w_10, hc_11, hF⟩ := hF
    obtain ⟨hPc, hDc, hFc⟩ := wcut (wc := (w_X5_put E a_ a_row a_partners a_share a_leftOver c_askedCount c_outcome w_8)) hP hD hS hA [0, 1] (by decide) rfl
    have hrc := va_recv hK hPc (ci := 6) (q0 := 0) rfl rfl
    refine cE_v (wc := (w_X5_put E a_ a_row a_partners a_share a_leftOver c_askedCount c_outcome w_8)) (wr := []) (w1 := (w_X5_put E a_ a_row a_partners a_share a_leftOver c_askedCount c_outcome w_10)) (va_runV (As := [.int x2, .int (7 : Int32), .int (0 : Int32)]) (rest := [])  ⟨hx, hb, hml, hown, hts⟩ (f_X5_put l E H.size (a_ := a_) (a_row := a_row) (a_partners := a_partners) (a_share := a_share) (a_leftOver := a_leftOver) (p1 := x2) (p2 := (7 : Int32)) (p3 := (0 : Int32)) (c_askedCount := c_askedCount) (c_outcome := c_outcome) (c_row := w_8) hc_11) (cwV 3 hts g_f_X5_startCounts_f_X5_put_52 rfl rfl rfl hd_X5_put ⟨Nat.le_of_ble_eq_true rfl, Nat.le_of_ble_eq_true rfl⟩) ⟨pW.blind, hrc, (pW.pre ⟨hK, hN⟩ hPc hDc)⟩ rfl rfl hl.1 rfl (lv_room (Nat.le_of_ble_eq_true rfl)) dX5_startCounts_54 ⟨Nat.le_of_ble_eq_true rfl, Nat.le_of_ble_eq_true rfl⟩) hS hFc hP hD [0, 1] [] rfl rfl (by decide) (by decide) (fun H locs hP hD hS => ?_)
    replace hP : va_P E.1 vwCl [(a_, .inr (6, [.ref a_row, .ref a_partners, .int c_askedCount, .int c_outcome, .ref a_share, .ref a_leftOver])), (a_row, .inl (E.2.1, 81, .inl w_10))] H := hP
    replace hD : va_D A [(a_, .inr (6, [.ref a_row, .ref a_partners, .int c_askedCount, .int c_outcome, .ref a_share, .ref a_leftOver])), (a_row, .inl (E.2.1, 81, .inl w_10))] := hD
    refine lv_iinc (v := x2 + (1 : Int32)) (lv' := [(2, .int (x2 + (1 : Int32))), (0, .ref a_)]) hx hb dX5_startCounts_57 hl (k := 1) rfl (rfl) (by decide) rfl (fun ls hl => ?_)
    refine lv_goto (tgt := 33) hx hb dX5_startCounts_60 (by decide) ?_
    cases hF
    exact hC (x2 + (1 : Int32)) w_10 rfl H locs ls (hP.sub [0, 1] rfl) (hD.sub [0, 1] (by decide) rfl) hS (lv_sub hl [1, 0] rfl)

set_option maxHeartbeats 4000000 in
set_option maxRecDepth 100000 in
theorem lw_X5_startCounts_33 {p : Program} (l : Launch) {e : Env} {s : State} {m : MethodId} {below : List Frame} {meth : Method} {c : Code} {Q : State → Prop} (E : EE) (K : Nat) {a_ a_row a_partners a_share a_leftOver : Nat} {p1 : Int32} {c_askedCount : Int32} {c_outcome : Int32} (hx : p.tables.exec = Jvm.exec) (hb : c.code = cX5_startCounts) (hml : c.maxLocals = 3) (hown : s.vm.findClass RX5 = some m.cls) (hts : ∀ w ∈ v_f_X5_startCounts, w.before #[Value.ref a_, Value.int p1] s = true) (hK : va_K E.1 vwCl (TY E) s) (hN : NX s) {A : Nat → Prop} (hA : ∀ q : Nat, s.heap.size ≤ q → A q) (j9 : Nat) (x2 : Int32) (c_row : Nat → Int32) (c_row' : Nat → Int32) (hL : lpF (fun u9 : Int32 × (Nat → Int32) => B_X5_startCounts_33  u9.1 u9.2) j9 (x2, c_row) = some c_row') (hX : (∀ (H : Heap) (locs : List Loc) (ls : Array Slot), va_P E.1 vwCl (w_X5_startCounts E a_ a_row a_partners a_share a_leftOver c_askedCount c_outcome c_row') H → va_D A (w_X5_startCounts E a_ a_row a_partners a_share a_leftOver c_askedCount c_outcome c_row') → va_S A s.heap H locs → lv_has ls 3 [] → W p l e ({ frames := 1, cells := 0, slots := 0, locals := 23 } : Room) s m #[Value.ref a_, Value.int p1] below meth c H locs 0 0 Q (F0 m 63 ls []))) : ∀ (H : Heap) (locs : List Loc) (ls : Array Slot), va_P E.1 vwCl (w_X5_startCounts E a_ a_row a_partners a_share a_leftOver c_askedCount c_outcome c_row) H → va_D A (w_X5_startCounts E a_ a_row a_partners a_share a_leftOver c_askedCount c_outcome c_row) → va_S A s.heap H locs → lv_has ls 3 [(0, .ref a_), (2, .int x2)] → W p l e ({ frames := 1, cells := 0, slots := 0, locals := 23 } : Room) s m #[Value.ref a_, Value.int p1] below meth c H locs 0 0 Q (F0 m 33 ls []) := by
  exact lp_rule (P := (fun u9 : Int32 × (Nat → Int32) => ∀ (H : Heap) (locs : List Loc) (ls : Array Slot), va_P E.1 vwCl (w_X5_startCounts E a_ a_row a_partners a_share a_leftOver c_askedCount c_outcome u9.2) H → va_D A (w_X5_startCounts E a_ a_row a_partners a_share a_leftOver c_askedCount c_outcome u9.2) → va_S A s.heap H locs → lv_has ls 3 [(0, .ref a_), (2, .int u9.1)] → W p l e ({ frames := 1, cells := 0, slots := 0, locals := 23 } : Room) s m #[Value.ref a_, Value.int p1] below meth c H locs 0 0 Q (F0 m 33 ls []))) (R := (fun r9 : (Nat → Int32) => (∀ (H : Heap) (locs : List Loc) (ls : Array Slot), va_P E.1 vwCl (w_X5_startCounts E a_ a_row a_partners a_share a_leftOver c_askedCount c_outcome r9) H → va_D A (w_X5_startCounts E a_ a_row a_partners a_share a_leftOver c_askedCount c_outcome r9) → va_S A s.heap H locs → lv_has ls 3 [] → W p l e ({ frames := 1, cells := 0, slots := 0, locals := 23 } : Room) s m #[Value.ref a_, Value.int p1] below meth c H locs 0 0 Q (F0 m 63 ls [])))) (fun u9 xx hF hC hE => wb_X5_startCounts_33 l E K (p1 := p1) (c_askedCount := c_askedCount) (c_outcome := c_outcome) (x2 := u9.1) (c_row := u9.2) hx hb hml hown hts hK hN hA (fun x2 c_row q9 => hC _ q9) (fun c_row q9 => hE _ q9) hF) j9 (x2, c_row) c_row' hL hX

set_option maxHeartbeats 4000000 in
set_option maxRecDepth 100000 in
theorem f_X5_startCounts (l : Launch) (E : EE) (sz : Nat) (K : Nat) {a_ a_row a_partners a_share a_leftOver : Nat} {p1 : Int32} {c_askedCount : Int32} {c_outcome : Int32} {c_row : Nat → Int32} {n_row : Nat → Int32} (hF : F_X5_startCounts K p1 c_row = some n_row) : Met l yX5_startCounts v_f_X5_startCounts (({ frames := 1, cells := 0, slots := 0, locals := 23 } : Room)) (va_Pc [.ref a_, .int p1] (pW E sz (w_X5_startCounts E a_ a_row a_partners a_share a_leftOver c_askedCount c_outcome c_row))) (va_Qv (fun (_u : Unit) => True) (fun (_u : Unit) tt => va_P E.1 vwCl (w_X5_startCounts E a_ a_row a_partners a_share a_leftOver c_askedCount c_outcome n_row) tt.heap ∧ va_D (va_A (w_X5_startCounts E a_ a_row a_partners a_share a_leftOver c_askedCount c_outcome c_row) sz) (w_X5_startCounts E a_ a_row a_partners a_share a_leftOver c_askedCount c_outcome n_row)) (va_A (w_X5_startCounts E a_ a_row a_partners a_share a_leftOver c_askedCount c_outcome c_row) sz)) 0 0 (va_A (w_X5_startCounts E a_ a_row a_partners a_share a_leftOver c_askedCount c_outcome c_row) sz) := by
  refine Met.ofW (cc := cX5_startCounts) (maxL := 3) (ret := none) (by decide) rfl ?_
  intro p e s m args below meth c s₁ B hml hv
  obtain ⟨rfl, hsz, ⟨hK, hN⟩, hP, hD0⟩ := hv
  have hx := B.exec
  have hb := B.bytes
  have hr := B.returns
  have hts := atoms_spec (ws := v_f_X5_startCounts) B.pre
  have hown : s.vm.findClass RX5 = some m.cls := own_of hd_X5_startCounts.1 (findClass_of_methodNamed B.named)
  have hlocks : meth.locks = false := B.notSynchronized
  subst hsz
  have hD := hD0.self (sz := s.heap.size)
  generalize hAe : va_A (w_X5_startCounts E a_ a_row a_partners a_share a_leftOver c_askedCount c_outcome c_row) s.heap.size = A at hD ⊢
  have hA : ∀ q : Nat, s.heap.size ≤ q → A q := fun q h => by rw [← hAe]; exact Or.inr h
  have hS : va_S A s.heap s.heap [] := va_S.rf
  have hl := lv_entry ([.ref a_, .int p1]) (n := 3) (Nat.le_of_ble_eq_true rfl)
  rw [lg_entry_eq]
  generalize (lg_sl ([.ref a_, .int p1]) ++ List.replicate (3 - (lg_sl ([.ref a_, .int p1])).length) Slot.unset).toArray = ls at hl ⊢
  have hl : lv_has ls 3 [(0, .ref a_), (1, .int p1)] := hl
  obtain ⟨Q, hQ⟩ : ∃ Q : State → Prop, Q = MQ below (va_Qv (fun (_u : Unit) => True) (fun (_u : Unit) tt => va_P E.1 vwCl (w_X5_startCounts E a_ a_row a_partners a_share a_leftOver c_askedCount c_outcome n_row) tt.heap ∧ va_D A (w_X5_startCounts E a_ a_row a_partners a_share a_leftOver c_askedCount c_outcome n_row)) A) #[Value.ref a_, Value.int p1] s 0 0 A := ⟨_, rfl⟩
  rw [← hQ]
  change W p l e ({ frames := 1, cells := 0, slots := 0, locals := 23 } : Room) s m #[Value.ref a_, Value.int p1] below meth c s.heap [] 0 0 Q (F0 m 0 ls [])
  suffices hh9 : ∀ (H : Heap) (locs : List Loc), va_P E.1 vwCl (w_X5_startCounts E a_ a_row a_partners a_share a_leftOver c_askedCount c_outcome c_row) H → va_D A (w_X5_startCounts E a_ a_row a_partners a_share a_leftOver c_askedCount c_outcome c_row) → va_S A s.heap H locs → W p l e ({ frames := 1, cells := 0, slots := 0, locals := 23 } : Room) s m #[Value.ref a_, Value.int p1] below meth c H locs 0 0 Q (F0 m 0 ls []) from hh9 s.heap [] hP hD hS
  clear hP hD hS
  intro H locs hP hD hS
  replace hP : va_P E.1 vwCl [(a_, .inr (6, [.ref a_row, .ref a_partners, .int c_askedCount, .int c_outcome, .ref a_share, .ref a_leftOver])), (a_row, .inl (E.2.1, 81, .inl c_row))] H := hP
  replace hD : va_D A [(a_, .inr (6, [.ref a_row, .ref a_partners, .int c_askedCount, .int c_outcome, .ref a_share, .ref a_leftOver])), (a_row, .inl (E.2.1, 81, .inl c_row))] := hD
  unfold F_X5_startCounts at hF
  refine lv_aload_n hx hb dX5_startCounts_0 rfl (lv_at hl 0 rfl) ?_
  refine gt_X5_0 (v := .ref a_row) hx hb hts i_f_X5_startCounts_X5 hown hK hP 0 rfl (hts (.fieldLink RX5 11 "HushWatch$State" "row" "[I") (List.mem_of_getElem? (i := 1) rfl)) rfl dX5_startCounts_1 ?_
  refine lv_iconst (v := 2) hx hb dX5_startCounts_4 (by decide) ?_
  refine lv_iload_n hx hb dX5_startCounts_5 rfl (lv_at hl 1 rfl) ?_
  refine va_iast hx hb hK hP hD hS 1 0 rfl rfl (vin rfl) dX5_startCounts_6 (fun H locs hP hD hS => ?_)
  replace hP : va_P E.1 vwCl [(a_, .inr (6, [.ref a_row, .ref a_partners, .int c_askedCount, .int c_outcome, .ref a_share, .ref a_leftOver])), (a_row, .inl (E.2.1, 81, .inl (upd c_row 2 p1)))] H := hP
  replace hD : va_D A [(a_, .inr (6, [.ref a_row, .ref a_partners, .int c_askedCount, .int c_outcome, .ref a_share, .ref a_leftOver])), (a_row, .inl (E.2.1, 81, .inl (upd c_row 2 p1)))] := hD
  replace hF := nm_s hF
  obtain ⟨f_1, hf_1, hF⟩ := hF
  rw [← hf_1] at hP hD
  refine lv_aload_n hx hb dX5_startCounts_7 rfl (lv_at hl 0 rfl) ?_
  refine gt_X5_0 (v := .ref a_row) hx hb hts i_f_X5_startCounts_X5 hown hK hP 0 rfl (hts (.fieldLink RX5 11 "HushWatch$State" "row" "[I") (List.mem_of_getElem? (i := 1) rfl)) rfl dX5_startCounts_8 ?_
  refine lv_bipush (v := 8) hx hb dX5_startCounts_11 (by decide) ?_
  refine lv_iconst (v := 0) hx hb dX5_startCounts_13 (by decide) ?_
  refine va_iast hx hb hK hP hD hS 1 0 rfl rfl (vin rfl) dX5_startCounts_14 (fun H locs hP hD hS => ?_)
  replace hP : va_P E.1 vwCl [(a_, .inr (6, [.ref a_row, .ref a_partners, .int c_askedCount, .int c_outcome, .ref a_share, .ref a_leftOver])), (a_row, .inl (E.2.1, 81, .inl (upd f_1 8 (0 : Int32))))] H := hP
  replace hD : va_D A [(a_, .inr (6, [.ref a_row, .ref a_partners, .int c_askedCount, .int c_outcome, .ref a_share, .ref a_leftOver])), (a_row, .inl (E.2.1, 81, .inl (upd f_1 8 (0 : Int32))))] := hD
  replace hF := nm_s hF
  obtain ⟨f_2, hf_2, hF⟩ := hF
  rw [← hf_2] at hP hD
  refine lv_aload_n hx hb dX5_startCounts_15 rfl (lv_at hl 0 rfl) ?_
  refine gt_X5_0 (v := .ref a_row) hx hb hts i_f_X5_startCounts_X5 hown hK hP 0 rfl (hts (.fieldLink RX5 11 "HushWatch$State" "row" "[I") (List.mem_of_getElem? (i := 1) rfl)) rfl dX5_startCounts_16 ?_
  refine lv_bipush (v := 9) hx hb dX5_startCounts_19 (by decide) ?_
  refine lv_iconst (v := 0) hx hb dX5_startCounts_21 (by decide) ?_
  refine va_iast hx hb hK hP hD hS 1 0 rfl rfl (vin rfl) dX5_startCounts_22 (fun H locs hP hD hS => ?_)
  replace hP : va_P E.1 vwCl [(a_, .inr (6, [.ref a_row, .ref a_partners, .int c_askedCount, .int c_outcome, .ref a_share, .ref a_leftOver])), (a_row, .inl (E.2.1, 81, .inl (upd f_2 9 (0 : Int32))))] H := hP
  replace hD : va_D A [(a_, .inr (6, [.ref a_row, .ref a_partners, .int c_askedCount, .int c_outcome, .ref a_share, .ref a_leftOver])), (a_row, .inl (E.2.1, 81, .inl (upd f_2 9 (0 : Int32))))] := hD
  replace hF := nm_s hF
  obtain ⟨f_3, hf_3, hF⟩ := hF
  rw [← hf_3] at hP hD
  refine lv_aload_n hx hb dX5_startCounts_23 rfl (lv_at hl 0 rfl) ?_
  refine gt_X5_0 (v := .ref a_row) hx hb hts i_f_X5_startCounts_X5 hown hK hP 0 rfl (hts (.fieldLink RX5 11 "HushWatch$State" "row" "[I") (List.mem_of_getElem? (i := 1) rfl)) rfl dX5_startCounts_24 ?_
  refine lv_bipush (v := 10) hx hb dX5_startCounts_27 (by decide) ?_
  refine lv_iconst (v := 0) hx hb dX5_startCounts_29 (by decide) ?_
  refine va_iast hx hb hK hP hD hS 1 0 rfl rfl (vin rfl) dX5_startCounts_30 (fun H locs hP hD hS => ?_)
  replace hP : va_P E.1 vwCl [(a_, .inr (6, [.ref a_row, .ref a_partners, .int c_askedCount, .int c_outcome, .ref a_share, .ref a_leftOver])), (a_row, .inl (E.2.1, 81, .inl (upd f_3 10 (0 : Int32))))] H := hP
  replace hD : va_D A [(a_, .inr (6, [.ref a_row, .ref a_partners, .int c_askedCount, .int c_outcome, .ref a_share, .ref a_leftOver])), (a_row, .inl (E.2.1, 81, .inl (upd f_3 10 (0 : Int32))))] := hD
  replace hF := nm_s hF
  obtain ⟨f_4, hf_4, hF⟩ := hF
  rw [← hf_4] at hP hD
  refine lv_iconst (v := 0) hx hb dX5_startCounts_31 (by decide) ?_
  refine lv_istore_n (lv' := [(2, .int (0 : Int32)), (0, .ref a_), (1, .int p1)]) hx hb dX5_startCounts_32 rfl hl (by decide) rfl (fun ls hl => ?_)
  replace hF := bd1_s hF
  obtain ⟨c_row_12, hL_13, hF⟩ := hF
  refine lw_X5_startCounts_33 l E K (p1 := p1) (c_askedCount := c_askedCount) (c_outcome := c_outcome) hx hb hml hown hts hK hN hA K (0 : Int32) f_4 c_row_12 hL_13 ?_ H locs ls (hP.sub [0, 1] rfl) (hD.sub [0, 1] (by decide) rfl) hS (lv_sub hl [1, 0] rfl)
  ·
    intro H locs ls hP hD hS hl
    replace hP : va_P E.1 vwCl [(a_, .inr (6, [.ref a_row, .ref a_partners, .int c_askedCount, .int c_outcome, .ref a_share, .ref a_leftOver])), (a_row, .inl (E.2.1, 81, .inl c_row_12))] H := hP
    replace hD : va_D A [(a_, .inr (6, [.ref a_row, .ref a_partners, .int c_askedCount, .int c_outcome, .ref a_share, .ref a_leftOver])), (a_row, .inl (E.2.1, 81, .inl c_row_12))] := hD
    rw [hQ]
    have h9 := fin9 (P := fun u9 : (Nat → Int32) => va_P E.1 vwCl (w_X5_startCounts E a_ a_row a_partners a_share a_leftOver c_askedCount c_outcome u9) H ∧ va_D A (w_X5_startCounts E a_ a_row a_partners a_share a_leftOver c_askedCount c_outcome u9)) hF ⟨hP, hD⟩
    obtain ⟨hP9, hD9⟩ := h9
    exact W.vret hx hb hr (fun tt ht hW => ⟨⟨(), rfl, trivial, ht ▸ hP9, hD9⟩, hS.F ht⟩) hS.2.2 dX5_startCounts_63
