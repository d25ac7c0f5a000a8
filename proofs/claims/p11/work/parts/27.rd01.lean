def dl_X3_readSign_27_rd01_0 : List (Nat × Instr × Nat) := [(0, .aload_n 0, 1), (1, .invokevirtual 140, 3), (4, .aload_n 0, 1), (5, .getfield 43, 3), (8, .aload_n 0, 1), (9, .getfield 31, 3), (12, .invokevirtual 143, 3), (15, .iload_n 1, 1), (16, .if_icmp .eq 12, 3), (28, .aload_n 0, 1), (29, .dup, 1), (30, .getfield 31, 3), (33, .iconst 1, 1), (34, .iadd, 1), (35, .putfield 31, 3), (38, .iconst 1, 1), (39, .ireturn, 1), (19, .aload_n 0, 1), (20, .aload_n 0, 1), (21, .getfield 31, 3), (24, .invokevirtual 87, 3), (27, .ireturn, 1)]
set_option maxRecDepth 100000 in
theorem dall_X3_readSign_27_rd01_0 : dchk cX3_readSign dl_X3_readSign_27_rd01_0 = true := by decide +kernel
theorem dX3_readSign_0 : decode cX3_readSign 0 = .ok (.aload_n 0, 1) := dchk_at dall_X3_readSign_27_rd01_0 (k := 0) rfl
theorem dX3_readSign_1 : decode cX3_readSign 1 = .ok (.invokevirtual 140, 3) := dchk_at dall_X3_readSign_27_rd01_0 (k := 1) rfl
theorem dX3_readSign_4 : decode cX3_readSign 4 = .ok (.aload_n 0, 1) := dchk_at dall_X3_readSign_27_rd01_0 (k := 2) rfl
theorem dX3_readSign_5 : decode cX3_readSign 5 = .ok (.getfield 43, 3) := dchk_at dall_X3_readSign_27_rd01_0 (k := 3) rfl
theorem dX3_readSign_8 : decode cX3_readSign 8 = .ok (.aload_n 0, 1) := dchk_at dall_X3_readSign_27_rd01_0 (k := 4) rfl
theorem dX3_readSign_9 : decode cX3_readSign 9 = .ok (.getfield 31, 3) := dchk_at dall_X3_readSign_27_rd01_0 (k := 5) rfl
theorem dX3_readSign_12 : decode cX3_readSign 12 = .ok (.invokevirtual 143, 3) := dchk_at dall_X3_readSign_27_rd01_0 (k := 6) rfl
theorem dX3_readSign_15 : decode cX3_readSign 15 = .ok (.iload_n 1, 1) := dchk_at dall_X3_readSign_27_rd01_0 (k := 7) rfl
theorem dX3_readSign_16 : decode cX3_readSign 16 = .ok (.if_icmp .eq 12, 3) := dchk_at dall_X3_readSign_27_rd01_0 (k := 8) rfl
theorem dX3_readSign_28 : decode cX3_readSign 28 = .ok (.aload_n 0, 1) := dchk_at dall_X3_readSign_27_rd01_0 (k := 9) rfl
theorem dX3_readSign_29 : decode cX3_readSign 29 = .ok (.dup, 1) := dchk_at dall_X3_readSign_27_rd01_0 (k := 10) rfl
theorem dX3_readSign_30 : decode cX3_readSign 30 = .ok (.getfield 31, 3) := dchk_at dall_X3_readSign_27_rd01_0 (k := 11) rfl
theorem dX3_readSign_33 : decode cX3_readSign 33 = .ok (.iconst 1, 1) := dchk_at dall_X3_readSign_27_rd01_0 (k := 12) rfl
theorem dX3_readSign_34 : decode cX3_readSign 34 = .ok (.iadd, 1) := dchk_at dall_X3_readSign_27_rd01_0 (k := 13) rfl
theorem dX3_readSign_35 : decode cX3_readSign 35 = .ok (.putfield 31, 3) := dchk_at dall_X3_readSign_27_rd01_0 (k := 14) rfl
theorem dX3_readSign_38 : decode cX3_readSign 38 = .ok (.iconst 1, 1) := dchk_at dall_X3_readSign_27_rd01_0 (k := 15) rfl
theorem dX3_readSign_39 : decode cX3_readSign 39 = .ok (.ireturn, 1) := dchk_at dall_X3_readSign_27_rd01_0 (k := 16) rfl
theorem dX3_readSign_19 : decode cX3_readSign 19 = .ok (.aload_n 0, 1) := dchk_at dall_X3_readSign_27_rd01_0 (k := 17) rfl
theorem dX3_readSign_20 : decode cX3_readSign 20 = .ok (.aload_n 0, 1) := dchk_at dall_X3_readSign_27_rd01_0 (k := 18) rfl
theorem dX3_readSign_21 : decode cX3_readSign 21 = .ok (.getfield 31, 3) := dchk_at dall_X3_readSign_27_rd01_0 (k := 19) rfl
theorem dX3_readSign_24 : decode cX3_readSign 24 = .ok (.invokevirtual 87, 3) := dchk_at dall_X3_readSign_27_rd01_0 (k := 20) rfl
theorem dX3_readSign_27 : decode cX3_readSign 27 = .ok (.ireturn, 1) := dchk_at dall_X3_readSign_27_rd01_0 (k := 21) rfl
def dl_X3_readNumber_27_rd01_0 : List (Nat × Instr × Nat) := [(56, .aload_n 0, 1), (57, .getfield 31, 3), (60, .aload_n 0, 1), (61, .getfield 43, 3), (64, .getfield 59, 3), (67, .if_icmp .ge 67, 3), (70, .aload_n 0, 1), (71, .getfield 43, 3), (74, .aload_n 0, 1), (75, .getfield 31, 3), (78, .invokevirtual 143, 3), (81, .invokestatic 158, 3), (84, .ifCond .eq 50, 3), (87, .aload_n 0, 1), (88, .getfield 31, 3), (91, .iload 5, 2), (93, .isub, 1), (94, .bipush 7, 2), (96, .if_icmp .ge 25, 3), (121, .aload_n 0, 1), (122, .dup, 1), (123, .getfield 31, 3), (126, .iconst 1, 1), (127, .iadd, 1), (128, .putfield 31, 3), (131, .goto (-75), 3), (99, .iload 6, 2), (101, .bipush 10, 2), (103, .imul, 1), (104, .aload_n 0, 1), (105, .getfield 43, 3), (108, .aload_n 0, 1), (109, .getfield 31, 3), (112, .invokevirtual 143, 3), (115, .iadd, 1), (116, .bipush 48, 2), (118, .isub, 1), (119, .istore 6, 2), (157, .putfield 37, 3), (160, .iload 7, 2), (162, .iconst 1, 1), (163, .if_icmp .lt 26, 3), (189, .aload_n 0, 1), (190, .iload_n 3, 1), (191, .invokevirtual 87, 3), (194, .ireturn, 1), (166, .iload 7, 2), (168, .bipush 7, 2), (170, .if_icmp .gt 19, 3), (173, .aload_n 0, 1)]
set_option maxRecDepth 100000 in
theorem dall_X3_readNumber_27_rd01_0 : dchk cX3_readNumber dl_X3_readNumber_27_rd01_0 = true := by decide +kernel
theorem dX3_readNumber_56 : decode cX3_readNumber 56 = .ok (.aload_n 0, 1) := dchk_at dall_X3_readNumber_27_rd01_0 (k := 0) rfl
theorem dX3_readNumber_57 : decode cX3_readNumber 57 = .ok (.getfield 31, 3) := dchk_at dall_X3_readNumber_27_rd01_0 (k := 1) rfl
theorem dX3_readNumber_60 : decode cX3_readNumber 60 = .ok (.aload_n 0, 1) := dchk_at dall_X3_readNumber_27_rd01_0 (k := 2) rfl
theorem dX3_readNumber_61 : decode cX3_readNumber 61 = .ok (.getfield 43, 3) := dchk_at dall_X3_readNumber_27_rd01_0 (k := 3) rfl
theorem dX3_readNumber_64 : decode cX3_readNumber 64 = .ok (.getfield 59, 3) := dchk_at dall_X3_readNumber_27_rd01_0 (k := 4) rfl
theorem dX3_readNumber_67 : decode cX3_readNumber 67 = .ok (.if_icmp .ge 67, 3) := dchk_at dall_X3_readNumber_27_rd01_0 (k := 5) rfl
theorem dX3_readNumber_70 : decode cX3_readNumber 70 = .ok (.aload_n 0, 1) := dchk_at dall_X3_readNumber_27_rd01_0 (k := 6) rfl
theorem dX3_readNumber_71 : decode cX3_readNumber 71 = .ok (.getfield 43, 3) := dchk_at dall_X3_readNumber_27_rd01_0 (k := 7) rfl
theorem dX3_readNumber_74 : decode cX3_readNumber 74 = .ok (.aload_n 0, 1) := dchk_at dall_X3_readNumber_27_rd01_0 (k := 8) rfl
theorem dX3_readNumber_75 : decode cX3_readNumber 75 = .ok (.getfield 31, 3) := dchk_at dall_X3_readNumber_27_rd01_0 (k := 9) rfl
theorem dX3_readNumber_78 : decode cX3_readNumber 78 = .ok (.invokevirtual 143, 3) := dchk_at dall_X3_readNumber_27_rd01_0 (k := 10) rfl
theorem dX3_readNumber_81 : decode cX3_readNumber 81 = .ok (.invokestatic 158, 3) := dchk_at dall_X3_readNumber_27_rd01_0 (k := 11) rfl
theorem dX3_readNumber_84 : decode cX3_readNumber 84 = .ok (.ifCond .eq 50, 3) := dchk_at dall_X3_readNumber_27_rd01_0 (k := 12) rfl
theorem dX3_readNumber_87 : decode cX3_readNumber 87 = .ok (.aload_n 0, 1) := dchk_at dall_X3_readNumber_27_rd01_0 (k := 13) rfl
theorem dX3_readNumber_88 : decode cX3_readNumber 88 = .ok (.getfield 31, 3) := dchk_at dall_X3_readNumber_27_rd01_0 (k := 14) rfl
theorem dX3_readNumber_91 : decode cX3_readNumber 91 = .ok (.iload 5, 2) := dchk_at dall_X3_readNumber_27_rd01_0 (k := 15) rfl
theorem dX3_readNumber_93 : decode cX3_readNumber 93 = .ok (.isub, 1) := dchk_at dall_X3_readNumber_27_rd01_0 (k := 16) rfl
theorem dX3_readNumber_94 : decode cX3_readNumber 94 = .ok (.bipush 7, 2) := dchk_at dall_X3_readNumber_27_rd01_0 (k := 17) rfl
theorem dX3_readNumber_96 : decode cX3_readNumber 96 = .ok (.if_icmp .ge 25, 3) := dchk_at dall_X3_readNumber_27_rd01_0 (k := 18) rfl
theorem dX3_readNumber_121 : decode cX3_readNumber 121 = .ok (.aload_n 0, 1) := dchk_at dall_X3_readNumber_27_rd01_0 (k := 19) rfl
theorem dX3_readNumber_122 : decode cX3_readNumber 122 = .ok (.dup, 1) := dchk_at dall_X3_readNumber_27_rd01_0 (k := 20) rfl
theorem dX3_readNumber_123 : decode cX3_readNumber 123 = .ok (.getfield 31, 3) := dchk_at dall_X3_readNumber_27_rd01_0 (k := 21) rfl
theorem dX3_readNumber_126 : decode cX3_readNumber 126 = .ok (.iconst 1, 1) := dchk_at dall_X3_readNumber_27_rd01_0 (k := 22) rfl
theorem dX3_readNumber_127 : decode cX3_readNumber 127 = .ok (.iadd, 1) := dchk_at dall_X3_readNumber_27_rd01_0 (k := 23) rfl
theorem dX3_readNumber_128 : decode cX3_readNumber 128 = .ok (.putfield 31, 3) := dchk_at dall_X3_readNumber_27_rd01_0 (k := 24) rfl
theorem dX3_readNumber_131 : decode cX3_readNumber 131 = .ok (.goto (-75), 3) := dchk_at dall_X3_readNumber_27_rd01_0 (k := 25) rfl
theorem dX3_readNumber_99 : decode cX3_readNumber 99 = .ok (.iload 6, 2) := dchk_at dall_X3_readNumber_27_rd01_0 (k := 26) rfl
theorem dX3_readNumber_101 : decode cX3_readNumber 101 = .ok (.bipush 10, 2) := dchk_at dall_X3_readNumber_27_rd01_0 (k := 27) rfl
theorem dX3_readNumber_103 : decode cX3_readNumber 103 = .ok (.imul, 1) := dchk_at dall_X3_readNumber_27_rd01_0 (k := 28) rfl
theorem dX3_readNumber_104 : decode cX3_readNumber 104 = .ok (.aload_n 0, 1) := dchk_at dall_X3_readNumber_27_rd01_0 (k := 29) rfl
theorem dX3_readNumber_105 : decode cX3_readNumber 105 = .ok (.getfield 43, 3) := dchk_at dall_X3_readNumber_27_rd01_0 (k := 30) rfl
theorem dX3_readNumber_108 : decode cX3_readNumber 108 = .ok (.aload_n 0, 1) := dchk_at dall_X3_readNumber_27_rd01_0 (k := 31) rfl
theorem dX3_readNumber_109 : decode cX3_readNumber 109 = .ok (.getfield 31, 3) := dchk_at dall_X3_readNumber_27_rd01_0 (k := 32) rfl
theorem dX3_readNumber_112 : decode cX3_readNumber 112 = .ok (.invokevirtual 143, 3) := dchk_at dall_X3_readNumber_27_rd01_0 (k := 33) rfl
theorem dX3_readNumber_115 : decode cX3_readNumber 115 = .ok (.iadd, 1) := dchk_at dall_X3_readNumber_27_rd01_0 (k := 34) rfl
theorem dX3_readNumber_116 : decode cX3_readNumber 116 = .ok (.bipush 48, 2) := dchk_at dall_X3_readNumber_27_rd01_0 (k := 35) rfl
theorem dX3_readNumber_118 : decode cX3_readNumber 118 = .ok (.isub, 1) := dchk_at dall_X3_readNumber_27_rd01_0 (k := 36) rfl
theorem dX3_readNumber_119 : decode cX3_readNumber 119 = .ok (.istore 6, 2) := dchk_at dall_X3_readNumber_27_rd01_0 (k := 37) rfl
theorem dX3_readNumber_157 : decode cX3_readNumber 157 = .ok (.putfield 37, 3) := dchk_at dall_X3_readNumber_27_rd01_0 (k := 38) rfl
theorem dX3_readNumber_160 : decode cX3_readNumber 160 = .ok (.iload 7, 2) := dchk_at dall_X3_readNumber_27_rd01_0 (k := 39) rfl
theorem dX3_readNumber_162 : decode cX3_readNumber 162 = .ok (.iconst 1, 1) := dchk_at dall_X3_readNumber_27_rd01_0 (k := 40) rfl
theorem dX3_readNumber_163 : decode cX3_readNumber 163 = .ok (.if_icmp .lt 26, 3) := dchk_at dall_X3_readNumber_27_rd01_0 (k := 41) rfl
theorem dX3_readNumber_189 : decode cX3_readNumber 189 = .ok (.aload_n 0, 1) := dchk_at dall_X3_readNumber_27_rd01_0 (k := 42) rfl
theorem dX3_readNumber_190 : decode cX3_readNumber 190 = .ok (.iload_n 3, 1) := dchk_at dall_X3_readNumber_27_rd01_0 (k := 43) rfl
theorem dX3_readNumber_191 : decode cX3_readNumber 191 = .ok (.invokevirtual 87, 3) := dchk_at dall_X3_readNumber_27_rd01_0 (k := 44) rfl
theorem dX3_readNumber_194 : decode cX3_readNumber 194 = .ok (.ireturn, 1) := dchk_at dall_X3_readNumber_27_rd01_0 (k := 45) rfl
theorem dX3_readNumber_166 : decode cX3_readNumber 166 = .ok (.iload 7, 2) := dchk_at dall_X3_readNumber_27_rd01_0 (k := 46) rfl
theorem dX3_readNumber_168 : decode cX3_readNumber 168 = .ok (.bipush 7, 2) := dchk_at dall_X3_readNumber_27_rd01_0 (k := 47) rfl
theorem dX3_readNumber_170 : decode cX3_readNumber 170 = .ok (.if_icmp .gt 19, 3) := dchk_at dall_X3_readNumber_27_rd01_0 (k := 48) rfl
theorem dX3_readNumber_173 : decode cX3_readNumber 173 = .ok (.aload_n 0, 1) := dchk_at dall_X3_readNumber_27_rd01_0 (k := 49) rfl
def dl_X3_readNumber_27_rd01_1 : List (Nat × Instr × Nat) := [(174, .getfield 37, 3), (177, .iload_n 1, 1), (178, .if_icmp .lt 11, 3), (181, .aload_n 0, 1), (182, .getfield 37, 3), (185, .iload_n 2, 1), (186, .if_icmp .le 9, 3), (195, .iconst 1, 1), (196, .ireturn, 1), (134, .aload_n 0, 1), (135, .getfield 31, 3), (138, .iload 5, 2), (140, .isub, 1), (141, .istore 7, 2), (143, .aload_n 0, 1), (144, .iload 4, 2), (146, .ifCond .eq 9, 3), (155, .iload 6, 2), (149, .iload 6, 2), (151, .ineg, 1), (152, .goto 5, 3), (47, .aload_n 0, 1), (48, .getfield 31, 3), (51, .istore 5, 2), (53, .iconst 0, 1), (54, .istore 6, 2), (30, .istore 4, 2), (32, .iload 4, 2), (34, .ifCond .eq 13, 3), (37, .aload_n 0, 1), (38, .dup, 1), (39, .getfield 31, 3), (42, .iconst 1, 1), (43, .iadd, 1), (44, .putfield 31, 3), (0, .aload_n 0, 1), (1, .invokevirtual 140, 3), (4, .aload_n 0, 1), (5, .getfield 31, 3), (8, .istore_n 3, 1), (9, .aload_n 0, 1), (10, .getfield 43, 3), (13, .aload_n 0, 1), (14, .getfield 31, 3), (17, .invokevirtual 143, 3), (20, .bipush 45, 2), (22, .if_icmp .ne 7, 3), (29, .iconst 0, 1), (25, .iconst 1, 1), (26, .goto 4, 3)]
set_option maxRecDepth 100000 in
theorem dall_X3_readNumber_27_rd01_1 : dchk cX3_readNumber dl_X3_readNumber_27_rd01_1 = true := by decide +kernel
theorem dX3_readNumber_174 : decode cX3_readNumber 174 = .ok (.getfield 37, 3) := dchk_at dall_X3_readNumber_27_rd01_1 (k := 0) rfl
theorem dX3_readNumber_177 : decode cX3_readNumber 177 = .ok (.iload_n 1, 1) := dchk_at dall_X3_readNumber_27_rd01_1 (k := 1) rfl
theorem dX3_readNumber_178 : decode cX3_readNumber 178 = .ok (.if_icmp .lt 11, 3) := dchk_at dall_X3_readNumber_27_rd01_1 (k := 2) rfl
theorem dX3_readNumber_181 : decode cX3_readNumber 181 = .ok (.aload_n 0, 1) := dchk_at dall_X3_readNumber_27_rd01_1 (k := 3) rfl
theorem dX3_readNumber_182 : decode cX3_readNumber 182 = .ok (.getfield 37, 3) := dchk_at dall_X3_readNumber_27_rd01_1 (k := 4) rfl
theorem dX3_readNumber_185 : decode cX3_readNumber 185 = .ok (.iload_n 2, 1) := dchk_at dall_X3_readNumber_27_rd01_1 (k := 5) rfl
theorem dX3_readNumber_186 : decode cX3_readNumber 186 = .ok (.if_icmp .le 9, 3) := dchk_at dall_X3_readNumber_27_rd01_1 (k := 6) rfl
theorem dX3_readNumber_195 : decode cX3_readNumber 195 = .ok (.iconst 1, 1) := dchk_at dall_X3_readNumber_27_rd01_1 (k := 7) rfl
theorem dX3_readNumber_196 : decode cX3_readNumber 196 = .ok (.ireturn, 1) := dchk_at dall_X3_readNumber_27_rd01_1 (k := 8) rfl
theorem dX3_readNumber_134 : decode cX3_readNumber 134 = .ok (.aload_n 0, 1) := dchk_at dall_X3_readNumber_27_rd01_1 (k := 9) rfl
theorem dX3_readNumber_135 : decode cX3_readNumber 135 = .ok (.getfield 31, 3) := dchk_at dall_X3_readNumber_27_rd01_1 (k := 10) rfl
theorem dX3_readNumber_138 : decode cX3_readNumber 138 = .ok (.iload 5, 2) := dchk_at dall_X3_readNumber_27_rd01_1 (k := 11) rfl
theorem dX3_readNumber_140 : decode cX3_readNumber 140 = .ok (.isub, 1) := dchk_at dall_X3_readNumber_27_rd01_1 (k := 12) rfl
theorem dX3_readNumber_141 : decode cX3_readNumber 141 = .ok (.istore 7, 2) := dchk_at dall_X3_readNumber_27_rd01_1 (k := 13) rfl
theorem dX3_readNumber_143 : decode cX3_readNumber 143 = .ok (.aload_n 0, 1) := dchk_at dall_X3_readNumber_27_rd01_1 (k := 14) rfl
theorem dX3_readNumber_144 : decode cX3_readNumber 144 = .ok (.iload 4, 2) := dchk_at dall_X3_readNumber_27_rd01_1 (k := 15) rfl
theorem dX3_readNumber_146 : decode cX3_readNumber 146 = .ok (.ifCond .eq 9, 3) := dchk_at dall_X3_readNumber_27_rd01_1 (k := 16) rfl
theorem dX3_readNumber_155 : decode cX3_readNumber 155 = .ok (.iload 6, 2) := dchk_at dall_X3_readNumber_27_rd01_1 (k := 17) rfl
theorem dX3_readNumber_149 : decode cX3_readNumber 149 = .ok (.iload 6, 2) := dchk_at dall_X3_readNumber_27_rd01_1 (k := 18) rfl
theorem dX3_readNumber_151 : decode cX3_readNumber 151 = .ok (.ineg, 1) := dchk_at dall_X3_readNumber_27_rd01_1 (k := 19) rfl
theorem dX3_readNumber_152 : decode cX3_readNumber 152 = .ok (.goto 5, 3) := dchk_at dall_X3_readNumber_27_rd01_1 (k := 20) rfl
theorem dX3_readNumber_47 : decode cX3_readNumber 47 = .ok (.aload_n 0, 1) := dchk_at dall_X3_readNumber_27_rd01_1 (k := 21) rfl
theorem dX3_readNumber_48 : decode cX3_readNumber 48 = .ok (.getfield 31, 3) := dchk_at dall_X3_readNumber_27_rd01_1 (k := 22) rfl
theorem dX3_readNumber_51 : decode cX3_readNumber 51 = .ok (.istore 5, 2) := dchk_at dall_X3_readNumber_27_rd01_1 (k := 23) rfl
theorem dX3_readNumber_53 : decode cX3_readNumber 53 = .ok (.iconst 0, 1) := dchk_at dall_X3_readNumber_27_rd01_1 (k := 24) rfl
theorem dX3_readNumber_54 : decode cX3_readNumber 54 = .ok (.istore 6, 2) := dchk_at dall_X3_readNumber_27_rd01_1 (k := 25) rfl
theorem dX3_readNumber_30 : decode cX3_readNumber 30 = .ok (.istore 4, 2) := dchk_at dall_X3_readNumber_27_rd01_1 (k := 26) rfl
theorem dX3_readNumber_32 : decode cX3_readNumber 32 = .ok (.iload 4, 2) := dchk_at dall_X3_readNumber_27_rd01_1 (k := 27) rfl
theorem dX3_readNumber_34 : decode cX3_readNumber 34 = .ok (.ifCond .eq 13, 3) := dchk_at dall_X3_readNumber_27_rd01_1 (k := 28) rfl
theorem dX3_readNumber_37 : decode cX3_readNumber 37 = .ok (.aload_n 0, 1) := dchk_at dall_X3_readNumber_27_rd01_1 (k := 29) rfl
theorem dX3_readNumber_38 : decode cX3_readNumber 38 = .ok (.dup, 1) := dchk_at dall_X3_readNumber_27_rd01_1 (k := 30) rfl
theorem dX3_readNumber_39 : decode cX3_readNumber 39 = .ok (.getfield 31, 3) := dchk_at dall_X3_readNumber_27_rd01_1 (k := 31) rfl
theorem dX3_readNumber_42 : decode cX3_readNumber 42 = .ok (.iconst 1, 1) := dchk_at dall_X3_readNumber_27_rd01_1 (k := 32) rfl
theorem dX3_readNumber_43 : decode cX3_readNumber 43 = .ok (.iadd, 1) := dchk_at dall_X3_readNumber_27_rd01_1 (k := 33) rfl
theorem dX3_readNumber_44 : decode cX3_readNumber 44 = .ok (.putfield 31, 3) := dchk_at dall_X3_readNumber_27_rd01_1 (k := 34) rfl
theorem dX3_readNumber_0 : decode cX3_readNumber 0 = .ok (.aload_n 0, 1) := dchk_at dall_X3_readNumber_27_rd01_1 (k := 35) rfl
theorem dX3_readNumber_1 : decode cX3_readNumber 1 = .ok (.invokevirtual 140, 3) := dchk_at dall_X3_readNumber_27_rd01_1 (k := 36) rfl
theorem dX3_readNumber_4 : decode cX3_readNumber 4 = .ok (.aload_n 0, 1) := dchk_at dall_X3_readNumber_27_rd01_1 (k := 37) rfl
theorem dX3_readNumber_5 : decode cX3_readNumber 5 = .ok (.getfield 31, 3) := dchk_at dall_X3_readNumber_27_rd01_1 (k := 38) rfl
theorem dX3_readNumber_8 : decode cX3_readNumber 8 = .ok (.istore_n 3, 1) := dchk_at dall_X3_readNumber_27_rd01_1 (k := 39) rfl
theorem dX3_readNumber_9 : decode cX3_readNumber 9 = .ok (.aload_n 0, 1) := dchk_at dall_X3_readNumber_27_rd01_1 (k := 40) rfl
theorem dX3_readNumber_10 : decode cX3_readNumber 10 = .ok (.getfield 43, 3) := dchk_at dall_X3_readNumber_27_rd01_1 (k := 41) rfl
theorem dX3_readNumber_13 : decode cX3_readNumber 13 = .ok (.aload_n 0, 1) := dchk_at dall_X3_readNumber_27_rd01_1 (k := 42) rfl
theorem dX3_readNumber_14 : decode cX3_readNumber 14 = .ok (.getfield 31, 3) := dchk_at dall_X3_readNumber_27_rd01_1 (k := 43) rfl
theorem dX3_readNumber_17 : decode cX3_readNumber 17 = .ok (.invokevirtual 143, 3) := dchk_at dall_X3_readNumber_27_rd01_1 (k := 44) rfl
theorem dX3_readNumber_20 : decode cX3_readNumber 20 = .ok (.bipush 45, 2) := dchk_at dall_X3_readNumber_27_rd01_1 (k := 45) rfl
theorem dX3_readNumber_22 : decode cX3_readNumber 22 = .ok (.if_icmp .ne 7, 3) := dchk_at dall_X3_readNumber_27_rd01_1 (k := 46) rfl
theorem dX3_readNumber_29 : decode cX3_readNumber 29 = .ok (.iconst 0, 1) := dchk_at dall_X3_readNumber_27_rd01_1 (k := 47) rfl
theorem dX3_readNumber_25 : decode cX3_readNumber 25 = .ok (.iconst 1, 1) := dchk_at dall_X3_readNumber_27_rd01_1 (k := 48) rfl
theorem dX3_readNumber_26 : decode cX3_readNumber 26 = .ok (.goto 4, 3) := dchk_at dall_X3_readNumber_27_rd01_1 (k := 49) rfl
def dl_X3_readSite_27_rd01_0 : List (Nat × Instr × Nat) := [(41, .aload_n 0, 1), (42, .sipush (-999), 3), (45, .sipush 999, 3), (48, .invokevirtual 96, 3), (51, .ifCond .ne 5, 3), (56, .aload_n 0, 1), (57, .getfield 15, 3), (60, .iconst 2, 1), (61, .aload_n 0, 1), (62, .getfield 21, 3), (65, .imul, 1), (66, .iload_n 1, 1), (67, .iadd, 1), (68, .aload_n 0, 1), (69, .getfield 37, 3), (72, .iastore, 1), (73, .iinc 1 1, 3), (76, .goto (-56), 3), (20, .iload_n 1, 1), (21, .iconst 2, 1), (22, .if_icmp .ge 57, 3), (25, .iload_n 1, 1), (26, .iconst 1, 1), (27, .if_icmp .ne 14, 3), (30, .aload_n 0, 1), (31, .bipush 44, 2), (33, .invokevirtual 62, 3), (36, .ifCond .ne 5, 3), (0, .aload_n 0, 1), (1, .getfield 21, 3), (4, .bipush 8, 2), (6, .if_icmp .lt 12, 3), (18, .iconst 0, 1), (19, .istore_n 1, 1), (39, .iconst 0, 1), (40, .ireturn, 1), (54, .iconst 0, 1), (55, .ireturn, 1), (79, .aload_n 0, 1), (80, .dup, 1), (81, .getfield 21, 3), (84, .iconst 1, 1), (85, .iadd, 1), (86, .putfield 21, 3), (89, .iconst 1, 1), (90, .ireturn, 1), (9, .aload_n 0, 1), (10, .aload_n 0, 1), (11, .getfield 34, 3), (14, .invokevirtual 87, 3)]
set_option maxRecDepth 100000 in
theorem dall_X3_readSite_27_rd01_0 : dchk cX3_readSite dl_X3_readSite_27_rd01_0 = true := by decide +kernel
theorem dX3_readSite_41 : decode cX3_readSite 41 = .ok (.aload_n 0, 1) := dchk_at dall_X3_readSite_27_rd01_0 (k := 0) rfl
theorem dX3_readSite_42 : decode cX3_readSite 42 = .ok (.sipush (-999), 3) := dchk_at dall_X3_readSite_27_rd01_0 (k := 1) rfl
theorem dX3_readSite_45 : decode cX3_readSite 45 = .ok (.sipush 999, 3) := dchk_at dall_X3_readSite_27_rd01_0 (k := 2) rfl
theorem dX3_readSite_48 : decode cX3_readSite 48 = .ok (.invokevirtual 96, 3) := dchk_at dall_X3_readSite_27_rd01_0 (k := 3) rfl
theorem dX3_readSite_51 : decode cX3_readSite 51 = .ok (.ifCond .ne 5, 3) := dchk_at dall_X3_readSite_27_rd01_0 (k := 4) rfl
theorem dX3_readSite_56 : decode cX3_readSite 56 = .ok (.aload_n 0, 1) := dchk_at dall_X3_readSite_27_rd01_0 (k := 5) rfl
theorem dX3_readSite_57 : decode cX3_readSite 57 = .ok (.getfield 15, 3) := dchk_at dall_X3_readSite_27_rd01_0 (k := 6) rfl
theorem dX3_readSite_60 : decode cX3_readSite 60 = .ok (.iconst 2, 1) := dchk_at dall_X3_readSite_27_rd01_0 (k := 7) rfl
theorem dX3_readSite_61 : decode cX3_readSite 61 = .ok (.aload_n 0, 1) := dchk_at dall_X3_readSite_27_rd01_0 (k := 8) rfl
theorem dX3_readSite_62 : decode cX3_readSite 62 = .ok (.getfield 21, 3) := dchk_at dall_X3_readSite_27_rd01_0 (k := 9) rfl
theorem dX3_readSite_65 : decode cX3_readSite 65 = .ok (.imul, 1) := dchk_at dall_X3_readSite_27_rd01_0 (k := 10) rfl
theorem dX3_readSite_66 : decode cX3_readSite 66 = .ok (.iload_n 1, 1) := dchk_at dall_X3_readSite_27_rd01_0 (k := 11) rfl
theorem dX3_readSite_67 : decode cX3_readSite 67 = .ok (.iadd, 1) := dchk_at dall_X3_readSite_27_rd01_0 (k := 12) rfl
theorem dX3_readSite_68 : decode cX3_readSite 68 = .ok (.aload_n 0, 1) := dchk_at dall_X3_readSite_27_rd01_0 (k := 13) rfl
theorem dX3_readSite_69 : decode cX3_readSite 69 = .ok (.getfield 37, 3) := dchk_at dall_X3_readSite_27_rd01_0 (k := 14) rfl
theorem dX3_readSite_72 : decode cX3_readSite 72 = .ok (.iastore, 1) := dchk_at dall_X3_readSite_27_rd01_0 (k := 15) rfl
theorem dX3_readSite_73 : decode cX3_readSite 73 = .ok (.iinc 1 1, 3) := dchk_at dall_X3_readSite_27_rd01_0 (k := 16) rfl
theorem dX3_readSite_76 : decode cX3_readSite 76 = .ok (.goto (-56), 3) := dchk_at dall_X3_readSite_27_rd01_0 (k := 17) rfl
theorem dX3_readSite_20 : decode cX3_readSite 20 = .ok (.iload_n 1, 1) := dchk_at dall_X3_readSite_27_rd01_0 (k := 18) rfl
theorem dX3_readSite_21 : decode cX3_readSite 21 = .ok (.iconst 2, 1) := dchk_at dall_X3_readSite_27_rd01_0 (k := 19) rfl
theorem dX3_readSite_22 : decode cX3_readSite 22 = .ok (.if_icmp .ge 57, 3) := dchk_at dall_X3_readSite_27_rd01_0 (k := 20) rfl
theorem dX3_readSite_25 : decode cX3_readSite 25 = .ok (.iload_n 1, 1) := dchk_at dall_X3_readSite_27_rd01_0 (k := 21) rfl
theorem dX3_readSite_26 : decode cX3_readSite 26 = .ok (.iconst 1, 1) := dchk_at dall_X3_readSite_27_rd01_0 (k := 22) rfl
theorem dX3_readSite_27 : decode cX3_readSite 27 = .ok (.if_icmp .ne 14, 3) := dchk_at dall_X3_readSite_27_rd01_0 (k := 23) rfl
theorem dX3_readSite_30 : decode cX3_readSite 30 = .ok (.aload_n 0, 1) := dchk_at dall_X3_readSite_27_rd01_0 (k := 24) rfl
theorem dX3_readSite_31 : decode cX3_readSite 31 = .ok (.bipush 44, 2) := dchk_at dall_X3_readSite_27_rd01_0 (k := 25) rfl
theorem dX3_readSite_33 : decode cX3_readSite 33 = .ok (.invokevirtual 62, 3) := dchk_at dall_X3_readSite_27_rd01_0 (k := 26) rfl
theorem dX3_readSite_36 : decode cX3_readSite 36 = .ok (.ifCond .ne 5, 3) := dchk_at dall_X3_readSite_27_rd01_0 (k := 27) rfl
theorem dX3_readSite_0 : decode cX3_readSite 0 = .ok (.aload_n 0, 1) := dchk_at dall_X3_readSite_27_rd01_0 (k := 28) rfl
theorem dX3_readSite_1 : decode cX3_readSite 1 = .ok (.getfield 21, 3) := dchk_at dall_X3_readSite_27_rd01_0 (k := 29) rfl
theorem dX3_readSite_4 : decode cX3_readSite 4 = .ok (.bipush 8, 2) := dchk_at dall_X3_readSite_27_rd01_0 (k := 30) rfl
theorem dX3_readSite_6 : decode cX3_readSite 6 = .ok (.if_icmp .lt 12, 3) := dchk_at dall_X3_readSite_27_rd01_0 (k := 31) rfl
theorem dX3_readSite_18 : decode cX3_readSite 18 = .ok (.iconst 0, 1) := dchk_at dall_X3_readSite_27_rd01_0 (k := 32) rfl
theorem dX3_readSite_19 : decode cX3_readSite 19 = .ok (.istore_n 1, 1) := dchk_at dall_X3_readSite_27_rd01_0 (k := 33) rfl
theorem dX3_readSite_39 : decode cX3_readSite 39 = .ok (.iconst 0, 1) := dchk_at dall_X3_readSite_27_rd01_0 (k := 34) rfl
theorem dX3_readSite_40 : decode cX3_readSite 40 = .ok (.ireturn, 1) := dchk_at dall_X3_readSite_27_rd01_0 (k := 35) rfl
theorem dX3_readSite_54 : decode cX3_readSite 54 = .ok (.iconst 0, 1) := dchk_at dall_X3_readSite_27_rd01_0 (k := 36) rfl
theorem dX3_readSite_55 : decode cX3_readSite 55 = .ok (.ireturn, 1) := dchk_at dall_X3_readSite_27_rd01_0 (k := 37) rfl
theorem dX3_readSite_79 : decode cX3_readSite 79 = .ok (.aload_n 0, 1) := dchk_at dall_X3_readSite_27_rd01_0 (k := 38) rfl
theorem dX3_readSite_80 : decode cX3_readSite 80 = .ok (.dup, 1) := dchk_at dall_X3_readSite_27_rd01_0 (k := 39) rfl
theorem dX3_readSite_81 : decode cX3_readSite 81 = .ok (.getfield 21, 3) := dchk_at dall_X3_readSite_27_rd01_0 (k := 40) rfl
theorem dX3_readSite_84 : decode cX3_readSite 84 = .ok (.iconst 1, 1) := dchk_at dall_X3_readSite_27_rd01_0 (k := 41) rfl
theorem dX3_readSite_85 : decode cX3_readSite 85 = .ok (.iadd, 1) := dchk_at dall_X3_readSite_27_rd01_0 (k := 42) rfl
theorem dX3_readSite_86 : decode cX3_readSite 86 = .ok (.putfield 21, 3) := dchk_at dall_X3_readSite_27_rd01_0 (k := 43) rfl
theorem dX3_readSite_89 : decode cX3_readSite 89 = .ok (.iconst 1, 1) := dchk_at dall_X3_readSite_27_rd01_0 (k := 44) rfl
theorem dX3_readSite_90 : decode cX3_readSite 90 = .ok (.ireturn, 1) := dchk_at dall_X3_readSite_27_rd01_0 (k := 45) rfl
theorem dX3_readSite_9 : decode cX3_readSite 9 = .ok (.aload_n 0, 1) := dchk_at dall_X3_readSite_27_rd01_0 (k := 46) rfl
theorem dX3_readSite_10 : decode cX3_readSite 10 = .ok (.aload_n 0, 1) := dchk_at dall_X3_readSite_27_rd01_0 (k := 47) rfl
theorem dX3_readSite_11 : decode cX3_readSite 11 = .ok (.getfield 34, 3) := dchk_at dall_X3_readSite_27_rd01_0 (k := 48) rfl
theorem dX3_readSite_14 : decode cX3_readSite 14 = .ok (.invokevirtual 87, 3) := dchk_at dall_X3_readSite_27_rd01_0 (k := 49) rfl
def dl_X3_readSite_27_rd01_1 : List (Nat × Instr × Nat) := [(17, .ireturn, 1)]
set_option maxRecDepth 100000 in
theorem dall_X3_readSite_27_rd01_1 : dchk cX3_readSite dl_X3_readSite_27_rd01_1 = true := by decide +kernel
theorem dX3_readSite_17 : decode cX3_readSite 17 = .ok (.ireturn, 1) := dchk_at dall_X3_readSite_27_rd01_1 (k := 0) rfl
def F_X3_readSign (K : Nat) (p1 : Int32) (c_tape_bytes : Nat → Int32) (c_tape_length : Int32) (c_at : Int32) (c_failed : Int32) : Option (Int32 × Int32 × Int32) :=
  bd1 (F_X3_skipBlanks K c_tape_bytes c_tape_length c_at) (fun w_1 => bd1 (F_X6_signAt w_1 c_tape_bytes c_tape_length) (fun r_3 => if r_3 = p1 then some ((1 : Int32), w_1 + (1 : Int32), c_failed) else bd2 (F_X3_failAt w_1 c_failed) (fun r_6 w_7 => some (r_6, w_1, w_7))))
abbrev w_X3_readSign (E : EE) (a_ a_tape a_rules a_places a_steps a_tape_bytes : Nat) (c_siteCount : Int32) (c_stepCount : Int32) (c_seenRules : Int32) (c_at : Int32) (c_wordStart : Int32) (c_number : Int32) (c_failed : Int32) (c_tape_length : Int32) (c_tape_bytes : Nat → Int32) : va_W := [(a_, .inr (4, [.ref a_tape, .ref a_rules, .ref a_places, .ref a_steps, .int c_siteCount, .int c_stepCount, .int c_seenRules, .int c_at, .int c_wordStart, .int c_number, .int c_failed])), (a_tape, .inr (7, [.ref a_tape_bytes, .int c_tape_length])), (a_tape_bytes, .inl (E.2.2.1, 320, .inl c_tape_bytes))]
def v_f_X3_readSign : List Cond := List.cons (.code yX3_readSign cX3_readSign 2 (some .boolean)) (HAppend.hAppend (α := List Cond) (β := List Cond) (γ := List Cond) [.fieldLink RX3 43 "HushWatch$Reader" "tape" "LHushWatch$Tape;", .fieldLink RX3 31 "HushWatch$Reader" "at" "I", .methodLink RX3 140 yX3_skipBlanks, .instanceMethod yX3_skipBlanks, .selects RX3 yX3_skipBlanks yX3_skipBlanks, .initialized RX3, .methodLink RX3 143 yX6_signAt, .instanceMethod yX6_signAt, .selects RX6 yX6_signAt yX6_signAt, .initialized RX6, .methodLink RX3 87 yX3_failAt, .instanceMethod yX3_failAt, .selects RX3 yX3_failAt yX3_failAt] (HAppend.hAppend (α := List Cond) (β := List Cond) (γ := List Cond) v_f_X3_skipBlanks (HAppend.hAppend (α := List Cond) (β := List Cond) (γ := List Cond) wsX30 (HAppend.hAppend (α := List Cond) (β := List Cond) (γ := List Cond) v_f_X6_signAt (HAppend.hAppend (α := List Cond) (β := List Cond) (γ := List Cond) v_f_X3_failAt [])))))
theorem gw_f_X3_readSign : v_f_X3_readSign.all goodWord = true := by decide +kernel
theorem i_f_X3_readSign_X3 : ∀ w ∈ wsX30, w ∈ v_f_X3_readSign := fun _ h => List.mem_cons_of_mem _ (List.mem_append_right _ (List.mem_append_right _ (List.mem_append_left _ h)))
theorem g_f_X3_readSign_f_X3_skipBlanks_140 : GoodIn v_f_X3_readSign (wsV RX3 140 RX3 yX3_skipBlanks v_f_X3_skipBlanks) := goodIn_app (goodIn_of _ (by decide +kernel)) (goodIn_sub (fun _ h => List.mem_cons_of_mem _ (List.mem_append_right _ (List.mem_append_left _ h))) gw_f_X3_skipBlanks)
theorem g_f_X3_readSign_f_X6_signAt_143 : GoodIn v_f_X3_readSign (wsV RX3 143 RX6 yX6_signAt v_f_X6_signAt) := goodIn_app (goodIn_of _ (by decide +kernel)) (goodIn_sub (fun _ h => List.mem_cons_of_mem _ (List.mem_append_right _ (List.mem_append_right _ (List.mem_append_right _ (List.mem_append_left _ h))))) gw_f_X6_signAt)
theorem g_f_X3_readSign_f_X3_failAt_87 : GoodIn v_f_X3_readSign (wsV RX3 87 RX3 yX3_failAt v_f_X3_failAt) := goodIn_app (goodIn_of _ (by decide +kernel)) (goodIn_sub (fun _ h => List.mem_cons_of_mem _ (List.mem_append_right _ (List.mem_append_right _ (List.mem_append_right _ (List.mem_append_right _ (List.mem_append_left _ h)))))) gw_f_X3_failAt)
theorem hd_X3_readSign : yX3_readSign.cls = RX3 ∧ yX3_readSign.cls ≠ "java/lang/invoke/MethodHandle" ∧ yX3_readSign.cls ≠ "java/lang/invoke/VarHandle" ∧ (parseMethodDescriptor yX3_readSign.desc).map (fun d => d.parameters.length) = some 1 := by decide +kernel
set_option maxHeartbeats 4000000 in
set_option maxRecDepth 100000 in
theorem f_X3_readSign (l : Launch) (E : EE) (sz : Nat) (K : Nat) {a_ a_tape a_rules a_places a_steps a_tape_bytes : Nat} {p1 : Int32} {c_siteCount : Int32} {c_stepCount : Int32} {c_seenRules : Int32} {c_at : Int32} {c_wordStart : Int32} {c_number : Int32} {c_failed : Int32} {c_tape_length : Int32} {c_tape_bytes : Nat → Int32} {rr : Int32} {n_at : Int32} {n_failed : Int32} (hF : F_X3_readSign K p1 c_tape_bytes c_tape_length c_at c_failed = some (rr, n_at, n_failed)) : Met l yX3_readSign v_f_X3_readSign (({ frames := 2, cells := 0, slots := 0, locals := 41 } : Room)) (va_Pc [.ref a_, .int p1] (pW E sz (w_X3_readSign E a_ a_tape a_rules a_places a_steps a_tape_bytes c_siteCount c_stepCount c_seenRules c_at c_wordStart c_number c_failed c_tape_length c_tape_bytes))) (va_Qi (fun (q : Int32) (_u : Unit) => q = rr ∧ (q = 0 ∨ q = 1)) (fun (_u : Unit) tt => va_P E.1 vwCl (w_X3_readSign E a_ a_tape a_rules a_places a_steps a_tape_bytes c_siteCount c_stepCount c_seenRules n_at c_wordStart c_number n_failed c_tape_length c_tape_bytes) tt.heap ∧ va_D (va_A (w_X3_readSign E a_ a_tape a_rules a_places a_steps a_tape_bytes c_siteCount c_stepCount c_seenRules c_at c_wordStart c_number c_failed c_tape_length c_tape_bytes) sz) (w_X3_readSign E a_ a_tape a_rules a_places a_steps a_tape_bytes c_siteCount c_stepCount c_seenRules n_at c_wordStart c_number n_failed c_tape_length c_tape_bytes)) (va_A (w_X3_readSign E a_ a_tape a_rules a_places a_steps a_tape_bytes c_siteCount c_stepCount c_seenRules c_at c_wordStart c_number c_failed c_tape_length c_tape_bytes) sz)) 0 0 (va_A (w_X3_readSign E a_ a_tape a_rules a_places a_steps a_tape_bytes c_siteCount c_stepCount c_seenRules c_at c_wordStart c_number c_failed c_tape_length c_tape_bytes) sz) := by
  refine Met.ofW (cc := cX3_readSign) (maxL := 2) (ret := (some .boolean)) (by decide) rfl ?_
  intro p e s m args below meth c s₁ B hml hv
  obtain ⟨rfl, hsz, ⟨hK, hN⟩, hP, hD0⟩ := hv
  have hx := B.exec
  have hb := B.bytes
  have hr := B.returns
  have hts := atoms_spec (ws := v_f_X3_readSign) B.pre
  have hown : s.vm.findClass RX3 = some m.cls := own_of hd_X3_readSign.1 (findClass_of_methodNamed B.named)
  have hlocks : meth.locks = false := B.notSynchronized
  subst hsz
  have hD := hD0.self (sz := s.heap.size)
  generalize hAe : va_A (w_X3_readSign E a_ a_tape a_rules a_places a_steps a_tape_bytes c_siteCount c_stepCount c_seenRules c_at c_wordStart c_number c_failed c_tape_length c_tape_bytes) s.heap.size = A at hD ⊢
  have hA : ∀ q : Nat, s.heap.size ≤ q → A q := fun q h => by rw [← hAe]; exact Or.inr h
  have hS : va_S A s.heap s.heap [] := va_S.rf
  have hl := lv_entry ([.ref a_, .int p1]) (n := 2) (Nat.le_of_ble_eq_true rfl)
  rw [lg_entry_eq]
  generalize (lg_sl ([.ref a_, .int p1]) ++ List.replicate (2 - (lg_sl ([.ref a_, .int p1])).length) Slot.unset).toArray = ls at hl ⊢
  have hl : lv_has ls 2 [(0, .ref a_), (1, .int p1)] := hl
  obtain ⟨Q, hQ⟩ : ∃ Q : State → Prop, Q = MQ below (va_Qi (fun (q : Int32) (_u : Unit) => q = rr ∧ (q = 0 ∨ q = 1)) (fun (_u : Unit) tt => va_P E.1 vwCl (w_X3_readSign E a_ a_tape a_rules a_places a_steps a_tape_bytes c_siteCount c_stepCount c_seenRules n_at c_wordStart c_number n_failed c_tape_length c_tape_bytes) tt.heap ∧ va_D A (w_X3_readSign E a_ a_tape a_rules a_places a_steps a_tape_bytes c_siteCount c_stepCount c_seenRules n_at c_wordStart c_number n_failed c_tape_length c_tape_bytes)) A) #[Value.ref a_, Value.int p1] s 0 0 A := ⟨_, rfl⟩
  rw [← hQ]
  change W p l e ({ frames := 2, cells := 0, slots := 0, locals := 41 } : Room) s m #[Value.ref a_, Value.int p1] below meth c s.heap [] 0 0 Q (F0 m 0 ls [])
  suffices hh9 : ∀ (H : Heap) (locs : List Loc), va_P E.1 vwCl (w_X3_readSign E a_ a_tape a_rules a_places a_steps a_tape_bytes c_siteCount c_stepCount c_seenRules c_at c_wordStart c_number c_failed c_tape_length c_tape_bytes) H → va_D A (w_X3_readSign E a_ a_tape a_rules a_places a_steps a_tape_bytes c_siteCount c_stepCount c_seenRules c_at c_wordStart c_number c_failed c_tape_length c_tape_bytes) → va_S A s.heap H locs → W p l e ({ frames := 2, cells := 0, slots := 0, locals := 41 } : Room) s m #[Value.ref a_, Value.int p1] below meth c H locs 0 0 Q (F0 m 0 ls []) from hh9 s.heap [] hP hD hS
  clear hP hD hS
  intro H locs hP hD hS
  replace hP : va_P E.1 vwCl [(a_, .inr (4, [.ref a_tape, .ref a_rules, .ref a_places, .ref a_steps, .int c_siteCount, .int c_stepCount, .int c_seenRules, .int c_at, .int c_wordStart, .int c_number, .int c_failed])), (a_tape, .inr (7, [.ref a_tape_bytes, .int c_tape_length])), (a_tape_bytes, .inl (E.2.2.1, 320, .inl c_tape_bytes))] H := hP
  replace hD : va_D A [(a_, .inr (4, [.ref a_tape, .ref a_rules, .ref a_places, .ref a_steps, .int c_siteCount, .int c_stepCount, .int c_seenRules, .int c_at, .int c_wordStart, .int c_number, .int c_failed])), (a_tape, .inr (7, [.ref a_tape_bytes, .int c_tape_length])), (a_tape_bytes, .inl (E.2.2.1, 320, .inl c_tape_bytes))] := hD
  unfold F_X3_readSign at hF
  refine lv_aload_n hx hb dX3_readSign_0 rfl (lv_at hl 0 rfl) ?_
  replace hF := bd1_s hF
  obtain ⟨w_1, hc_2, hF⟩ := hF
  obtain ⟨hPc, hDc, hFc⟩ := wcut (wc := (w_X3_skipBlanks E a_ a_tape a_rules a_places a_steps a_tape_bytes c_siteCount c_stepCount c_seenRules c_at c_wordStart c_number c_failed c_tape_length c_tape_bytes)) hP hD hS hA [0, 1, 2] (by decide) rfl
  have hrc := va_recv hK hPc (ci := 4) (q0 := 0) rfl rfl
  refine cE_v (wc := (w_X3_skipBlanks E a_ a_tape a_rules a_places a_steps a_tape_bytes c_siteCount c_stepCount c_seenRules c_at c_wordStart c_number c_failed c_tape_length c_tape_bytes)) (wr := []) (w1 := (w_X3_skipBlanks E a_ a_tape a_rules a_places a_steps a_tape_bytes c_siteCount c_stepCount c_seenRules w_1 c_wordStart c_number c_failed c_tape_length c_tape_bytes)) (va_runV (As := []) (rest := [])  ⟨hx, hb, hml, hown, hts⟩ (f_X3_skipBlanks l E H.size K (a_ := a_) (a_tape := a_tape) (a_rules := a_rules) (a_places := a_places) (a_steps := a_steps) (a_tape_bytes := a_tape_bytes) (c_siteCount := c_siteCount) (c_stepCount := c_stepCount) (c_seenRules := c_seenRules) (c_at := c_at) (c_wordStart := c_wordStart) (c_number := c_number) (c_failed := c_failed) (c_tape_length := c_tape_length) (c_tape_bytes := c_tape_bytes) hc_2) (cwV 0 hts g_f_X3_readSign_f_X3_skipBlanks_140 rfl rfl rfl hd_X3_skipBlanks ⟨Nat.le_of_ble_eq_true rfl, Nat.le_of_ble_eq_true rfl⟩) ⟨pW.blind, hrc, (pW.pre ⟨hK, hN⟩ hPc hDc)⟩ rfl rfl hl.1 rfl (lv_room (Nat.le_of_ble_eq_true rfl)) dX3_readSign_1 ⟨Nat.le_of_ble_eq_true rfl, Nat.le_of_ble_eq_true rfl⟩) hS hFc hP hD [0, 1, 2] [] rfl rfl (by decide) (by decide) (fun H locs hP hD hS => ?_)
  replace hP : va_P E.1 vwCl [(a_, .inr (4, [.ref a_tape, .ref a_rules, .ref a_places, .ref a_steps, .int c_siteCount, .int c_stepCount, .int c_seenRules, .int w_1, .int c_wordStart, .int c_number, .int c_failed])), (a_tape, .inr (7, [.ref a_tape_bytes, .int c_tape_length])), (a_tape_bytes, .inl (E.2.2.1, 320, .inl c_tape_bytes))] H := hP
  replace hD : va_D A [(a_, .inr (4, [.ref a_tape, .ref a_rules, .ref a_places, .ref a_steps, .int c_siteCount, .int c_stepCount, .int c_seenRules, .int w_1, .int c_wordStart, .int c_number, .int c_failed])), (a_tape, .inr (7, [.ref a_tape_bytes, .int c_tape_length])), (a_tape_bytes, .inl (E.2.2.1, 320, .inl c_tape_bytes))] := hD
  refine lv_aload_n hx hb dX3_readSign_4 rfl (lv_at hl 0 rfl) ?_
  refine gt_X3_0 (v := .ref a_tape) hx hb hts i_f_X3_readSign_X3 hown hK hP 0 rfl (hts (.fieldLink RX3 43 "HushWatch$Reader" "tape" "LHushWatch$Tape;") (List.mem_of_getElem? (i := 1) rfl)) rfl dX3_readSign_5 ?_
  refine lv_aload_n hx hb dX3_readSign_8 rfl (lv_at hl 0 rfl) ?_
  refine gt_X3_7 (v := .int w_1) hx hb hts i_f_X3_readSign_X3 hown hK hP 0 rfl (hts (.fieldLink RX3 31 "HushWatch$Reader" "at" "I") (List.mem_of_getElem? (i := 2) rfl)) rfl dX3_readSign_9 ?_
  replace hF := bd1_s hF
  obtain ⟨r_3, hc_4, hF⟩ := hF
  have hPc : va_P E.1 vwCl (w_X6_signAt E a_tape a_tape_bytes c_tape_length c_tape_bytes) H := hP.sub (ws' := [(a_tape, .inr (7, [.ref a_tape_bytes, .int c_tape_length])), (a_tape_bytes, .inl (E.2.2.1, 320, .inl c_tape_bytes))]) [1, 2] rfl
  have hrc := va_recv hK hPc (ci := 7) (q0 := 0) rfl rfl
  refine pE_i (va_runV (As := [.int w_1]) (rest := [])  ⟨hx, hb, hml, hown, hts⟩ (f_X6_signAt l E (a_ := a_tape) (a_bytes := a_tape_bytes) (p1 := w_1) (c_length := c_tape_length) (c_bytes := c_tape_bytes) hc_4) (cwV 1 hts g_f_X3_readSign_f_X6_signAt_143 rfl rfl rfl hd_X6_signAt ⟨Nat.le_of_ble_eq_true rfl, Nat.le_of_ble_eq_true rfl⟩) ⟨pP.blind, hrc, (pP.pre ⟨hK, hN⟩ hPc)⟩ rfl rfl hl.1 rfl (lv_room (Nat.le_of_ble_eq_true rfl)) dX3_readSign_12 ⟨Nat.le_of_ble_eq_true rfl, Nat.le_of_ble_eq_true rfl⟩) ?_
  refine lv_iload_n hx hb dX3_readSign_15 rfl (lv_at hl 1 rfl) ?_
  refine lv_icmp_eq (tgt := 28) hx hb dX3_readSign_16 (by decide) (fun c_5 => ?_) (fun c_5 => ?_)
  ·
    replace hF := ip c_5 hF
    refine lv_aload_n hx hb dX3_readSign_28 rfl (lv_at hl 0 rfl) ?_
    refine lv_dup hx hb dX3_readSign_29 rfl ?_
    refine gt_X3_7 (v := .int w_1) hx hb hts i_f_X3_readSign_X3 hown hK hP 0 rfl (hts (.fieldLink RX3 31 "HushWatch$Reader" "at" "I") (List.mem_of_getElem? (i := 2) rfl)) rfl dX3_readSign_30 ?_
    refine lv_iconst (v := 1) hx hb dX3_readSign_33 (by decide) ?_
    refine lv_iadd hx hb dX3_readSign_34 ?_
    refine pt_X3_7 (v := .int (w_1 + (1 : Int32))) hx hb hts i_f_X3_readSign_X3 hown hK hP hD hS 0 rfl (hts (.fieldLink RX3 31 "HushWatch$Reader" "at" "I") (List.mem_of_getElem? (i := 2) rfl)) rfl rfl (Nat.le_of_ble_eq_true rfl) dX3_readSign_35 (fun H locs hP hD hS => ?_)
    replace hP : va_P E.1 vwCl [(a_, .inr (4, [.ref a_tape, .ref a_rules, .ref a_places, .ref a_steps, .int c_siteCount, .int c_stepCount, .int c_seenRules, .int (w_1 + (1 : Int32)), .int c_wordStart, .int c_number, .int c_failed])), (a_tape, .inr (7, [.ref a_tape_bytes, .int c_tape_length])), (a_tape_bytes, .inl (E.2.2.1, 320, .inl c_tape_bytes))] H := hP
    replace hD : va_D A [(a_, .inr (4, [.ref a_tape, .ref a_rules, .ref a_places, .ref a_steps, .int c_siteCount, .int c_stepCount, .int c_seenRules, .int (w_1 + (1 : Int32)), .int c_wordStart, .int c_number, .int c_failed])), (a_tape, .inr (7, [.ref a_tape_bytes, .int c_tape_length])), (a_tape_bytes, .inl (E.2.2.1, 320, .inl c_tape_bytes))] := hD
    refine lv_iconst (v := 1) hx hb dX3_readSign_38 (by decide) ?_
    rw [hQ]
    have h9 := fin9 (P := fun u9 : Int32 × Int32 × Int32 => (1 : Int32) = u9.1 ∧ va_P E.1 vwCl (w_X3_readSign E a_ a_tape a_rules a_places a_steps a_tape_bytes c_siteCount c_stepCount c_seenRules u9.2.1 c_wordStart c_number u9.2.2 c_tape_length c_tape_bytes) H ∧ va_D A (w_X3_readSign E a_ a_tape a_rules a_places a_steps a_tape_bytes c_siteCount c_stepCount c_seenRules u9.2.1 c_wordStart c_number u9.2.2 c_tape_length c_tape_bytes)) hF ⟨rfl, hP, hD⟩
    obtain ⟨e9_0, hP9, hD9⟩ := h9
    exact W.zret (v := (1 : Int32)) hx hb hr rfl (fun tt ht hW => ⟨⟨_, (), rfl, ⟨e9_0, Or.inr rfl⟩, ht ▸ hP9, hD9⟩, hS.F ht⟩) hS.2.2 dX3_readSign_39
  ·
    replace hF := inn c_5 hF
    refine lv_aload_n hx hb dX3_readSign_19 rfl (lv_at hl 0 rfl) ?_
    refine lv_aload_n hx hb dX3_readSign_20 rfl (lv_at hl 0 rfl) ?_
    refine gt_X3_7 (v := .int w_1) hx hb hts i_f_X3_readSign_X3 hown hK hP 0 rfl (hts (.fieldLink RX3 31 "HushWatch$Reader" "at" "I") (List.mem_of_getElem? (i := 2) rfl)) rfl dX3_readSign_21 ?_
    replace hF := bd2_s hF
    obtain ⟨r_6, w_7, hc_8, hF⟩ := hF
    obtain ⟨hPc, hDc, hFc⟩ := wcut (wc := (w_X3_failAt E a_ a_tape a_rules a_places a_steps c_siteCount c_stepCount c_seenRules w_1 c_wordStart c_number c_failed)) hP hD hS hA [0] (by decide) rfl
    have hrc := va_recv hK hPc (ci := 4) (q0 := 0) rfl rfl
    refine cE_z (wc := (w_X3_failAt E a_ a_tape a_rules a_places a_steps c_siteCount c_stepCount c_seenRules w_1 c_wordStart c_number c_failed)) (wr := [(a_tape, .inr (7, [.ref a_tape_bytes, .int c_tape_length])), (a_tape_bytes, .inl (E.2.2.1, 320, .inl c_tape_bytes))]) (w1 := (w_X3_failAt E a_ a_tape a_rules a_places a_steps c_siteCount c_stepCount c_seenRules w_1 c_wordStart c_number w_7)) (va_runV (As := [.int w_1]) (rest := [])  ⟨hx, hb, hml, hown, hts⟩ (f_X3_failAt l E H.size (a_ := a_) (a_tape := a_tape) (a_rules := a_rules) (a_places := a_places) (a_steps := a_steps) (p1 := w_1) (c_siteCount := c_siteCount) (c_stepCount := c_stepCount) (c_seenRules := c_seenRules) (c_at := w_1) (c_wordStart := c_wordStart) (c_number := c_number) (c_failed := c_failed) hc_8) (cwV 1 hts g_f_X3_readSign_f_X3_failAt_87 rfl rfl rfl hd_X3_failAt ⟨Nat.le_of_ble_eq_true rfl, Nat.le_of_ble_eq_true rfl⟩) ⟨pW.blind, hrc, (pW.pre ⟨hK, hN⟩ hPc hDc)⟩ rfl rfl hl.1 rfl (lv_room (Nat.le_of_ble_eq_true rfl)) dX3_readSign_24 ⟨Nat.le_of_ble_eq_true rfl, Nat.le_of_ble_eq_true rfl⟩) hS hFc hP hD [0] [1, 2] rfl rfl (by decide) (by decide) (fun hb_9 H locs hP hD hS => ?_)
    replace hP : va_P E.1 vwCl [(a_tape, .inr (7, [.ref a_tape_bytes, .int c_tape_length])), (a_tape_bytes, .inl (E.2.2.1, 320, .inl c_tape_bytes)), (a_, .inr (4, [.ref a_tape, .ref a_rules, .ref a_places, .ref a_steps, .int c_siteCount, .int c_stepCount, .int c_seenRules, .int w_1, .int c_wordStart, .int c_number, .int w_7]))] H := hP
    replace hD : va_D A [(a_tape, .inr (7, [.ref a_tape_bytes, .int c_tape_length])), (a_tape_bytes, .inl (E.2.2.1, 320, .inl c_tape_bytes)), (a_, .inr (4, [.ref a_tape, .ref a_rules, .ref a_places, .ref a_steps, .int c_siteCount, .int c_stepCount, .int c_seenRules, .int w_1, .int c_wordStart, .int c_number, .int w_7]))] := hD
    rw [hQ]
    have h9 := fin9 (P := fun u9 : Int32 × Int32 × Int32 => r_6 = u9.1 ∧ va_P E.1 vwCl (w_X3_readSign E a_ a_tape a_rules a_places a_steps a_tape_bytes c_siteCount c_stepCount c_seenRules u9.2.1 c_wordStart c_number u9.2.2 c_tape_length c_tape_bytes) H ∧ va_D A (w_X3_readSign E a_ a_tape a_rules a_places a_steps a_tape_bytes c_siteCount c_stepCount c_seenRules u9.2.1 c_wordStart c_number u9.2.2 c_tape_length c_tape_bytes)) hF ⟨rfl, hP.sub [2, 0, 1] rfl, hD.sub [2, 0, 1] (by decide) rfl⟩
    obtain ⟨e9_0, hP9, hD9⟩ := h9
    exact W.zret (v := r_6) hx hb hr (nar_bool hb_9) (fun tt ht hW => ⟨⟨_, (), rfl, ⟨e9_0, hb_9⟩, ht ▸ hP9, hD9⟩, hS.F ht⟩) hS.2.2 dX3_readSign_27

def B_X3_readNumber_56 (c_tape_length : Int32) (c_tape_bytes : Nat → Int32) (x5 : Int32) (x6 : Int32) (c_at : Int32) : Option ((Int32 × Int32) ⊕ (Int32 × Int32)) :=
  if c_tape_length ≤ c_at then some (.inr (x6, c_at)) else bd1 (F_X6_signAt c_at c_tape_bytes c_tape_length) (fun r_8 => bd1 (F_X3_isDigit r_8) (fun r_10 => if r_10 = (0 : Int32) then some (.inr (x6, c_at)) else if (7 : Int32) ≤ c_at - x5 then some (.inl (x6, c_at + (1 : Int32))) else bd1 (F_X6_signAt c_at c_tape_bytes c_tape_length) (fun r_15 => some (.inl (((x6 * (10 : Int32)) + r_15) - (48 : Int32), c_at + (1 : Int32))))))
def J_X3_readNumber_157 (p1 : Int32) (p2 : Int32) (k0 : Int32) (x3 : Int32) (x7 : Int32) (c_at : Int32) (c_failed : Int32) : Option (Int32 × Int32 × Int32 × Int32) :=
  if x7 < (1 : Int32) then bd2 (F_X3_failAt x3 c_failed) (fun r_22 w_23 => some (r_22, c_at, k0, w_23)) else if (7 : Int32) < x7 then bd2 (F_X3_failAt x3 c_failed) (fun r_27 w_28 => some (r_27, c_at, k0, w_28)) else if k0 < p1 then bd2 (F_X3_failAt x3 c_failed) (fun r_32 w_33 => some (r_32, c_at, k0, w_33)) else if k0 ≤ p2 then some ((1 : Int32), c_at, k0, c_failed) else bd2 (F_X3_failAt x3 c_failed) (fun r_37 w_38 => some (r_37, c_at, k0, w_38))
def J_X3_readNumber_134 (p1 : Int32) (p2 : Int32) (x3 : Int32) (x4 : Int32) (x5 : Int32) (x6 : Int32) (c_at : Int32) (c_failed : Int32) : Option (Int32 × Int32 × Int32 × Int32) :=
  if x4 = (0 : Int32) then J_X3_readNumber_157 p1 p2 x6 x3 (c_at - x5) c_at c_failed else J_X3_readNumber_157 p1 p2 (-x6) x3 (c_at - x5) c_at c_failed
def J_X3_readNumber_47 (K : Nat) (p1 : Int32) (p2 : Int32) (c_tape_length : Int32) (c_tape_bytes : Nat → Int32) (x3 : Int32) (x4 : Int32) (c_at : Int32) (c_failed : Int32) : Option (Int32 × Int32 × Int32 × Int32) :=
  bd2 (lpF (fun u9 : Int32 × Int32 => B_X3_readNumber_56 c_tape_length c_tape_bytes c_at u9.1 u9.2) K ((0 : Int32), c_at)) (fun x6_17 c_at_18 => J_X3_readNumber_134 p1 p2 x3 x4 c_at x6_17 c_at_18 c_failed)
def J_X3_readNumber_30 (K : Nat) (p1 : Int32) (p2 : Int32) (c_tape_length : Int32) (c_tape_bytes : Nat → Int32) (k0 : Int32) (x3 : Int32) (c_at : Int32) (c_failed : Int32) : Option (Int32 × Int32 × Int32 × Int32) :=
  if k0 = (0 : Int32) then J_X3_readNumber_47 K p1 p2 c_tape_length c_tape_bytes x3 k0 c_at c_failed else J_X3_readNumber_47 K p1 p2 c_tape_length c_tape_bytes x3 k0 (c_at + (1 : Int32)) c_failed
def F_X3_readNumber (K : Nat) (p1 : Int32) (p2 : Int32) (c_tape_bytes : Nat → Int32) (c_tape_length : Int32) (c_at : Int32) (c_number : Int32) (c_failed : Int32) : Option (Int32 × Int32 × Int32 × Int32) :=
  bd1 (F_X3_skipBlanks K c_tape_bytes c_tape_length c_at) (fun w_1 => bd1 (F_X6_signAt w_1 c_tape_bytes c_tape_length) (fun r_3 => if r_3 = (45 : Int32) then J_X3_readNumber_30 K p1 p2 c_tape_length c_tape_bytes (1 : Int32) w_1 w_1 c_failed else J_X3_readNumber_30 K p1 p2 c_tape_length c_tape_bytes (0 : Int32) w_1 w_1 c_failed))
abbrev w_X3_readNumber (E : EE) (a_ a_tape a_rules a_places a_steps a_tape_bytes : Nat) (c_siteCount : Int32) (c_stepCount : Int32) (c_seenRules : Int32) (c_at : Int32) (c_wordStart : Int32) (c_number : Int32) (c_failed : Int32) (c_tape_length : Int32) (c_tape_bytes : Nat → Int32) : va_W := [(a_, .inr (4, [.ref a_tape, .ref a_rules, .ref a_places, .ref a_steps, .int c_siteCount, .int c_stepCount, .int c_seenRules, .int c_at, .int c_wordStart, .int c_number, .int c_failed])), (a_tape, .inr (7, [.ref a_tape_bytes, .int c_tape_length])), (a_tape_bytes, .inl (E.2.2.1, 320, .inl c_tape_bytes))]
def v_f_X3_readNumber : List Cond := List.cons (.code yX3_readNumber cX3_readNumber 8 (some .boolean)) (HAppend.hAppend (α := List Cond) (β := List Cond) (γ := List Cond) [.fieldLink RX3 31 "HushWatch$Reader" "at" "I", .fieldLink RX3 43 "HushWatch$Reader" "tape" "LHushWatch$Tape;", .fieldLink RX3 37 "HushWatch$Reader" "number" "I", .methodLink RX3 140 yX3_skipBlanks, .instanceMethod yX3_skipBlanks, .selects RX3 yX3_skipBlanks yX3_skipBlanks, .initialized RX3, .methodLink RX3 143 yX6_signAt, .instanceMethod yX6_signAt, .selects RX6 yX6_signAt yX6_signAt, .initialized RX6, .methodLink RX3 158 yX3_isDigit, .static yX3_isDigit, .methodLink RX3 87 yX3_failAt, .instanceMethod yX3_failAt, .selects RX3 yX3_failAt yX3_failAt] (HAppend.hAppend (α := List Cond) (β := List Cond) (γ := List Cond) v_f_X3_skipBlanks (HAppend.hAppend (α := List Cond) (β := List Cond) (γ := List Cond) wsX30 (HAppend.hAppend (α := List Cond) (β := List Cond) (γ := List Cond) v_f_X6_signAt (HAppend.hAppend (α := List Cond) (β := List Cond) (γ := List Cond) wsX60 (HAppend.hAppend (α := List Cond) (β := List Cond) (γ := List Cond) v_f_X3_isDigit (HAppend.hAppend (α := List Cond) (β := List Cond) (γ := List Cond) v_f_X3_failAt [])))))))
theorem gw_f_X3_readNumber : v_f_X3_readNumber.all goodWord = true := by decide +kernel
theorem i_f_X3_readNumber_X3 : ∀ w ∈ wsX30, w ∈ v_f_X3_readNumber := fun _ h => List.mem_cons_of_mem _ (List.mem_append_right _ (List.mem_append_right _ (List.mem_append_left _ h)))
theorem i_f_X3_readNumber_X6 : ∀ w ∈ wsX60, w ∈ v_f_X3_readNumber := fun _ h => List.mem_cons_of_mem _ (List.mem_append_right _ (List.mem_append_right _ (List.mem_append_right _ (List.mem_append_right _ (List.mem_append_left _ h)))))
theorem g_f_X3_readNumber_f_X3_skipBlanks_140 : GoodIn v_f_X3_readNumber (wsV RX3 140 RX3 yX3_skipBlanks v_f_X3_skipBlanks) := goodIn_app (goodIn_of _ (by decide +kernel)) (goodIn_sub (fun _ h => List.mem_cons_of_mem _ (List.mem_append_right _ (List.mem_append_left _ h))) gw_f_X3_skipBlanks)
theorem g_f_X3_readNumber_f_X6_signAt_143 : GoodIn v_f_X3_readNumber (wsV RX3 143 RX6 yX6_signAt v_f_X6_signAt) := goodIn_app (goodIn_of _ (by decide +kernel)) (goodIn_sub (fun _ h => List.mem_cons_of_mem _ (List.mem_append_right _ (List.mem_append_right _ (List.mem_append_right _ (List.mem_append_left _ h))))) gw_f_X6_signAt)
theorem g_f_X3_readNumber_f_X3_isDigit_158 : GoodIn v_f_X3_readNumber (va_wsS RX3 158 yX3_isDigit v_f_X3_isDigit) := goodIn_app (goodIn_of _ (by decide +kernel)) (goodIn_sub (fun _ h => List.mem_cons_of_mem _ (List.mem_append_right _ (List.mem_append_right _ (List.mem_append_right _ (List.mem_append_right _ (List.mem_append_right _ (List.mem_append_left _ h))))))) gw_f_X3_isDigit)
theorem g_f_X3_readNumber_f_X3_failAt_87 : GoodIn v_f_X3_readNumber (wsV RX3 87 RX3 yX3_failAt v_f_X3_failAt) := goodIn_app (goodIn_of _ (by decide +kernel)) (goodIn_sub (fun _ h => List.mem_cons_of_mem _ (List.mem_append_right _ (List.mem_append_right _ (List.mem_append_right _ (List.mem_append_right _ (List.mem_append_right _ (List.mem_append_right _ (List.mem_append_left _ h)))))))) gw_f_X3_failAt)
theorem hd_X3_readNumber : yX3_readNumber.cls = RX3 ∧ yX3_readNumber.cls ≠ "java/lang/invoke/MethodHandle" ∧ yX3_readNumber.cls ≠ "java/lang/invoke/VarHandle" ∧ (parseMethodDescriptor yX3_readNumber.desc).map (fun d => d.parameters.length) = some 2 := by decide +kernel
set_option maxHeartbeats 4000000 in
set_option maxRecDepth 100000 in
theorem wb_X3_readNumber_56 {p : Program} (l : Launch) {e : Env} {s : State} {m : MethodId} {below : List Frame} {meth : Method} {c : Code} {Q : State → Prop} (E : EE) (K : Nat) {a_ a_tape a_rules a_places a_steps a_tape_bytes : Nat} {p1 : Int32} {p2 : Int32} {c_siteCount : Int32} {c_stepCount : Int32} {c_seenRules : Int32} {c_wordStart : Int32} {c_tape_length : Int32} {c_tape_bytes : Nat → Int32} {x3 : Int32} {x4 : Int32} {x5 : Int32} {x6 : Int32} {c_at : Int32} {c_number : Int32} {c_failed : Int32} (hx : p.tables.exec = Jvm.exec) (hb : c.code = cX3_readNumber) (hml : c.maxLocals = 8) (hown : s.vm.findClass RX3 = some m.cls) (hts : ∀ w ∈ v_f_X3_readNumber, w.before #[Value.ref a_, Value.int p1, Value.int p2] s = true) (hK : va_K E.1 vwCl (TY E) s) (hN : NX s) {A : Nat → Prop} (hA : ∀ q : Nat, s.heap.size ≤ q → A q) {xx : (Int32 × Int32) ⊕ (Int32 × Int32)} (hC : ∀ (x6 : Int32), ∀ (c_at : Int32), xx = .inl (x6, c_at) → ∀ (H : Heap) (locs : List Loc) (ls : Array Slot), va_P E.1 vwCl (w_X3_readNumber E a_ a_tape a_rules a_places a_steps a_tape_bytes c_siteCount c_stepCount c_seenRules c_at c_wordStart c_number c_failed c_tape_length c_tape_bytes) H → va_D A (w_X3_readNumber E a_ a_tape a_rules a_places a_steps a_tape_bytes c_siteCount c_stepCount c_seenRules c_at c_wordStart c_number c_failed c_tape_length c_tape_bytes) → va_S A s.heap H locs → lv_has ls 8 [(0, .ref a_), (1, .int p1), (2, .int p2), (3, .int x3), (4, .int x4), (5, .int x5), (6, .int x6)] → W p l e ({ frames := 2, cells := 0, slots := 0, locals := 41 } : Room) s m #[Value.ref a_, Value.int p1, Value.int p2] below meth c H locs 0 0 Q (F0 m 56 ls [])) (hE : ∀ (x6 : Int32), ∀ (c_at : Int32), xx = .inr (x6, c_at) → ((∀ (H : Heap) (locs : List Loc) (ls : Array Slot), va_P E.1 vwCl (w_X3_readNumber E a_ a_tape a_rules a_places a_steps a_tape_bytes c_siteCount c_stepCount c_seenRules c_at c_wordStart c_number c_failed c_tape_length c_tape_bytes) H → va_D A (w_X3_readNumber E a_ a_tape a_rules a_places a_steps a_tape_bytes c_siteCount c_stepCount c_seenRules c_at c_wordStart c_number c_failed c_tape_length c_tape_bytes) → va_S A s.heap H locs → lv_has ls 8 [(0, .ref a_), (1, .int p1), (2, .int p2), (3, .int x3), (4, .int x4), (5, .int x5), (6, .int x6)] → W p l e ({ frames := 2, cells := 0, slots := 0, locals := 41 } : Room) s m #[Value.ref a_, Value.int p1, Value.int p2] below meth c H locs 0 0 Q (F0 m 134 ls [])))) (hF : B_X3_readNumber_56 c_tape_length c_tape_bytes x5 x6 c_at = some xx) : ∀ (H : Heap) (locs : List Loc) (ls : Array Slot), va_P E.1 vwCl (w_X3_readNumber E a_ a_tape a_rules a_places a_steps a_tape_bytes c_siteCount c_stepCount c_seenRules c_at c_wordStart c_number c_failed c_tape_length c_tape_bytes) H → va_D A (w_X3_readNumber E a_ a_tape a_rules a_places a_steps a_tape_bytes c_siteCount c_stepCount c_seenRules c_at c_wordStart c_number c_failed c_tape_length c_tape_bytes) → va_S A s.heap H locs → lv_has ls 8 [(0, .ref a_), (1, .int p1), (2, .int p2), (3, .int x3), (4, .int x4), (5, .int x5), (6, .int x6)] → W p l e ({ frames := 2, cells := 0, slots := 0, locals := 41 } : Room) s m #[Value.ref a_, Value.int p1, Value.int p2] below meth c H locs 0 0 Q (F0 m 56 ls []) := by
  unfold B_X3_readNumber_56 at hF
  intro H locs ls hP hD hS hl
  replace hP : va_P E.1 vwCl [(a_, .inr (4, [.ref a_tape, .ref a_rules, .ref a_places, .ref a_steps, .int c_siteCount, .int c_stepCount, .int c_seenRules, .int c_at, .int c_wordStart, .int c_number, .int c_failed])), (a_tape, .inr (7, [.ref a_tape_bytes, .int c_tape_length])), (a_tape_bytes, .inl (E.2.2.1, 320, .inl c_tape_bytes))] H := hP
  replace hD : va_D A [(a_, .inr (4, [.ref a_tape, .ref a_rules, .ref a_places, .ref a_steps, .int c_siteCount, .int c_stepCount, .int c_seenRules, .int c_at, .int c_wordStart, .int c_number, .int c_failed])), (a_tape, .inr (7, [.ref a_tape_bytes, .int c_tape_length])), (a_tape_bytes, .inl (E.2.2.1, 320, .inl c_tape_bytes))] := hD
  refine lv_aload_n hx hb dX3_readNumber_56 rfl (lv_at hl 0 rfl) ?_
  refine gt_X3_7 (v := .int c_at) hx hb hts i_f_X3_readNumber_X3 hown hK hP 0 rfl (hts (.fieldLink RX3 31 "HushWatch$Reader" "at" "I") (List.mem_of_getElem? (i := 1) rfl)) rfl dX3_readNumber_57 ?_
  refine lv_aload_n hx hb dX3_readNumber_60 rfl (lv_at hl 0 rfl) ?_
  refine gt_X3_0 (v := .ref a_tape) hx hb hts i_f_X3_readNumber_X3 hown hK hP 0 rfl (hts (.fieldLink RX3 43 "HushWatch$Reader" "tape" "LHushWatch$Tape;") (List.mem_of_getElem? (i := 2) rfl)) rfl dX3_readNumber_61 ?_
  refine va_getN (D := E.1) (ci := 7) (v := .int c_tape_length) (C := RX6) (T := TX6) (N := 2) hx hb hts i_f_X3_readNumber_X6 hown hK hP 1 rfl rfl 1 (by decide) (nx hN 2 rfl) (fun _ h9 => h9) rfl dX3_readNumber_64 ?_
  refine lv_icmp_ge (tgt := 134) hx hb dX3_readNumber_67 (by decide) (fun c_7 => ?_) (fun c_7 => ?_)
  ·
    replace hF := ip c_7 hF
    cases hF
    exact hE x6 c_at rfl H locs ls (hP.sub [0, 1, 2] rfl) (hD.sub [0, 1, 2] (by decide) rfl) hS (lv_sub hl [0, 1, 2, 3, 4, 5, 6] rfl)
  ·
    replace hF := inn c_7 hF
    refine lv_aload_n hx hb dX3_readNumber_70 rfl (lv_at hl 0 rfl) ?_
    refine gt_X3_0 (v := .ref a_tape) hx hb hts i_f_X3_readNumber_X3 hown hK hP 0 rfl (hts (.fieldLink RX3 43 "HushWatch$Reader" "tape" "LHushWatch$Tape;") (List.mem_of_getElem? (i := 2) rfl)) rfl dX3_readNumber_71 ?_
    refine lv_aload_n hx hb dX3_readNumber_74 rfl (lv_at hl 0 rfl) ?_
    refine gt_X3_7 (v := .int c_at) hx hb hts i_f_X3_readNumber_X3 hown hK hP 0 rfl (hts (.fieldLink RX3 31 "HushWatch$Reader" "at" "I") (List.mem_of_getElem? (i := 1) rfl)) rfl dX3_readNumber_75 ?_
    replace hF := bd1_s hF
    obtain ⟨r_8, hc_9, hF⟩ := hF
    have hPc : va_P E.1 vwCl (w_X6_signAt E a_tape a_tape_bytes c_tape_length c_tape_bytes) H := hP.sub (ws' := [(a_tape, .inr (7, [.ref a_tape_bytes, .int c_tape_length])), (a_tape_bytes, .inl (E.2.2.1, 320, .inl c_tape_bytes))]) [1, 2] rfl
    have hrc := va_recv hK hPc (ci := 7) (q0 := 0) rfl rfl
    refine pE_i (va_runV (As := [.int c_at]) (rest := [])  ⟨hx, hb, hml, hown, hts⟩ (f_X6_signAt l E (a_ := a_tape) (a_bytes := a_tape_bytes) (p1 := c_at) (c_length := c_tape_length) (c_bytes := c_tape_bytes) hc_9) (cwV 1 hts g_f_X3_readNumber_f_X6_signAt_143 rfl rfl rfl hd_X6_signAt ⟨Nat.le_of_ble_eq_true rfl, Nat.le_of_ble_eq_true rfl⟩) ⟨pP.blind, hrc, (pP.pre ⟨hK, hN⟩ hPc)⟩ rfl rfl hl.1 rfl (lv_room (Nat.le_of_ble_eq_true rfl)) dX3_readNumber_78 ⟨Nat.le_of_ble_eq_true rfl, Nat.le_of_ble_eq_true rfl⟩) ?_
    replace hF := bd1_s hF
    obtain ⟨r_10, hc_11, hF⟩ := hF
    have hPc : va_P E.1 vwCl [] H := fun k q h => by simp at h
    refine pE_z (va_runS (As := [.int r_8]) (rest := [])  ⟨hx, hb, hml, hown, hts⟩ (f_X3_isDigit l E (p0 := r_8) hc_11) (va_cwS 1 hts g_f_X3_readNumber_f_X3_isDigit_158 rfl rfl rfl hd_X3_isDigit.2 ⟨Nat.le_of_ble_eq_true rfl, Nat.le_of_ble_eq_true rfl⟩) ⟨pP.blind, (pP.pre ⟨hK, hN⟩ hPc)⟩ rfl rfl hl.1 rfl (lv_room (Nat.le_of_ble_eq_true rfl)) dX3_readNumber_81 ⟨Nat.le_of_ble_eq_true rfl, Nat.le_of_ble_eq_true rfl⟩) (fun hb_12 => ?_)
    refine lv_if_eq (tgt := 134) hx hb dX3_readNumber_84 (by decide) (fun c_13 => ?_) (fun c_13 => ?_)
    ·
      replace hF := ip c_13 hF
      cases hF
      exact hE x6 c_at rfl H locs ls (hP.sub [0, 1, 2] rfl) (hD.sub [0, 1, 2] (by decide) rfl) hS (lv_sub hl [0, 1, 2, 3, 4, 5, 6] rfl)
    ·
      replace hF := inn c_13 hF
      refine lv_aload_n hx hb dX3_readNumber_87 rfl (lv_at hl 0 rfl) ?_
      refine gt_X3_7 (v := .int c_at) hx hb hts i_f_X3_readNumber_X3 hown hK hP 0 rfl (hts (.fieldLink RX3 31 "HushWatch$Reader" "at" "I") (List.mem_of_getElem? (i := 1) rfl)) rfl dX3_readNumber_88 ?_
      refine lv_iload hx hb dX3_readNumber_91 (lv_at hl 5 rfl) ?_
      refine lv_isub hx hb dX3_readNumber_93 ?_
      refine lv_bipush (v := 7) hx hb dX3_readNumber_94 (by decide) ?_
      refine lv_icmp_ge (tgt := 121) hx hb dX3_readNumber_96 (by decide) (fun c_14 => ?_) (fun c_14 => ?_)
      ·
        replace hF := ip c_14 hF
        refine lv_aload_n hx hb dX3_readNumber_121 rfl (lv_at hl 0 rfl) ?_
        refine lv_dup hx hb dX3_readNumber_122 rfl ?_
        refine gt_X3_7 (v := .int c_at) hx hb hts i_f_X3_readNumber_X3 hown hK hP 0 rfl (hts (.fieldLink RX3 31 "HushWatch$Reader" "at" "I") (List.mem_of_getElem? (i := 1) rfl)) rfl dX3_readNumber_123 ?_
        refine lv_iconst (v := 1) hx hb dX3_readNumber_126 (by decide) ?_
        refine lv_iadd hx hb dX3_readNumber_127 ?_
        refine pt_X3_7 (v := .int (c_at + (1 : Int32))) hx hb hts i_f_X3_readNumber_X3 hown hK hP hD hS 0 rfl (hts (.fieldLink RX3 31 "HushWatch$Reader" "at" "I") (List.mem_of_getElem? (i := 1) rfl)) rfl rfl (Nat.le_of_ble_eq_true rfl) dX3_readNumber_128 (fun H locs hP hD hS => ?_)
        replace hP : va_P E.1 vwCl [(a_, .inr (4, [.ref a_tape, .ref a_rules, .ref a_places, .ref a_steps, .int c_siteCount, .int c_stepCount, .int c_seenRules, .int (c_at + (1 : Int32)), .int c_wordStart, .int c_number, .int c_failed])), (a_tape, .inr (7, [.ref a_tape_bytes, .int c_tape_length])), (a_tape_bytes, .inl (E.2.2.1, 320, .inl c_tape_bytes))] H := hP
        replace hD : va_D A [(a_, .inr (4, [.ref a_tape, .ref a_rules, .ref a_places, .ref a_steps, .int c_siteCount, .int c_stepCount, .int c_seenRules, .int (c_at + (1 : Int32)), .int c_wordStart, .int c_number, .int c_failed])), (a_tape, .inr (7, [.ref a_tape_bytes, .int c_tape_length])), (a_tape_bytes, .inl (E.2.2.1, 320, .inl c_tape_bytes))] := hD
        refine lv_goto (tgt := 56) hx hb dX3_readNumber_131 (by decide) ?_
        cases hF
        exact hC x6 (c_at + (1 : Int32)) rfl H locs ls (hP.sub [0, 1, 2] rfl) (hD.sub [0, 1, 2] (by decide) rfl) hS (lv_sub hl [0, 1, 2, 3, 4, 5, 6] rfl)
      ·
        replace hF := inn c_14 hF
        refine lv_iload hx hb dX3_readNumber_99 (lv_at hl 6 rfl) ?_
        refine lv_bipush (v := 10) hx hb dX3_readNumber_101 (by decide) ?_
        refine lv_imul hx hb dX3_readNumber_103 ?_
        refine lv_aload_n hx hb dX3_readNumber_104 rfl (lv_at hl 0 rfl) ?_
        refine gt_X3_0 (v := .ref a_tape) hx hb hts i_f_X3_readNumber_X3 hown hK hP 0 rfl (hts (.fieldLink RX3 43 "HushWatch$Reader" "tape" "LHushWatch$Tape;") (List.mem_of_getElem? (i := 2) rfl)) rfl dX3_readNumber_105 ?_
        refine lv_aload_n hx hb dX3_readNumber_108 rfl (lv_at hl 0 rfl) ?_
        refine gt_X3_7 (v := .int c_at) hx hb hts i_f_X3_readNumber_X3 hown hK hP 0 rfl (hts (.fieldLink RX3 31 "HushWatch$Reader" "at" "I") (List.mem_of_getElem? (i := 1) rfl)) rfl dX3_readNumber_109 ?_
        replace hF := bd1_s hF
        obtain ⟨r_15, hc_16, hF⟩ := hF
        have hPc : va_P E.1 vwCl (w_X6_signAt E a_tape a_tape_bytes c_tape_length c_tape_bytes) H := hP.sub (ws' := [(a_tape, .inr (7, [.ref a_tape_bytes, .int c_tape_length])), (a_tape_bytes, .inl (E.2.2.1, 320, .inl c_tape_bytes))]) [1, 2] rfl
        have hrc := va_recv hK hPc (ci := 7) (q0 := 0) rfl rfl
        refine pE_i (va_runV (As := [.int c_at]) (rest := [.int (x6 * (10 : Int32))])  ⟨hx, hb, hml, hown, hts⟩ (f_X6_signAt l E (a_ := a_tape) (a_bytes := a_tape_bytes) (p1 := c_at) (c_length := c_tape_length) (c_bytes := c_tape_bytes) hc_16) (cwV 1 hts g_f_X3_readNumber_f_X6_signAt_143 rfl rfl rfl hd_X6_signAt ⟨Nat.le_of_ble_eq_true rfl, Nat.le_of_ble_eq_true rfl⟩) ⟨pP.blind, hrc, (pP.pre ⟨hK, hN⟩ hPc)⟩ rfl rfl hl.1 rfl (lv_room (Nat.le_of_ble_eq_true rfl)) dX3_readNumber_112 ⟨Nat.le_of_ble_eq_true rfl, Nat.le_of_ble_eq_true rfl⟩) ?_
        refine lv_iadd hx hb dX3_readNumber_115 ?_
        refine lv_bipush (v := 48) hx hb dX3_readNumber_116 (by decide) ?_
        refine lv_isub hx hb dX3_readNumber_118 ?_
        refine lv_istore (lv' := [(6, .int (((x6 * (10 : Int32)) + r_15) - (48 : Int32))), (0, .ref a_), (1, .int p1), (2, .int p2), (3, .int x3), (4, .int x4), (5, .int x5)]) hx hb dX3_readNumber_119 hl (by decide) rfl (fun ls hl => ?_)
        refine lv_aload_n hx hb dX3_readNumber_121 rfl (lv_at hl 1 rfl) ?_
        refine lv_dup hx hb dX3_readNumber_122 rfl ?_
        refine gt_X3_7 (v := .int c_at) hx hb hts i_f_X3_readNumber_X3 hown hK hP 0 rfl (hts (.fieldLink RX3 31 "HushWatch$Reader" "at" "I") (List.mem_of_getElem? (i := 1) rfl)) rfl dX3_readNumber_123 ?_
        refine lv_iconst (v := 1) hx hb dX3_readNumber_126 (by decide) ?_
        refine lv_iadd hx hb dX3_readNumber_127 ?_
        refine pt_X3_7 (v := .int (c_at + (1 : Int32))) hx hb hts i_f_X3_readNumber_X3 hown hK hP hD hS 0 rfl (hts (.fieldLink RX3 31 "HushWatch$Reader" "at" "I") (List.mem_of_getElem? (i := 1) rfl)) rfl rfl (Nat.le_of_ble_eq_true rfl) dX3_readNumber_128 (fun H locs hP hD hS => ?_)
        replace hP : va_P E.1 vwCl [(a_, .inr (4, [.ref a_tape, .ref a_rules, .ref a_places, .ref a_steps, .int c_siteCount, .int c_stepCount, .int c_seenRules, .int (c_at + (1 : Int32)), .int c_wordStart, .int c_number, .int c_failed])), (a_tape, .inr (7, [.ref a_tape_bytes, .int c_tape_length])), (a_tape_bytes, .inl (E.2.2.1, 320, .inl c_tape_bytes))] H := hP
        replace hD : va_D A [(a_, .inr (4, [.ref a_tape, .ref a_rules, .ref a_places, .ref a_steps, .int c_siteCount, .int c_stepCount, .int c_seenRules, .int (c_at + (1 : Int32)), .int c_wordStart, .int c_number, .int c_failed])), (a_tape, .inr (7, [.ref a_tape_bytes, .int c_tape_length])), (a_tape_bytes, .inl (E.2.2.1, 320, .inl c_tape_bytes))] := hD
        refine lv_goto (tgt := 56) hx hb dX3_readNumber_131 (by decide) ?_
        cases hF
        exact hC (((x6 * (10 : Int32)) + r_15) - (48 : Int32)) (c_at + (1 : Int32)) rfl H locs ls (hP.sub [0, 1, 2] rfl) (hD.sub [0, 1, 2] (by decide) rfl) hS (lv_sub hl [1, 2, 3, 4, 5, 6, 0] rfl)

set_option maxHeartbeats 4000000 in
set_option maxRecDepth 100000 in
theorem lw_X3_readNumber_56 {p : Program} (l : Launch) {e : Env} {s : State} {m : MethodId} {below : List Frame} {meth : Method} {c : Code} {Q : State → Prop} (E : EE) (K : Nat) {a_ a_tape a_rules a_places a_steps a_tape_bytes : Nat} {p1 : Int32} {p2 : Int32} {c_siteCount : Int32} {c_stepCount : Int32} {c_seenRules : Int32} {c_wordStart : Int32} {c_tape_length : Int32} {c_tape_bytes : Nat → Int32} {x3 : Int32} {x4 : Int32} {x5 : Int32} {c_number : Int32} {c_failed : Int32} (hx : p.tables.exec = Jvm.exec) (hb : c.code = cX3_readNumber) (hml : c.maxLocals = 8) (hown : s.vm.findClass RX3 = some m.cls) (hts : ∀ w ∈ v_f_X3_readNumber, w.before #[Value.ref a_, Value.int p1, Value.int p2] s = true) (hK : va_K E.1 vwCl (TY E) s) (hN : NX s) {A : Nat → Prop} (hA : ∀ q : Nat, s.heap.size ≤ q → A q) (j9 : Nat) (x6 : Int32) (c_at : Int32) (x6' : Int32) (c_at' : Int32) (hL : lpF (fun u9 : Int32 × Int32 => B_X3_readNumber_56 c_tape_length c_tape_bytes x5 u9.1 u9.2) j9 (x6, c_at) = some (x6', c_at')) (hX : (∀ (H : Heap) (locs : List Loc) (ls : Array Slot), va_P E.1 vwCl (w_X3_readNumber E a_ a_tape a_rules a_places a_steps a_tape_bytes c_siteCount c_stepCount c_seenRules c_at' c_wordStart c_number c_failed c_tape_length c_tape_bytes) H → va_D A (w_X3_readNumber E a_ a_tape a_rules a_places a_steps a_tape_bytes c_siteCount c_stepCount c_seenRules c_at' c_wordStart c_number c_failed c_tape_length c_tape_bytes) → va_S A s.heap H locs → lv_has ls 8 [(0, .ref a_), (1, .int p1), (2, .int p2), (3, .int x3), (4, .int x4), (5, .int x5), (6, .int x6')] → W p l e ({ frames := 2, cells := 0, slots := 0, locals := 41 } : Room) s m #[Value.ref a_, Value.int p1, Value.int p2] below meth c H locs 0 0 Q (F0 m 134 ls []))) : ∀ (H : Heap) (locs : List Loc) (ls : Array Slot), va_P E.1 vwCl (w_X3_readNumber E a_ a_tape a_rules a_places a_steps a_tape_bytes c_siteCount c_stepCount c_seenRules c_at c_wordStart c_number c_failed c_tape_length c_tape_bytes) H → va_D A (w_X3_readNumber E a_ a_tape a_rules a_places a_steps a_tape_bytes c_siteCount c_stepCount c_seenRules c_at c_wordStart c_number c_failed c_tape_length c_tape_bytes) → va_S A s.heap H locs → lv_has ls 8 [(0, .ref a_), (1, .int p1), (2, .int p2), (3, .int x3), (4, .int x4), (5, .int x5), (6, .int x6)] → W p l e ({ frames := 2, cells := 0, slots := 0, locals := 41 } : Room) s m #[Value.ref a_, Value.int p1, Value.int p2] below meth c H locs 0 0 Q (F0 m 56 ls []) := by
  exact lp_rule (P := (fun u9 : Int32 × Int32 => ∀ (H : Heap) (locs : List Loc) (ls : Array Slot), va_P E.1 vwCl (w_X3_readNumber E a_ a_tape a_rules a_places a_steps a_tape_bytes c_siteCount c_stepCount c_seenRules u9.2 c_wordStart c_number c_failed c_tape_length c_tape_bytes) H → va_D A (w_X3_readNumber E a_ a_tape a_rules a_places a_steps a_tape_bytes c_siteCount c_stepCount c_seenRules u9.2 c_wordStart c_number c_failed c_tape_length c_tape_bytes) → va_S A s.heap H locs → lv_has ls 8 [(0, .ref a_), (1, .int p1), (2, .int p2), (3, .int x3), (4, .int x4), (5, .int x5), (6, .int u9.1)] → W p l e ({ frames := 2, cells := 0, slots := 0, locals := 41 } : Room) s m #[Value.ref a_, Value.int p1, Value.int p2] below meth c H locs 0 0 Q (F0 m 56 ls []))) (R := (fun r9 : Int32 × Int32 => (∀ (H : Heap) (locs : List Loc) (ls : Array Slot), va_P E.1 vwCl (w_X3_readNumber E a_ a_tape a_rules a_places a_steps a_tape_bytes c_siteCount c_stepCount c_seenRules r9.2 c_wordStart c_number c_failed c_tape_length c_tape_bytes) H → va_D A (w_X3_readNumber E a_ a_tape a_rules a_places a_steps a_tape_bytes c_siteCount c_stepCount c_seenRules r9.2 c_wordStart c_number c_failed c_tape_length c_tape_bytes) → va_S A s.heap H locs → lv_has ls 8 [(0, .ref a_), (1, .int p1), (2, .int p2), (3, .int x3), (4, .int x4), (5, .int x5), (6, .int r9.1)] → W p l e ({ frames := 2, cells := 0, slots := 0, locals := 41 } : Room) s m #[Value.ref a_, Value.int p1, Value.int p2] below meth c H locs 0 0 Q (F0 m 134 ls [])))) (fun u9 xx hF hC hE => wb_X3_readNumber_56 l E K (p1 := p1) (p2 := p2) (c_siteCount := c_siteCount) (c_stepCount := c_stepCount) (c_seenRules := c_seenRules) (c_wordStart := c_wordStart) (c_tape_length := c_tape_length) (c_tape_bytes := c_tape_bytes) (x3 := x3) (x4 := x4) (x5 := x5) (x6 := u9.1) (c_at := u9.2) (c_number := c_number) (c_failed := c_failed) hx hb hml hown hts hK hN hA (fun x6 c_at q9 => hC _ q9) (fun x6 c_at q9 => hE _ q9) hF) j9 (x6, c_at) (x6', c_at') hL hX

set_option maxHeartbeats 4000000 in
set_option maxRecDepth 100000 in
theorem j_X3_readNumber_157 {p : Program} (l : Launch) {e : Env} {s : State} {m : MethodId} {below : List Frame} {meth : Method} {c : Code} {Q : State → Prop} (E : EE) (K : Nat) {a_ a_tape a_rules a_places a_steps a_tape_bytes : Nat} {p1 : Int32} {p2 : Int32} {c_siteCount : Int32} {c_stepCount : Int32} {c_seenRules : Int32} {c_wordStart : Int32} {c_tape_length : Int32} {c_tape_bytes : Nat → Int32} {k0 : Int32} {x3 : Int32} {x7 : Int32} {c_at : Int32} {c_number : Int32} {c_failed : Int32} (hx : p.tables.exec = Jvm.exec) (hb : c.code = cX3_readNumber) (hml : c.maxLocals = 8) (hown : s.vm.findClass RX3 = some m.cls) (hts : ∀ w ∈ v_f_X3_readNumber, w.before #[Value.ref a_, Value.int p1, Value.int p2] s = true) (hK : va_K E.1 vwCl (TY E) s) (hN : NX s) {A : Nat → Prop} (hA : ∀ q : Nat, s.heap.size ≤ q → A q) {rr : Int32} {n_at : Int32} {n_number : Int32} {n_failed : Int32} (hr : meth.sig.returnType = (some .boolean)) (hlocks : meth.locks = false) (hQ : Q = MQ below (va_Qi (fun (q : Int32) (_u : Unit) => q = rr ∧ (q = 0 ∨ q = 1)) (fun (_u : Unit) tt => va_P E.1 vwCl (w_X3_readNumber E a_ a_tape a_rules a_places a_steps a_tape_bytes c_siteCount c_stepCount c_seenRules n_at c_wordStart n_number n_failed c_tape_length c_tape_bytes) tt.heap ∧ va_D A (w_X3_readNumber E a_ a_tape a_rules a_places a_steps a_tape_bytes c_siteCount c_stepCount c_seenRules n_at c_wordStart n_number n_failed c_tape_length c_tape_bytes)) A) #[Value.ref a_, Value.int p1, Value.int p2] s 0 0 A) (hF : J_X3_readNumber_157 p1 p2 k0 x3 x7 c_at c_failed = some (rr, n_at, n_number, n_failed)) : ∀ (H : Heap) (locs : List Loc) (ls : Array Slot), va_P E.1 vwCl (w_X3_readNumber E a_ a_tape a_rules a_places a_steps a_tape_bytes c_siteCount c_stepCount c_seenRules c_at c_wordStart c_number c_failed c_tape_length c_tape_bytes) H → va_D A (w_X3_readNumber E a_ a_tape a_rules a_places a_steps a_tape_bytes c_siteCount c_stepCount c_seenRules c_at c_wordStart c_number c_failed c_tape_length c_tape_bytes) → va_S A s.heap H locs → lv_has ls 8 [(0, .ref a_), (1, .int p1), (2, .int p2), (3, .int x3), (7, .int x7)] → W p l e ({ frames := 2, cells := 0, slots := 0, locals := 41 } : Room) s m #[Value.ref a_, Value.int p1, Value.int p2] below meth c H locs 0 0 Q (F0 m 157 ls [.int k0, .ref a_]) := by
  unfold J_X3_readNumber_157 at hF
  intro H locs ls hP hD hS hl
  replace hP : va_P E.1 vwCl [(a_, .inr (4, [.ref a_tape, .ref a_rules, .ref a_places, .ref a_steps, .int c_siteCount, .int c_stepCount, .int c_seenRules, .int c_at, .int c_wordStart, .int c_number, .int c_failed])), (a_tape, .inr (7, [.ref a_tape_bytes, .int c_tape_length])), (a_tape_bytes, .inl (E.2.2.1, 320, .inl c_tape_bytes))] H := hP
  replace hD : va_D A [(a_, .inr (4, [.ref a_tape, .ref a_rules, .ref a_places, .ref a_steps, .int c_siteCount, .int c_stepCount, .int c_seenRules, .int c_at, .int c_wordStart, .int c_number, .int c_failed])), (a_tape, .inr (7, [.ref a_tape_bytes, .int c_tape_length])), (a_tape_bytes, .inl (E.2.2.1, 320, .inl c_tape_bytes))] := hD
  refine pt_X3_9 (v := .int k0) hx hb hts i_f_X3_readNumber_X3 hown hK hP hD hS 0 rfl (hts (.fieldLink RX3 37 "HushWatch$Reader" "number" "I") (List.mem_of_getElem? (i := 3) rfl)) rfl rfl (Nat.le_of_ble_eq_true rfl) dX3_readNumber_157 (fun H locs hP hD hS => ?_)
  replace hP : va_P E.1 vwCl [(a_, .inr (4, [.ref a_tape, .ref a_rules, .ref a_places, .ref a_steps, .int c_siteCount, .int c_stepCount, .int c_seenRules, .int c_at, .int c_wordStart, .int k0, .int c_failed])), (a_tape, .inr (7, [.ref a_tape_bytes, .int c_tape_length])), (a_tape_bytes, .inl (E.2.2.1, 320, .inl c_tape_bytes))] H := hP
  replace hD : va_D A [(a_, .inr (4, [.ref a_tape, .ref a_rules, .ref a_places, .ref a_steps, .int c_siteCount, .int c_stepCount, .int c_seenRules, .int c_at, .int c_wordStart, .int k0, .int c_failed])), (a_tape, .inr (7, [.ref a_tape_bytes, .int c_tape_length])), (a_tape_bytes, .inl (E.2.2.1, 320, .inl c_tape_bytes))] := hD
  refine lv_iload hx hb dX3_readNumber_160 (lv_at hl 4 rfl) ?_
  refine lv_iconst (v := 1) hx hb dX3_readNumber_162 (by decide) ?_
  refine lv_icmp_lt (tgt := 189) hx hb dX3_readNumber_163 (by decide) (fun c_21 => ?_) (fun c_21 => ?_)
  ·
    replace hF := ip c_21 hF
    refine lv_aload_n hx hb dX3_readNumber_189 rfl (lv_at hl 0 rfl) ?_
    refine lv_iload_n hx hb dX3_readNumber_190 rfl (lv_at hl 3 rfl) ?_
    replace hF := bd2_s hF
    obtain ⟨r_22, w_23, hc_24, hF⟩ := hF
    obtain ⟨hPc, hDc, hFc⟩ := wcut (wc := (w_X3_failAt E a_ a_tape a_rules a_places a_steps c_siteCount c_stepCount c_seenRules c_at c_wordStart k0 c_failed)) hP hD hS hA [0] (by decide) rfl
    have hrc := va_recv hK hPc (ci := 4) (q0 := 0) rfl rfl
    refine cE_z (wc := (w_X3_failAt E a_ a_tape a_rules a_places a_steps c_siteCount c_stepCount c_seenRules c_at c_wordStart k0 c_failed)) (wr := [(a_tape, .inr (7, [.ref a_tape_bytes, .int c_tape_length])), (a_tape_bytes, .inl (E.2.2.1, 320, .inl c_tape_bytes))]) (w1 := (w_X3_failAt E a_ a_tape a_rules a_places a_steps c_siteCount c_stepCount c_seenRules c_at c_wordStart k0 w_23)) (va_runV (As := [.int x3]) (rest := [])  ⟨hx, hb, hml, hown, hts⟩ (f_X3_failAt l E H.size (a_ := a_) (a_tape := a_tape) (a_rules := a_rules) (a_places := a_places) (a_steps := a_steps) (p1 := x3) (c_siteCount := c_siteCount) (c_stepCount := c_stepCount) (c_seenRules := c_seenRules) (c_at := c_at) (c_wordStart := c_wordStart) (c_number := k0) (c_failed := c_failed) hc_24) (cwV 1 hts g_f_X3_readNumber_f_X3_failAt_87 rfl rfl rfl hd_X3_failAt ⟨Nat.le_of_ble_eq_true rfl, Nat.le_of_ble_eq_true rfl⟩) ⟨pW.blind, hrc, (pW.pre ⟨hK, hN⟩ hPc hDc)⟩ rfl rfl hl.1 rfl (lv_room (Nat.le_of_ble_eq_true rfl)) dX3_readNumber_191 ⟨Nat.le_of_ble_eq_true rfl, Nat.le_of_ble_eq_true rfl⟩) hS hFc hP hD [0] [1, 2] rfl rfl (by decide) (by decide) (fun hb_25 H locs hP hD hS => ?_)
    replace hP : va_P E.1 vwCl [(a_tape, .inr (7, [.ref a_tape_bytes, .int c_tape_length])), (a_tape_bytes, .inl (E.2.2.1, 320, .inl c_tape_bytes)), (a_, .inr (4, [.ref a_tape, .ref a_rules, .ref a_places, .ref a_steps, .int c_siteCount, .int c_stepCount, .int c_seenRules, .int c_at, .int c_wordStart, .int k0, .int w_23]))] H := hP
    replace hD : va_D A [(a_tape, .inr (7, [.ref a_tape_bytes, .int c_tape_length])), (a_tape_bytes, .inl (E.2.2.1, 320, .inl c_tape_bytes)), (a_, .inr (4, [.ref a_tape, .ref a_rules, .ref a_places, .ref a_steps, .int c_siteCount, .int c_stepCount, .int c_seenRules, .int c_at, .int c_wordStart, .int k0, .int w_23]))] := hD
    rw [hQ]
    have h9 := fin9 (P := fun u9 : Int32 × Int32 × Int32 × Int32 => r_22 = u9.1 ∧ va_P E.1 vwCl (w_X3_readNumber E a_ a_tape a_rules a_places a_steps a_tape_bytes c_siteCount c_stepCount c_seenRules u9.2.1 c_wordStart u9.2.2.1 u9.2.2.2 c_tape_length c_tape_bytes) H ∧ va_D A (w_X3_readNumber E a_ a_tape a_rules a_places a_steps a_tape_bytes c_siteCount c_stepCount c_seenRules u9.2.1 c_wordStart u9.2.2.1 u9.2.2.2 c_tape_length c_tape_bytes)) hF ⟨rfl, hP.sub [2, 0, 1] rfl, hD.sub [2, 0, 1] (by decide) rfl⟩
    obtain ⟨e9_0, hP9, hD9⟩ := h9
    exact W.zret (v := r_22) hx hb hr (nar_bool hb_25) (fun tt ht hW => ⟨⟨_, (), rfl, ⟨e9_0, hb_25⟩, ht ▸ hP9, hD9⟩, hS.F ht⟩) hS.2.2 dX3_readNumber_194
  ·
    replace hF := inn c_21 hF
    refine lv_iload hx hb dX3_readNumber_166 (lv_at hl 4 rfl) ?_
    refine lv_bipush (v := 7) hx hb dX3_readNumber_168 (by decide) ?_
    refine lv_icmp_gt (tgt := 189) hx hb dX3_readNumber_170 (by decide) (fun c_26 => ?_) (fun c_26 => ?_)
    ·
      replace hF := ip c_26 hF
      refine lv_aload_n hx hb dX3_readNumber_189 rfl (lv_at hl 0 rfl) ?_
      refine lv_iload_n hx hb dX3_readNumber_190 rfl (lv_at hl 3 rfl) ?_
      replace hF := bd2_s hF
      obtain ⟨r_27, w_28, hc_29, hF⟩ := hF
      obtain ⟨hPc, hDc, hFc⟩ := wcut (wc := (w_X3_failAt E a_ a_tape a_rules a_places a_steps c_siteCount c_stepCount c_seenRules c_at c_wordStart k0 c_failed)) hP hD hS hA [0] (by decide) rfl
      have hrc := va_recv hK hPc (ci := 4) (q0 := 0) rfl rfl
      refine cE_z (wc := (w_X3_failAt E a_ a_tape a_rules a_places a_steps c_siteCount c_stepCount c_seenRules c_at c_wordStart k0 c_failed)) (wr := [(a_tape, .inr (7, [.ref a_tape_bytes, .int c_tape_length])), (a_tape_bytes, .inl (E.2.2.1, 320, .inl c_tape_bytes))]) (w1 := (w_X3_failAt E a_ a_tape a_rules a_places a_steps c_siteCount c_stepCount c_seenRules c_at c_wordStart k0 w_28)) (va_runV (As := [.int x3]) (rest := [])  ⟨hx, hb, hml, hown, hts⟩ (f_X3_failAt l E H.size (a_ := a_) (a_tape := a_tape) (a_rules := a_rules) (a_places := a_places) (a_steps := a_steps) (p1 := x3) (c_siteCount := c_siteCount) (c_stepCount := c_stepCount) (c_seenRules := c_seenRules) (c_at := c_at) (c_wordStart := c_wordStart) (c_number := k0) (c_failed := c_failed) hc_29) (cwV 1 hts g_f_X3_readNumber_f_X3_failAt_87 rfl rfl rfl hd_X3_failAt ⟨Nat.le_of_ble_eq_true rfl, Nat.le_of_ble_eq_true rfl⟩) ⟨pW.blind, hrc, (pW.pre ⟨hK, hN⟩ hPc hDc)⟩ rfl rfl hl.1 rfl (lv_room (Nat.le_of_ble_eq_true rfl)) dX3_readNumber_191 ⟨Nat.le_of_ble_eq_true rfl, Nat.le_of_ble_eq_true rfl⟩) hS hFc hP hD [0] [1, 2] rfl rfl (by decide) (by decide) (fun hb_30 H locs hP hD hS => ?_)
      replace hP : va_P E.1 vwCl [(a_tape, .inr (7, [.ref a_tape_bytes, .int c_tape_length])), (a_tape_bytes, .inl (E.2.2.1, 320, .inl c_tape_bytes)), (a_, .inr (4, [.ref a_tape, .ref a_rules, .ref a_places, .ref a_steps, .int c_siteCount, .int c_stepCount, .int c_seenRules, .int c_at, .int c_wordStart, .int k0, .int w_28]))] H := hP
      replace hD : va_D A [(a_tape, .inr (7, [.ref a_tape_bytes, .int c_tape_length])), (a_tape_bytes, .inl (E.2.2.1, 320, .inl c_tape_bytes)), (a_, .inr (4, [.ref a_tape, .ref a_rules, .ref a_places, .ref a_steps, .int c_siteCount, .int c_stepCount, .int c_seenRules, .int c_at, .int c_wordStart, .int k0, .int w_28]))] := hD
      rw [hQ]
      have h9 := fin9 (P := fun u9 : Int32 × Int32 × Int32 × Int32 => r_27 = u9.1 ∧ va_P E.1 vwCl (w_X3_readNumber E a_ a_tape a_rules a_places a_steps a_tape_bytes c_siteCount c_stepCount c_seenRules u9.2.1 c_wordStart u9.2.2.1 u9.2.2.2 c_tape_length c_tape_bytes) H ∧ va_D A (w_X3_readNumber E a_ a_tape a_rules a_places a_steps a_tape_bytes c_siteCount c_stepCount c_seenRules u9.2.1 c_wordStart u9.2.2.1 u9.2.2.2 c_tape_length c_tape_bytes)) hF ⟨rfl, hP.sub [2, 0, 1] rfl, hD.sub [2, 0, 1] (by decide) rfl⟩
      obtain ⟨e9_0, hP9, hD9⟩ := h9
      exact W.zret (v := r_27) hx hb hr (nar_bool hb_30) (fun tt ht hW => ⟨⟨_, (), rfl, ⟨e9_0, hb_30⟩, ht ▸ hP9, hD9⟩, hS.F ht⟩) hS.2.2 dX3_readNumber_194
    ·
      replace hF := inn c_26 hF
      refine lv_aload_n hx hb dX3_readNumber_173 rfl (lv_at hl 0 rfl) ?_
      refine gt_X3_9 (v := .int k0) hx hb hts i_f_X3_readNumber_X3 hown hK hP 0 rfl (hts (.fieldLink RX3 37 "HushWatch$Reader" "number" "I") (List.mem_of_getElem? (i := 3) rfl)) rfl dX3_readNumber_174 ?_
      refine lv_iload_n hx hb dX3_readNumber_177 rfl (lv_at hl 1 rfl) ?_
      refine lv_icmp_lt (tgt := 189) hx hb dX3_readNumber_178 (by decide) (fun c_31 => ?_) (fun c_31 => ?_)
      ·
        replace hF := ip c_31 hF
        refine lv_aload_n hx hb dX3_readNumber_189 rfl (lv_at hl 0 rfl) ?_
        refine lv_iload_n hx hb dX3_readNumber_190 rfl (lv_at hl 3 rfl) ?_
        replace hF := bd2_s hF
        obtain ⟨r_32, w_33, hc_34, hF⟩ := hF
        obtain ⟨hPc, hDc, hFc⟩ := wcut (wc := (w_X3_failAt E a_ a_tape a_rules a_places a_steps c_siteCount c_stepCount c_seenRules c_at c_wordStart k0 c_failed)) hP hD hS hA [0] (by decide) rfl
        have hrc := va_recv hK hPc (ci := 4) (q0 := 0) rfl rfl
        refine cE_z (wc := (w_X3_failAt E a_ a_tape a_rules a_places a_steps c_siteCount c_stepCount c_seenRules c_at c_wordStart k0 c_failed)) (wr := [(a_tape, .inr (7, [.ref a_tape_bytes, .int c_tape_length])), (a_tape_bytes, .inl (E.2.2.1, 320, .inl c_tape_bytes))]) (w1 := (w_X3_failAt E a_ a_tape a_rules a_places a_steps c_siteCount c_stepCount c_seenRules c_at c_wordStart k0 w_33)) (va_runV (As := [.int x3]) (rest := [])  ⟨hx, hb, hml, hown, hts⟩ (f_X3_failAt l E H.size (a_ := a_) (a_tape := a_tape) (a_rules := a_rules) (a_places := a_places) (a_steps := a_steps) (p1 := x3) (c_siteCount := c_siteCount) (c_stepCount := c_stepCount) (c_seenRules := c_seenRules) (c_at := c_at) (c_wordStart := c_wordStart) (c_number := k0) (c_failed := c_failed) hc_34) (cwV 1 hts g_f_X3_readNumber_f_X3_failAt_87 rfl rfl rfl hd_X3_failAt ⟨Nat.le_of_ble_eq_true rfl, Nat.le_of_ble_eq_true rfl⟩) ⟨pW.blind, hrc, (pW.pre ⟨hK, hN⟩ hPc hDc)⟩ rfl rfl hl.1 rfl (lv_room (Nat.le_of_ble_eq_true rfl)) dX3_readNumber_191 ⟨Nat.le_of_ble_eq_true rfl, Nat.le_of_ble_eq_true rfl⟩) hS hFc hP hD [0] [1, 2] rfl rfl (by decide) (by decide) (fun hb_35 H locs hP hD hS => ?_)
        replace hP : va_P E.1 vwCl [(a_tape, .inr (7, [.ref a_tape_bytes, .int c_tape_length])), (a_tape_bytes, .inl (E.2.2.1, 320, .inl c_tape_bytes)), (a_, .inr (4, [.ref a_tape, .ref a_rules, .ref a_places, .ref a_steps, .int c_siteCount, .int c_stepCount, .int c_seenRules, .int c_at, .int c_wordStart, .int k0, .int w_33]))] H := hP
        replace hD : va_D A [(a_tape, .inr (7, [.ref a_tape_bytes, .int c_tape_length])), (a_tape_bytes, .inl (E.2.2.1, 320, .inl c_tape_bytes)), (a_, .inr (4, [.ref a_tape, .ref a_rules, .ref a_places, .ref a_steps, .int c_siteCount, .int c_stepCount, .int c_seenRules, .int c_at, .int c_wordStart, .int k0, .int w_33]))] := hD
        rw [hQ]
        have h9 := fin9 (P := fun u9 : Int32 × Int32 × Int32 × Int32 => r_32 = u9.1 ∧ va_P E.1 vwCl (w_X3_readNumber E a_ a_tape a_rules a_places a_steps a_tape_bytes c_siteCount c_stepCount c_seenRules u9.2.1 c_wordStart u9.2.2.1 u9.2.2.2 c_tape_length c_tape_bytes) H ∧ va_D A (w_X3_readNumber E a_ a_tape a_rules a_places a_steps a_tape_bytes c_siteCount c_stepCount c_seenRules u9.2.1 c_wordStart u9.2.2.1 u9.2.2.2 c_tape_length c_tape_bytes)) hF ⟨rfl, hP.sub [2, 0, 1] rfl, hD.sub [2, 0, 1] (by decide) rfl⟩
        obtain ⟨e9_0, hP9, hD9⟩ := h9
        exact W.zret (v := r_32) hx hb hr (nar_bool hb_35) (fun tt ht hW => ⟨⟨_, (), rfl, ⟨e9_0, hb_35⟩, ht ▸ hP9, hD9⟩, hS.F ht⟩) hS.2.2 dX3_readNumber_194
      ·
        replace hF := inn c_31 hF
        refine lv_aload_n hx hb dX3_readNumber_181 rfl (lv_at hl 0 rfl) ?_
        refine gt_X3_9 (v := .int k0) hx hb hts i_f_X3_readNumber_X3 hown hK hP 0 rfl (hts (.fieldLink RX3 37 "HushWatch$Reader" "number" "I") (List.mem_of_getElem? (i := 3) rfl)) rfl dX3_readNumber_182 ?_
        refine lv_iload_n hx hb dX3_readNumber_185 rfl (lv_at hl 2 rfl) ?_
        refine lv_icmp_le (tgt := 195) hx hb dX3_readNumber_186 (by decide) (fun c_36 => ?_) (fun c_36 => ?_)
        ·
          replace hF := ip c_36 hF
          refine lv_iconst (v := 1) hx hb dX3_readNumber_195 (by decide) ?_
          rw [hQ]
          have h9 := fin9 (P := fun u9 : Int32 × Int32 × Int32 × Int32 => (1 : Int32) = u9.1 ∧ va_P E.1 vwCl (w_X3_readNumber E a_ a_tape a_rules a_places a_steps a_tape_bytes c_siteCount c_stepCount c_seenRules u9.2.1 c_wordStart u9.2.2.1 u9.2.2.2 c_tape_length c_tape_bytes) H ∧ va_D A (w_X3_readNumber E a_ a_tape a_rules a_places a_steps a_tape_bytes c_siteCount c_stepCount c_seenRules u9.2.1 c_wordStart u9.2.2.1 u9.2.2.2 c_tape_length c_tape_bytes)) hF ⟨rfl, hP, hD⟩
          obtain ⟨e9_0, hP9, hD9⟩ := h9
          exact W.zret (v := (1 : Int32)) hx hb hr rfl (fun tt ht hW => ⟨⟨_, (), rfl, ⟨e9_0, Or.inr rfl⟩, ht ▸ hP9, hD9⟩, hS.F ht⟩) hS.2.2 dX3_readNumber_196
        ·
          replace hF := inn c_36 hF
          refine lv_aload_n hx hb dX3_readNumber_189 rfl (lv_at hl 0 rfl) ?_
          refine lv_iload_n hx hb dX3_readNumber_190 rfl (lv_at hl 3 rfl) ?_
          replace hF := bd2_s hF
          obtain ⟨r_37, w_38, hc_39, hF⟩ := hF
          obtain ⟨hPc, hDc, hFc⟩ := wcut (wc := (w_X3_failAt E a_ a_tape a_rules a_places a_steps c_siteCount c_stepCount c_seenRules c_at c_wordStart k0 c_failed)) hP hD hS hA [0] (by decide) rfl
          have hrc := va_recv hK hPc (ci := 4) (q0 := 0) rfl rfl
          refine cE_z (wc := (w_X3_failAt E a_ a_tape a_rules a_places a_steps c_siteCount c_stepCount c_seenRules c_at c_wordStart k0 c_failed)) (wr := [(a_tape, .inr (7, [.ref a_tape_bytes, .int c_tape_length])), (a_tape_bytes, .inl (E.2.2.1, 320, .inl c_tape_bytes))]) (w1 := (w_X3_failAt E a_ a_tape a_rules a_places a_steps c_siteCount c_stepCount c_seenRules c_at c_wordStart k0 w_38)) (va_runV (As := [.int x3]) (rest := [])  ⟨hx, hb, hml, hown, hts⟩ (f_X3_failAt l E H.size (a_ := a_) (a_tape := a_tape) (a_rules := a_rules) (a_places := a_places) (a_steps := a_steps) (p1 := x3) (c_siteCount := c_siteCount) (c_stepCount := c_stepCount) (c_seenRules := c_seenRules) (c_at := c_at) (c_wordStart := c_wordStart) (c_number := k0) (c_failed := c_failed) hc_39) (cwV 1 hts g_f_X3_readNumber_f_X3_failAt_87 rfl rfl rfl hd_X3_failAt ⟨Nat.le_of_ble_eq_true rfl, Nat.le_of_ble_eq_true rfl⟩) ⟨pW.blind, hrc, (pW.pre ⟨hK, hN⟩ hPc hDc)⟩ rfl rfl hl.1 rfl (lv_room (Nat.le_of_ble_eq_true rfl)) dX3_readNumber_191 ⟨Nat.le_of_ble_eq_true rfl, Nat.le_of_ble_eq_true rfl⟩) hS hFc hP hD [0] [1, 2] rfl rfl (by decide) (by decide) (fun hb_40 H locs hP hD hS => ?_)
          replace hP : va_P E.1 vwCl [(a_tape, .inr (7, [.ref a_tape_bytes, .int c_tape_length])), (a_tape_bytes, .inl (E.2.2.1, 320, .inl c_tape_bytes)), (a_, .inr (4, [.ref a_tape, .ref a_rules, .ref a_places, .ref a_steps, .int c_siteCount, .int c_stepCount, .int c_seenRules, .int c_at, .int c_wordStart, .int k0, .int w_38]))] H := hP
          replace hD : va_D A [(a_tape, .inr (7, [.ref a_tape_bytes, .int c_tape_length])), (a_tape_bytes, .inl (E.2.2.1, 320, .inl c_tape_bytes)), (a_, .inr (4, [.ref a_tape, .ref a_rules, .ref a_places, .ref a_steps, .int c_siteCount, .int c_stepCount, .int c_seenRules, .int c_at, .int c_wordStart, .int k0, .int w_38]))] := hD
          rw [hQ]
          have h9 := fin9 (P := fun u9 : Int32 × Int32 × Int32 × Int32 => r_37 = u9.1 ∧ va_P E.1 vwCl (w_X3_readNumber E a_ a_tape a_rules a_places a_steps a_tape_bytes c_siteCount c_stepCount c_seenRules u9.2.1 c_wordStart u9.2.2.1 u9.2.2.2 c_tape_length c_tape_bytes) H ∧ va_D A (w_X3_readNumber E a_ a_tape a_rules a_places a_steps a_tape_bytes c_siteCount c_stepCount c_seenRules u9.2.1 c_wordStart u9.2.2.1 u9.2.2.2 c_tape_length c_tape_bytes)) hF ⟨rfl, hP.sub [2, 0, 1] rfl, hD.sub [2, 0, 1] (by decide) rfl⟩
          obtain ⟨e9_0, hP9, hD9⟩ := h9
          exact W.zret (v := r_37) hx hb hr (nar_bool hb_40) (fun tt ht hW => ⟨⟨_, (), rfl, ⟨e9_0, hb_40⟩, ht ▸ hP9, hD9⟩, hS.F ht⟩) hS.2.2 dX3_readNumber_194

set_option maxHeartbeats 4000000 in
set_option maxRecDepth 100000 in
theorem j_X3_readNumber_134 {p : Program} (l : Launch) {e : Env} {s : State} {m : MethodId} {below : List Frame} {meth : Method} {c : Code} {Q : State → Prop} (E : EE) (K : Nat) {a_ a_tape a_rules a_places a_steps a_tape_bytes : Nat} {p1 : Int32} {p2 : Int32} {c_siteCount : Int32} {c_stepCount : Int32} {c_seenRules : Int32} {c_wordStart : Int32} {c_tape_length : Int32} {c_tape_bytes : Nat → Int32} {x3 : Int32} {x4 : Int32} {x5 : Int32} {x6 : Int32} {c_at : Int32} {c_number : Int32} {c_failed : Int32} (hx : p.tables.exec = Jvm.exec) (hb : c.code = cX3_readNumber) (hml : c.maxLocals = 8) (hown : s.vm.findClass RX3 = some m.cls) (hts : ∀ w ∈ v_f_X3_readNumber, w.before #[Value.ref a_, Value.int p1, Value.int p2] s = true) (hK : va_K E.1 vwCl (TY E) s) (hN : NX s) {A : Nat → Prop} (hA : ∀ q : Nat, s.heap.size ≤ q → A q) {rr : Int32} {n_at : Int32} {n_number : Int32} {n_failed : Int32} (hr : meth.sig.returnType = (some .boolean)) (hlocks : meth.locks = false) (hQ : Q = MQ below (va_Qi (fun (q : Int32) (_u : Unit) => q = rr ∧ (q = 0 ∨ q = 1)) (fun (_u : Unit) tt => va_P E.1 vwCl (w_X3_readNumber E a_ a_tape a_rules a_places a_steps a_tape_bytes c_siteCount c_stepCount c_seenRules n_at c_wordStart n_number n_failed c_tape_length c_tape_bytes) tt.heap ∧ va_D A (w_X3_readNumber E a_ a_tape a_rules a_places a_steps a_tape_bytes c_siteCount c_stepCount c_seenRules n_at c_wordStart n_number n_failed c_tape_length c_tape_bytes)) A) #[Value.ref a_, Value.int p1, Value.int p2] s 0 0 A) (hF : J_X3_readNumber_134 p1 p2 x3 x4 x5 x6 c_at c_failed = some (rr, n_at, n_number, n_failed)) : ∀ (H : Heap) (locs : List Loc) (ls : Array Slot), va_P E.1 vwCl (w_X3_readNumber E a_ a_tape a_rules a_places a_steps a_tape_bytes c_siteCount c_stepCount c_seenRules c_at c_wordStart c_number c_failed c_tape_length c_tape_bytes) H → va_D A (w_X3_readNumber E a_ a_tape a_rules a_places a_steps a_tape_bytes c_siteCount c_stepCount c_seenRules c_at c_wordStart c_number c_failed c_tape_length c_tape_bytes) → va_S A s.heap H locs → lv_has ls 8 [(0, .ref a_), (1, .int p1), (2, .int p2), (3, .int x3), (4, .int x4), (5, .int x5), (6, .int x6)] → W p l e ({ frames := 2, cells := 0, slots := 0, locals := 41 } : Room) s m #[Value.ref a_, Value.int p1, Value.int p2] below meth c H locs 0 0 Q (F0 m 134 ls []) := by
  unfold J_X3_readNumber_134 at hF
  intro H locs ls hP hD hS hl
  replace hP : va_P E.1 vwCl [(a_, .inr (4, [.ref a_tape, .ref a_rules, .ref a_places, .ref a_steps, .int c_siteCount, .int c_stepCount, .int c_seenRules, .int c_at, .int c_wordStart, .int c_number, .int c_failed])), (a_tape, .inr (7, [.ref a_tape_bytes, .int c_tape_length])), (a_tape_bytes, .inl (E.2.2.1, 320, .inl c_tape_bytes))] H := hP
  replace hD : va_D A [(a_, .inr (4, [.ref a_tape, .ref a_rules, .ref a_places, .ref a_steps, .int c_siteCount, .int c_stepCount, .int c_seenRules, .int c_at, .int c_wordStart, .int c_number, .int c_failed])), (a_tape, .inr (7, [.ref a_tape_bytes, .int c_tape_length])), (a_tape_bytes, .inl (E.2.2.1, 320, .inl c_tape_bytes))] := hD
  refine lv_aload_n hx hb dX3_readNumber_134 rfl (lv_at hl 0 rfl) ?_
  refine gt_X3_7 (v := .int c_at) hx hb hts i_f_X3_readNumber_X3 hown hK hP 0 rfl (hts (.fieldLink RX3 31 "HushWatch$Reader" "at" "I") (List.mem_of_getElem? (i := 1) rfl)) rfl dX3_readNumber_135 ?_
  refine lv_iload hx hb dX3_readNumber_138 (lv_at hl 5 rfl) ?_
  refine lv_isub hx hb dX3_readNumber_140 ?_
  refine lv_istore (lv' := [(7, .int (c_at - x5)), (0, .ref a_), (1, .int p1), (2, .int p2), (3, .int x3), (4, .int x4), (5, .int x5), (6, .int x6)]) hx hb dX3_readNumber_141 hl (by decide) rfl (fun ls hl => ?_)
  refine lv_aload_n hx hb dX3_readNumber_143 rfl (lv_at hl 1 rfl) ?_
  refine lv_iload hx hb dX3_readNumber_144 (lv_at hl 5 rfl) ?_
  refine lv_if_eq (tgt := 155) hx hb dX3_readNumber_146 (by decide) (fun c_20 => ?_) (fun c_20 => ?_)
  ·
    replace hF := ip c_20 hF
    refine lv_iload hx hb dX3_readNumber_155 (lv_at hl 7 rfl) ?_
    exact j_X3_readNumber_157 l E K (p1 := p1) (p2 := p2) (c_siteCount := c_siteCount) (c_stepCount := c_stepCount) (c_seenRules := c_seenRules) (c_wordStart := c_wordStart) (c_tape_length := c_tape_length) (c_tape_bytes := c_tape_bytes) (k0 := x6) (x3 := x3) (x7 := c_at - x5) (c_at := c_at) (c_number := c_number) (c_failed := c_failed) hx hb hml hown hts hK hN hA hr hlocks hQ hF H locs ls (hP.sub [0, 1, 2] rfl) (hD.sub [0, 1, 2] (by decide) rfl) hS (lv_sub hl [1, 2, 3, 4, 0] rfl)
  ·
    replace hF := inn c_20 hF
    refine lv_iload hx hb dX3_readNumber_149 (lv_at hl 7 rfl) ?_
    refine lv_ineg hx hb dX3_readNumber_151 ?_
    refine lv_goto (tgt := 157) hx hb dX3_readNumber_152 (by decide) ?_
    exact j_X3_readNumber_157 l E K (p1 := p1) (p2 := p2) (c_siteCount := c_siteCount) (c_stepCount := c_stepCount) (c_seenRules := c_seenRules) (c_wordStart := c_wordStart) (c_tape_length := c_tape_length) (c_tape_bytes := c_tape_bytes) (k0 := -x6) (x3 := x3) (x7 := c_at - x5) (c_at := c_at) (c_number := c_number) (c_failed := c_failed) hx hb hml hown hts hK hN hA hr hlocks hQ hF H locs ls (hP.sub [0, 1, 2] rfl) (hD.sub [0, 1, 2] (by decide) rfl) hS (lv_sub hl [1, 2, 3, 4, 0] rfl)

set_option maxHeartbeats 4000000 in
set_option maxRecDepth 100000 in
theorem j_X3_readNumber_47 {p : Program} (l : Launch) {e : Env} {s : State} {m : MethodId} {below : List Frame} {meth : Method} {c : Code} {Q : State → Prop} (E : EE) (K : Nat) {a_ a_tape a_rules a_places a_steps a_tape_bytes : Nat} {p1 : Int32} {p2 : Int32} {c_siteCount : Int32} {c_stepCount : Int32} {c_seenRules : Int32} {c_wordStart : Int32} {c_tape_length : Int32} {c_tape_bytes : Nat → Int32} {x3 : Int32} {x4 : Int32} {c_at : Int32} {c_number : Int32} {c_failed : Int32} (hx : p.tables.exec = Jvm.exec) (hb : c.code = cX3_readNumber) (hml : c.maxLocals = 8) (hown : s.vm.findClass RX3 = some m.cls) (hts : ∀ w ∈ v_f_X3_readNumber, w.before #[Value.ref a_, Value.int p1, Value.int p2] s = true) (hK : va_K E.1 vwCl (TY E) s) (hN : NX s) {A : Nat → Prop} (hA : ∀ q : Nat, s.heap.size ≤ q → A q) {rr : Int32} {n_at : Int32} {n_number : Int32} {n_failed : Int32} (hr : meth.sig.returnType = (some .boolean)) (hlocks : meth.locks = false) (hQ : Q = MQ below (va_Qi (fun (q : Int32) (_u : Unit) => q = rr ∧ (q = 0 ∨ q = 1)) (fun (_u : Unit) tt => va_P E.1 vwCl (w_X3_readNumber E a_ a_tape a_rules a_places a_steps a_tape_bytes c_siteCount c_stepCount c_seenRules n_at c_wordStart n_number n_failed c_tape_length c_tape_bytes) tt.heap ∧ va_D A (w_X3_readNumber E a_ a_tape a_rules a_places a_steps a_tape_bytes c_siteCount c_stepCount c_seenRules n_at c_wordStart n_number n_failed c_tape_length c_tape_bytes)) A) #[Value.ref a_, Value.int p1, Value.int p2] s 0 0 A) (hF : J_X3_readNumber_47 K p1 p2 c_tape_length c_tape_bytes x3 x4 c_at c_failed = some (rr, n_at, n_number, n_failed)) : ∀ (H : Heap) (locs : List Loc) (ls : Array Slot), va_P E.1 vwCl (w_X3_readNumber E a_ a_tape a_rules a_places a_steps a_tape_bytes c_siteCount c_stepCount c_seenRules c_at c_wordStart c_number c_failed c_tape_length c_tape_bytes) H → va_D A (w_X3_readNumber E a_ a_tape a_rules a_places a_steps a_tape_bytes c_siteCount c_stepCount c_seenRules c_at c_wordStart c_number c_failed c_tape_length c_tape_bytes) → va_S A s.heap H locs → lv_has ls 8 [(0, .ref a_), (1, .int p1), (2, .int p2), (3, .int x3), (4, .int x4)] → W p l e ({ frames := 2, cells := 0, slots := 0, locals := 41 } : Room) s m #[Value.ref a_, Value.int p1, Value.int p2] below meth c H locs 0 0 Q (F0 m 47 ls []) := by
  unfold J_X3_readNumber_47 at hF
  intro H locs ls hP hD hS hl
  replace hP : va_P E.1 vwCl [(a_, .inr (4, [.ref a_tape, .ref a_rules, .ref a_places, .ref a_steps, .int c_siteCount, .int c_stepCount, .int c_seenRules, .int c_at, .int c_wordStart, .int c_number, .int c_failed])), (a_tape, .inr (7, [.ref a_tape_bytes, .int c_tape_length])), (a_tape_bytes, .inl (E.2.2.1, 320, .inl c_tape_bytes))] H := hP
  replace hD : va_D A [(a_, .inr (4, [.ref a_tape, .ref a_rules, .ref a_places, .ref a_steps, .int c_siteCount, .int c_stepCount, .int c_seenRules, .int c_at, .int c_wordStart, .int c_number, .int c_failed])), (a_tape, .inr (7, [.ref a_tape_bytes, .int c_tape_length])), (a_tape_bytes, .inl (E.2.2.1, 320, .inl c_tape_bytes))] := hD
  refine lv_aload_n hx hb dX3_readNumber_47 rfl (lv_at hl 0 rfl) ?_
  refine gt_X3_7 (v := .int c_at) hx hb hts i_f_X3_readNumber_X3 hown hK hP 0 rfl (hts (.fieldLink RX3 31 "HushWatch$Reader" "at" "I") (List.mem_of_getElem? (i := 1) rfl)) rfl dX3_readNumber_48 ?_
  refine lv_istore (lv' := [(5, .int c_at), (0, .ref a_), (1, .int p1), (2, .int p2), (3, .int x3), (4, .int x4)]) hx hb dX3_readNumber_51 hl (by decide) rfl (fun ls hl => ?_)
  refine lv_iconst (v := 0) hx hb dX3_readNumber_53 (by decide) ?_
  refine lv_istore (lv' := [(6, .int (0 : Int32)), (5, .int c_at), (0, .ref a_), (1, .int p1), (2, .int p2), (3, .int x3), (4, .int x4)]) hx hb dX3_readNumber_54 hl (by decide) rfl (fun ls hl => ?_)
  replace hF := bd2_s hF
  obtain ⟨x6_17, c_at_18, hL_19, hF⟩ := hF
  refine lw_X3_readNumber_56 l E K (p1 := p1) (p2 := p2) (c_siteCount := c_siteCount) (c_stepCount := c_stepCount) (c_seenRules := c_seenRules) (c_wordStart := c_wordStart) (c_tape_length := c_tape_length) (c_tape_bytes := c_tape_bytes) (x3 := x3) (x4 := x4) (x5 := c_at) (c_number := c_number) (c_failed := c_failed) hx hb hml hown hts hK hN hA K (0 : Int32) c_at x6_17 c_at_18 hL_19 ?_ H locs ls (hP.sub [0, 1, 2] rfl) (hD.sub [0, 1, 2] (by decide) rfl) hS (lv_sub hl [2, 3, 4, 5, 6, 1, 0] rfl)
  ·
    intro H locs ls hP hD hS hl
    replace hP : va_P E.1 vwCl [(a_, .inr (4, [.ref a_tape, .ref a_rules, .ref a_places, .ref a_steps, .int c_siteCount, .int c_stepCount, .int c_seenRules, .int c_at_18, .int c_wordStart, .int c_number, .int c_failed])), (a_tape, .inr (7, [.ref a_tape_bytes, .int c_tape_length])), (a_tape_bytes, .inl (E.2.2.1, 320, .inl c_tape_bytes))] H := hP
    replace hD : va_D A [(a_, .inr (4, [.ref a_tape, .ref a_rules, .ref a_places, .ref a_steps, .int c_siteCount, .int c_stepCount, .int c_seenRules, .int c_at_18, .int c_wordStart, .int c_number, .int c_failed])), (a_tape, .inr (7, [.ref a_tape_bytes, .int c_tape_length])), (a_tape_bytes, .inl (E.2.2.1, 320, .inl c_tape_bytes))] := hD
    exact j_X3_readNumber_134 l E K (p1 := p1) (p2 := p2) (c_siteCount := c_siteCount) (c_stepCount := c_stepCount) (c_seenRules := c_seenRules) (c_wordStart := c_wordStart) (c_tape_length := c_tape_length) (c_tape_bytes := c_tape_bytes) (x3 := x3) (x4 := x4) (x5 := c_at) (x6 := x6_17) (c_at := c_at_18) (c_number := c_number) (c_failed := c_failed) hx hb hml hown hts hK hN hA hr hlocks hQ hF H locs ls (hP.sub [0, 1, 2] rfl) (hD.sub [0, 1, 2] (by decide) rfl) hS (lv_sub hl [0, 1, 2, 3, 4, 5, 6] rfl)

set_option maxHeartbeats 4000000 in
set_option maxRecDepth 100000 in
theorem j_X3_readNumber_30 {p : Program} (l : Launch) {e : Env} {s : State} {m : MethodId} {below : List Frame} {meth : Method} {c : Code} {Q : State → Prop} (E : EE) (K : Nat) {a_ a_tape a_rules a_places a_steps a_tape_bytes : Nat} {p1 : Int32} {p2 : Int32} {c_siteCount : Int32} {c_stepCount : Int32} {c_seenRules : Int32} {c_wordStart : Int32} {c_tape_length : Int32} {c_tape_bytes : Nat → Int32} {k0 : Int32} {x3 : Int32} {c_at : Int32} {c_number : Int32} {c_failed : Int32} (hx : p.tables.exec = Jvm.exec) (hb : c.code = cX3_readNumber) (hml : c.maxLocals = 8) (hown : s.vm.findClass RX3 = some m.cls) (hts : ∀ w ∈ v_f_X3_readNumber, w.before #[Value.ref a_, Value.int p1, Value.int p2] s = true) (hK : va_K E.1 vwCl (TY E) s) (hN : NX s) {A : Nat → Prop} (hA : ∀ q : Nat, s.heap.size ≤ q → A q) {rr : Int32} {n_at : Int32} {n_number : Int32} {n_failed : Int32} (hr : meth.sig.returnType = (some .boolean)) (hlocks : meth.locks = false) (hQ : Q = MQ below (va_Qi (fun (q : Int32) (_u : Unit) => q = rr ∧ (q = 0 ∨ q = 1)) (fun (_u : Unit) tt => va_P E.1 vwCl (w_X3_readNumber E a_ a_tape a_rules a_places a_steps a_tape_bytes c_siteCount c_stepCount c_seenRules n_at c_wordStart n_number n_failed c_tape_length c_tape_bytes) tt.heap ∧ va_D A (w_X3_readNumber E a_ a_tape a_rules a_places a_steps a_tape_bytes c_siteCount c_stepCount c_seenRules n_at c_wordStart n_number n_failed c_tape_length c_tape_bytes)) A) #[Value.ref a_, Value.int p1, Value.int p2] s 0 0 A) (hF : J_X3_readNumber_30 K p1 p2 c_tape_length c_tape_bytes k0 x3 c_at c_failed = some (rr, n_at, n_number, n_failed)) : ∀ (H : Heap) (locs : List Loc) (ls : Array Slot), va_P E.1 vwCl (w_X3_readNumber E a_ a_tape a_rules a_places a_steps a_tape_bytes c_siteCount c_stepCount c_seenRules c_at c_wordStart c_number c_failed c_tape_length c_tape_bytes) H → va_D A (w_X3_readNumber E a_ a_tape a_rules a_places a_steps a_tape_bytes c_siteCount c_stepCount c_seenRules c_at c_wordStart c_number c_failed c_tape_length c_tape_bytes) → va_S A s.heap H locs → lv_has ls 8 [(0, .ref a_), (1, .int p1), (2, .int p2), (3, .int x3)] → W p l e ({ frames := 2, cells := 0, slots := 0, locals := 41 } : Room) s m #[Value.ref a_, Value.int p1, Value.int p2] below meth c H locs 0 0 Q (F0 m 30 ls [.int k0]) := by
  unfold J_X3_readNumber_30 at hF
  intro H locs ls hP hD hS hl
  replace hP : va_P E.1 vwCl [(a_, .inr (4, [.ref a_tape, .ref a_rules, .ref a_places, .ref a_steps, .int c_siteCount, .int c_stepCount, .int c_seenRules, .int c_at, .int c_wordStart, .int c_number, .int c_failed])), (a_tape, .inr (7, [.ref a_tape_bytes, .int c_tape_length])), (a_tape_bytes, .inl (E.2.2.1, 320, .inl c_tape_bytes))] H := hP
  replace hD : va_D A [(a_, .inr (4, [.ref a_tape, .ref a_rules, .ref a_places, .ref a_steps, .int c_siteCount, .int c_stepCount, .int c_seenRules, .int c_at, .int c_wordStart, .int c_number, .int c_failed])), (a_tape, .inr (7, [.ref a_tape_bytes, .int c_tape_length])), (a_tape_bytes, .inl (E.2.2.1, 320, .inl c_tape_bytes))] := hD
  refine lv_istore (lv' := [(4, .int k0), (0, .ref a_), (1, .int p1), (2, .int p2), (3, .int x3)]) hx hb dX3_readNumber_30 hl (by decide) rfl (fun ls hl => ?_)
  refine lv_iload hx hb dX3_readNumber_32 (lv_at hl 0 rfl) ?_
  refine lv_if_eq (tgt := 47) hx hb dX3_readNumber_34 (by decide) (fun c_6 => ?_) (fun c_6 => ?_)
  ·
    replace hF := ip c_6 hF
    exact j_X3_readNumber_47 l E K (p1 := p1) (p2 := p2) (c_siteCount := c_siteCount) (c_stepCount := c_stepCount) (c_seenRules := c_seenRules) (c_wordStart := c_wordStart) (c_tape_length := c_tape_length) (c_tape_bytes := c_tape_bytes) (x3 := x3) (x4 := k0) (c_at := c_at) (c_number := c_number) (c_failed := c_failed) hx hb hml hown hts hK hN hA hr hlocks hQ hF H locs ls (hP.sub [0, 1, 2] rfl) (hD.sub [0, 1, 2] (by decide) rfl) hS (lv_sub hl [1, 2, 3, 4, 0] rfl)
  ·
    replace hF := inn c_6 hF
    refine lv_aload_n hx hb dX3_readNumber_37 rfl (lv_at hl 1 rfl) ?_
    refine lv_dup hx hb dX3_readNumber_38 rfl ?_
    refine gt_X3_7 (v := .int c_at) hx hb hts i_f_X3_readNumber_X3 hown hK hP 0 rfl (hts (.fieldLink RX3 31 "HushWatch$Reader" "at" "I") (List.mem_of_getElem? (i := 1) rfl)) rfl dX3_readNumber_39 ?_
    refine lv_iconst (v := 1) hx hb dX3_readNumber_42 (by decide) ?_
    refine lv_iadd hx hb dX3_readNumber_43 ?_
    refine pt_X3_7 (v := .int (c_at + (1 : Int32))) hx hb hts i_f_X3_readNumber_X3 hown hK hP hD hS 0 rfl (hts (.fieldLink RX3 31 "HushWatch$Reader" "at" "I") (List.mem_of_getElem? (i := 1) rfl)) rfl rfl (Nat.le_of_ble_eq_true rfl) dX3_readNumber_44 (fun H locs hP hD hS => ?_)
    replace hP : va_P E.1 vwCl [(a_, .inr (4, [.ref a_tape, .ref a_rules, .ref a_places, .ref a_steps, .int c_siteCount, .int c_stepCount, .int c_seenRules, .int (c_at + (1 : Int32)), .int c_wordStart, .int c_number, .int c_failed])), (a_tape, .inr (7, [.ref a_tape_bytes, .int c_tape_length])), (a_tape_bytes, .inl (E.2.2.1, 320, .inl c_tape_bytes))] H := hP
    replace hD : va_D A [(a_, .inr (4, [.ref a_tape, .ref a_rules, .ref a_places, .ref a_steps, .int c_siteCount, .int c_stepCount, .int c_seenRules, .int (c_at + (1 : Int32)), .int c_wordStart, .int c_number, .int c_failed])), (a_tape, .inr (7, [.ref a_tape_bytes, .int c_tape_length])), (a_tape_bytes, .inl (E.2.2.1, 320, .inl c_tape_bytes))] := hD
    exact j_X3_readNumber_47 l E K (p1 := p1) (p2 := p2) (c_siteCount := c_siteCount) (c_stepCount := c_stepCount) (c_seenRules := c_seenRules) (c_wordStart := c_wordStart) (c_tape_length := c_tape_length) (c_tape_bytes := c_tape_bytes) (x3 := x3) (x4 := k0) (c_at := c_at + (1 : Int32)) (c_number := c_number) (c_failed := c_failed) hx hb hml hown hts hK hN hA hr hlocks hQ hF H locs ls (hP.sub [0, 1, 2] rfl) (hD.sub [0, 1, 2] (by decide) rfl) hS (lv_sub hl [1, 2, 3, 4, 0] rfl)

set_option maxHeartbeats 4000000 in
set_option maxRecDepth 100000 in
theorem f_X3_readNumber (l : Launch) (E : EE) (sz : Nat) (K : Nat) {a_ a_tape a_rules a_places a_steps a_tape_bytes : Nat} {p1 : Int32} {p2 : Int32} {c_siteCount : Int32} {c_stepCount : Int32} {c_seenRules : Int32} {c_at : Int32} {c_wordStart : Int32} {c_number : Int32} {c_failed : Int32} {c_tape_length : Int32} {c_tape_bytes : Nat → Int32} {rr : Int32} {n_at : Int32} {n_number : Int32} {n_failed : Int32} (hF : F_X3_readNumber K p1 p2 c_tape_bytes c_tape_length c_at c_number c_failed = some (rr, n_at, n_number, n_failed)) : Met l yX3_readNumber v_f_X3_readNumber (({ frames := 2, cells := 0, slots := 0, locals := 41 } : Room)) (va_Pc [.ref a_, .int p1, .int p2] (pW E sz (w_X3_readNumber E a_ a_tape a_rules a_places a_steps a_tape_bytes c_siteCount c_stepCount c_seenRules c_at c_wordStart c_number c_failed c_tape_length c_tape_bytes))) (va_Qi (fun (q : Int32) (_u : Unit) => q = rr ∧ (q = 0 ∨ q = 1)) (fun (_u : Unit) tt => va_P E.1 vwCl (w_X3_readNumber E a_ a_tape a_rules a_places a_steps a_tape_bytes c_siteCount c_stepCount c_seenRules n_at c_wordStart n_number n_failed c_tape_length c_tape_bytes) tt.heap ∧ va_D (va_A (w_X3_readNumber E a_ a_tape a_rules a_places a_steps a_tape_bytes c_siteCount c_stepCount c_seenRules c_at c_wordStart c_number c_failed c_tape_length c_tape_bytes) sz) (w_X3_readNumber E a_ a_tape a_rules a_places a_steps a_tape_bytes c_siteCount c_stepCount c_seenRules n_at c_wordStart n_number n_failed c_tape_length c_tape_bytes)) (va_A (w_X3_readNumber E a_ a_tape a_rules a_places a_steps a_tape_bytes c_siteCount c_stepCount c_seenRules c_at c_wordStart c_number c_failed c_tape_length c_tape_bytes) sz)) 0 0 (va_A (w_X3_readNumber E a_ a_tape a_rules a_places a_steps a_tape_bytes c_siteCount c_stepCount c_seenRules c_at c_wordStart c_number c_failed c_tape_length c_tape_bytes) sz) := by
  refine Met.ofW (cc := cX3_readNumber) (maxL := 8) (ret := (some .boolean)) (by decide) rfl ?_
  intro p e s m args below meth c s₁ B hml hv
  obtain ⟨rfl, hsz, ⟨hK, hN⟩, hP, hD0⟩ := hv
  have hx := B.exec
  have hb := B.bytes
  have hr := B.returns
  have hts := atoms_spec (ws := v_f_X3_readNumber) B.pre
  have hown : s.vm.findClass RX3 = some m.cls := own_of hd_X3_readNumber.1 (findClass_of_methodNamed B.named)
  have hlocks : meth.locks = false := B.notSynchronized
  subst hsz
  have hD := hD0.self (sz := s.heap.size)
  generalize hAe : va_A (w_X3_readNumber E a_ a_tape a_rules a_places a_steps a_tape_bytes c_siteCount c_stepCount c_seenRules c_at c_wordStart c_number c_failed c_tape_length c_tape_bytes) s.heap.size = A at hD ⊢
  have hA : ∀ q : Nat, s.heap.size ≤ q → A q := fun q h => by rw [← hAe]; exact Or.inr h
  have hS : va_S A s.heap s.heap [] := va_S.rf
  have hl := lv_entry ([.ref a_, .int p1, .int p2]) (n := 8) (Nat.le_of_ble_eq_true rfl)
  rw [lg_entry_eq]
  generalize (lg_sl ([.ref a_, .int p1, .int p2]) ++ List.replicate (8 - (lg_sl ([.ref a_, .int p1, .int p2])).length) Slot.unset).toArray = ls at hl ⊢
  have hl : lv_has ls 8 [(0, .ref a_), (1, .int p1), (2, .int p2)] := hl
  obtain ⟨Q, hQ⟩ : ∃ Q : State → Prop, Q = MQ below (va_Qi (fun (q : Int32) (_u : Unit) => q = rr ∧ (q = 0 ∨ q = 1)) (fun (_u : Unit) tt => va_P E.1 vwCl (w_X3_readNumber E a_ a_tape a_rules a_places a_steps a_tape_bytes c_siteCount c_stepCount c_seenRules n_at c_wordStart n_number n_failed c_tape_length c_tape_bytes) tt.heap ∧ va_D A (w_X3_readNumber E a_ a_tape a_rules a_places a_steps a_tape_bytes c_siteCount c_stepCount c_seenRules n_at c_wordStart n_number n_failed c_tape_length c_tape_bytes)) A) #[Value.ref a_, Value.int p1, Value.int p2] s 0 0 A := ⟨_, rfl⟩
  rw [← hQ]
  change W p l e ({ frames := 2, cells := 0, slots := 0, locals := 41 } : Room) s m #[Value.ref a_, Value.int p1, Value.int p2] below meth c s.heap [] 0 0 Q (F0 m 0 ls [])
  suffices hh9 : ∀ (H : Heap) (locs : List Loc), va_P E.1 vwCl (w_X3_readNumber E a_ a_tape a_rules a_places a_steps a_tape_bytes c_siteCount c_stepCount c_seenRules c_at c_wordStart c_number c_failed c_tape_length c_tape_bytes) H → va_D A (w_X3_readNumber E a_ a_tape a_rules a_places a_steps a_tape_bytes c_siteCount c_stepCount c_seenRules c_at c_wordStart c_number c_failed c_tape_length c_tape_bytes) → va_S A s.heap H locs → W p l e ({ frames := 2, cells := 0, slots := 0, locals := 41 } : Room) s m #[Value.ref a_, Value.int p1, Value.int p2] below meth c H locs 0 0 Q (F0 m 0 ls []) from hh9 s.heap [] hP hD hS
  clear hP hD hS
  intro H locs hP hD hS
  replace hP : va_P E.1 vwCl [(a_, .inr (4, [.ref a_tape, .ref a_rules, .ref a_places, .ref a_steps, .int c_siteCount, .int c_stepCount, .int c_seenRules, .int c_at, .int c_wordStart, .int c_number, .int c_failed])), (a_tape, .inr (7, [.ref a_tape_bytes, .int c_tape_length])), (a_tape_bytes, .inl (E.2.2.1, 320, .inl c_tape_bytes))] H := hP
  replace hD : va_D A [(a_, .inr (4, [.ref a_tape, .ref a_rules, .ref a_places, .ref a_steps, .int c_siteCount, .int c_stepCount, .int c_seenRules, .int c_at, .int c_wordStart, .int c_number, .int c_failed])), (a_tape, .inr (7, [.ref a_tape_bytes, .int c_tape_length])), (a_tape_bytes, .inl (E.2.2.1, 320, .inl c_tape_bytes))] := hD
  unfold F_X3_readNumber at hF
  refine lv_aload_n hx hb dX3_readNumber_0 rfl (lv_at hl 0 rfl) ?_
  replace hF := bd1_s hF
  obtain ⟨w_1, hc_2, hF⟩ := hF
  obtain ⟨hPc, hDc, hFc⟩ := wcut (wc := (w_X3_skipBlanks E a_ a_tape a_rules a_places a_steps a_tape_bytes c_siteCount c_stepCount c_seenRules c_at c_wordStart c_number c_failed c_tape_length c_tape_bytes)) hP hD hS hA [0, 1, 2] (by decide) rfl
  have hrc := va_recv hK hPc (ci := 4) (q0 := 0) rfl rfl
  refine cE_v (wc := (w_X3_skipBlanks E a_ a_tape a_rules a_places a_steps a_tape_bytes c_siteCount c_stepCount c_seenRules c_at c_wordStart c_number c_failed c_tape_length c_tape_bytes)) (wr := []) (w1 := (w_X3_skipBlanks E a_ a_tape a_rules a_places a_steps a_tape_bytes c_siteCount c_stepCount c_seenRules w_1 c_wordStart c_number c_failed c_tape_length c_tape_bytes)) (va_runV (As := []) (rest := [])  ⟨hx, hb, hml, hown, hts⟩ (f_X3_skipBlanks l E H.size K (a_ := a_) (a_tape := a_tape) (a_rules := a_rules) (a_places := a_places) (a_steps := a_steps) (a_tape_bytes := a_tape_bytes) (c_siteCount := c_siteCount) (c_stepCount := c_stepCount) (c_seenRules := c_seenRules) (c_at := c_at) (c_wordStart := c_wordStart) (c_number := c_number) (c_failed := c_failed) (c_tape_length := c_tape_length) (c_tape_bytes := c_tape_bytes) hc_2) (cwV 0 hts g_f_X3_readNumber_f_X3_skipBlanks_140 rfl rfl rfl hd_X3_skipBlanks ⟨Nat.le_of_ble_eq_true rfl, Nat.le_of_ble_eq_true rfl⟩) ⟨pW.blind, hrc, (pW.pre ⟨hK, hN⟩ hPc hDc)⟩ rfl rfl hl.1 rfl (lv_room (Nat.le_of_ble_eq_true rfl)) dX3_readNumber_1 ⟨Nat.le_of_ble_eq_true rfl, Nat.le_of_ble_eq_true rfl⟩) hS hFc hP hD [0, 1, 2] [] rfl rfl (by decide) (by decide) (fun H locs hP hD hS => ?_)
  replace hP : va_P E.1 vwCl [(a_, .inr (4, [.ref a_tape, .ref a_rules, .ref a_places, .ref a_steps, .int c_siteCount, .int c_stepCount, .int c_seenRules, .int w_1, .int c_wordStart, .int c_number, .int c_failed])), (a_tape, .inr (7, [.ref a_tape_bytes, .int c_tape_length])), (a_tape_bytes, .inl (E.2.2.1, 320, .inl c_tape_bytes))] H := hP
  replace hD : va_D A [(a_, .inr (4, [.ref a_tape, .ref a_rules, .ref a_places, .ref a_steps, .int c_siteCount, .int c_stepCount, .int c_seenRules, .int w_1, .int c_wordStart, .int c_number, .int c_failed])), (a_tape, .inr (7, [.ref a_tape_bytes, .int c_tape_length])), (a_tape_bytes, .inl (E.2.2.1, 320, .inl c_tape_bytes))] := hD
  refine lv_aload_n hx hb dX3_readNumber_4 rfl (lv_at hl 0 rfl) ?_
  refine gt_X3_7 (v := .int w_1) hx hb hts i_f_X3_readNumber_X3 hown hK hP 0 rfl (hts (.fieldLink RX3 31 "HushWatch$Reader" "at" "I") (List.mem_of_getElem? (i := 1) rfl)) rfl dX3_readNumber_5 ?_
  refine lv_istore_n (lv' := [(3, .int w_1), (0, .ref a_), (1, .int p1), (2, .int p2)]) hx hb dX3_readNumber_8 rfl hl (by decide) rfl (fun ls hl => ?_)
  refine lv_aload_n hx hb dX3_readNumber_9 rfl (lv_at hl 1 rfl) ?_
  refine gt_X3_0 (v := .ref a_tape) hx hb hts i_f_X3_readNumber_X3 hown hK hP 0 rfl (hts (.fieldLink RX3 43 "HushWatch$Reader" "tape" "LHushWatch$Tape;") (List.mem_of_getElem? (i := 2) rfl)) rfl dX3_readNumber_10 ?_
  refine lv_aload_n hx hb dX3_readNumber_13 rfl (lv_at hl 1 rfl) ?_
  refine gt_X3_7 (v := .int w_1) hx hb hts i_f_X3_readNumber_X3 hown hK hP 0 rfl (hts (.fieldLink RX3 31 "HushWatch$Reader" "at" "I") (List.mem_of_getElem? (i := 1) rfl)) rfl dX3_readNumber_14 ?_
  replace hF := bd1_s hF
  obtain ⟨r_3, hc_4, hF⟩ := hF
  have hPc : va_P E.1 vwCl (w_X6_signAt E a_tape a_tape_bytes c_tape_length c_tape_bytes) H := hP.sub (ws' := [(a_tape, .inr (7, [.ref a_tape_bytes, .int c_tape_length])), (a_tape_bytes, .inl (E.2.2.1, 320, .inl c_tape_bytes))]) [1, 2] rfl
  have hrc := va_recv hK hPc (ci := 7) (q0 := 0) rfl rfl
  refine pE_i (va_runV (As := [.int w_1]) (rest := [])  ⟨hx, hb, hml, hown, hts⟩ (f_X6_signAt l E (a_ := a_tape) (a_bytes := a_tape_bytes) (p1 := w_1) (c_length := c_tape_length) (c_bytes := c_tape_bytes) hc_4) (cwV 1 hts g_f_X3_readNumber_f_X6_signAt_143 rfl rfl rfl hd_X6_signAt ⟨Nat.le_of_ble_eq_true rfl, Nat.le_of_ble_eq_true rfl⟩) ⟨pP.blind, hrc, (pP.pre ⟨hK, hN⟩ hPc)⟩ rfl rfl hl.1 rfl (lv_room (Nat.le_of_ble_eq_true rfl)) dX3_readNumber_17 ⟨Nat.le_of_ble_eq_true rfl, Nat.le_of_ble_eq_true rfl⟩) ?_
  refine lv_bipush (v := 45) hx hb dX3_readNumber_20 (by decide) ?_
  refine lv_icmp_ne (tgt := 29) hx hb dX3_readNumber_22 (by decide) (fun c_5 => ?_) (fun c_5 => ?_)
  ·
    replace hF := inn c_5 hF
    refine lv_iconst (v := 0) hx hb dX3_readNumber_29 (by decide) ?_
    exact j_X3_readNumber_30 l E K (p1 := p1) (p2 := p2) (c_siteCount := c_siteCount) (c_stepCount := c_stepCount) (c_seenRules := c_seenRules) (c_wordStart := c_wordStart) (c_tape_length := c_tape_length) (c_tape_bytes := c_tape_bytes) (k0 := (0 : Int32)) (x3 := w_1) (c_at := w_1) (c_number := c_number) (c_failed := c_failed) hx hb hml hown hts hK hN hA hr hlocks hQ hF H locs ls (hP.sub [0, 1, 2] rfl) (hD.sub [0, 1, 2] (by decide) rfl) hS (lv_sub hl [1, 2, 3, 0] rfl)
  ·
    replace hF := ip c_5 hF
    refine lv_iconst (v := 1) hx hb dX3_readNumber_25 (by decide) ?_
    refine lv_goto (tgt := 30) hx hb dX3_readNumber_26 (by decide) ?_
    exact j_X3_readNumber_30 l E K (p1 := p1) (p2 := p2) (c_siteCount := c_siteCount) (c_stepCount := c_stepCount) (c_seenRules := c_seenRules) (c_wordStart := c_wordStart) (c_tape_length := c_tape_length) (c_tape_bytes := c_tape_bytes) (k0 := (1 : Int32)) (x3 := w_1) (c_at := w_1) (c_number := c_number) (c_failed := c_failed) hx hb hml hown hts hK hN hA hr hlocks hQ hF H locs ls (hP.sub [0, 1, 2] rfl) (hD.sub [0, 1, 2] (by decide) rfl) hS (lv_sub hl [1, 2, 3, 0] rfl)

def J_X3_readSite_41_r21 (K : Nat) (c_tape_length : Int32) (c_tape_bytes : Nat → Int32) (x1 : Int32) (c_places : Nat → Int32) (c_siteCount : Int32) (c_at : Int32) (c_number : Int32) (c_failed : Int32) : Option ((Int32 × (Nat → Int32) × Int32 × Int32 × Int32) ⊕ (Nat × (Nat → Int32) × Int32 × Int32 × Int32)) :=
  bd4 (F_X3_readNumber K (-999 : Int32) (999 : Int32) c_tape_bytes c_tape_length c_at c_number c_failed) (fun r_4 w_5 w_6 w_7 => if r_4 = (0 : Int32) then some (.inr (1, c_places, w_5, w_6, w_7)) else ixF (((2 : Int32) * c_siteCount) + x1) 16 (nmF (upd c_places (((2 : Int32) * c_siteCount) + x1).toNatClampNeg w_6) (fun f_12 => some (.inl (x1 + (1 : Int32), f_12, w_5, w_6, w_7)))))
def B_X3_readSite_20 (K : Nat) (c_tape_length : Int32) (c_tape_bytes : Nat → Int32) (c_siteCount : Int32) (x1 : Int32) (c_places : Nat → Int32) (c_at : Int32) (c_number : Int32) (c_failed : Int32) : Option ((Int32 × (Nat → Int32) × Int32 × Int32 × Int32) ⊕ (Nat × (Nat → Int32) × Int32 × Int32 × Int32)) :=
  if (2 : Int32) ≤ x1 then some (.inr (2, c_places, c_at, c_number, c_failed)) else if x1 = (1 : Int32) then bd3 (F_X3_readSign K (44 : Int32) c_tape_bytes c_tape_length c_at c_failed) (fun r_13 w_14 w_15 => if r_13 = (0 : Int32) then some (.inr (0, c_places, w_14, c_number, w_15)) else J_X3_readSite_41_r21 K c_tape_length c_tape_bytes x1 c_places c_siteCount w_14 c_number w_15) else J_X3_readSite_41_r21 K c_tape_length c_tape_bytes x1 c_places c_siteCount c_at c_number c_failed
def F_X3_readSite (K : Nat) (c_tape_bytes : Nat → Int32) (c_tape_length : Int32) (c_places : Nat → Int32) (c_siteCount : Int32) (c_at : Int32) (c_wordStart : Int32) (c_number : Int32) (c_failed : Int32) : Option (Int32 × (Nat → Int32) × Int32 × Int32 × Int32 × Int32) :=
  if c_siteCount < (8 : Int32) then bd5 (lpF (fun u9 : Int32 × (Nat → Int32) × Int32 × Int32 × Int32 => B_X3_readSite_20 K c_tape_length c_tape_bytes c_siteCount u9.1 u9.2.1 u9.2.2.1 u9.2.2.2.1 u9.2.2.2.2) K ((0 : Int32), c_places, c_at, c_number, c_failed)) (fun t_19 c_places_20 c_at_21 c_number_22 c_failed_23 => if t_19 = 0 then some ((0 : Int32), c_places_20, c_siteCount, c_at_21, c_number_22, c_failed_23) else if t_19 = 1 then some ((0 : Int32), c_places_20, c_siteCount, c_at_21, c_number_22, c_failed_23) else if t_19 = 2 then some ((1 : Int32), c_places_20, c_siteCount + (1 : Int32), c_at_21, c_number_22, c_failed_23) else none) else bd2 (F_X3_failAt c_wordStart c_failed) (fun r_25 w_26 => some (r_25, c_places, c_siteCount, c_at, c_number, w_26))
abbrev w_X3_readSite (E : EE) (a_ a_tape a_rules a_places a_steps a_tape_bytes : Nat) (c_siteCount : Int32) (c_stepCount : Int32) (c_seenRules : Int32) (c_at : Int32) (c_wordStart : Int32) (c_number : Int32) (c_failed : Int32) (c_tape_length : Int32) (c_tape_bytes : Nat → Int32) (c_places : Nat → Int32) : va_W := [(a_, .inr (4, [.ref a_tape, .ref a_rules, .ref a_places, .ref a_steps, .int c_siteCount, .int c_stepCount, .int c_seenRules, .int c_at, .int c_wordStart, .int c_number, .int c_failed])), (a_tape, .inr (7, [.ref a_tape_bytes, .int c_tape_length])), (a_tape_bytes, .inl (E.2.2.1, 320, .inl c_tape_bytes)), (a_places, .inl (E.2.1, 16, .inl c_places))]
def v_f_X3_readSite : List Cond := List.cons (.code yX3_readSite cX3_readSite 2 (some .boolean)) (HAppend.hAppend (α := List Cond) (β := List Cond) (γ := List Cond) [.fieldLink RX3 21 "HushWatch$Reader" "siteCount" "I", .fieldLink RX3 15 "HushWatch$Reader" "places" "[I", .fieldLink RX3 37 "HushWatch$Reader" "number" "I", .fieldLink RX3 34 "HushWatch$Reader" "wordStart" "I", .methodLink RX3 96 yX3_readNumber, .instanceMethod yX3_readNumber, .selects RX3 yX3_readNumber yX3_readNumber, .initialized RX3, .methodLink RX3 62 yX3_readSign, .instanceMethod yX3_readSign, .selects RX3 yX3_readSign yX3_readSign, .methodLink RX3 87 yX3_failAt, .instanceMethod yX3_failAt, .selects RX3 yX3_failAt yX3_failAt] (HAppend.hAppend (α := List Cond) (β := List Cond) (γ := List Cond) wsX30 (HAppend.hAppend (α := List Cond) (β := List Cond) (γ := List Cond) v_f_X3_readNumber (HAppend.hAppend (α := List Cond) (β := List Cond) (γ := List Cond) v_f_X3_readSign (HAppend.hAppend (α := List Cond) (β := List Cond) (γ := List Cond) v_f_X3_failAt [])))))
theorem gw_f_X3_readSite : v_f_X3_readSite.all goodWord = true := by decide +kernel
theorem i_f_X3_readSite_X3 : ∀ w ∈ wsX30, w ∈ v_f_X3_readSite := fun _ h => List.mem_cons_of_mem _ (List.mem_append_right _ (List.mem_append_left _ h))
theorem g_f_X3_readSite_f_X3_readNumber_96 : GoodIn v_f_X3_readSite (wsV RX3 96 RX3 yX3_readNumber v_f_X3_readNumber) := goodIn_app (goodIn_of _ (by decide +kernel)) (goodIn_sub (fun _ h => List.mem_cons_of_mem _ (List.mem_append_right _ (List.mem_append_right _ (List.mem_append_left _ h)))) gw_f_X3_readNumber)
theorem g_f_X3_readSite_f_X3_readSign_62 : GoodIn v_f_X3_readSite (wsV RX3 62 RX3 yX3_readSign v_f_X3_readSign) := goodIn_app (goodIn_of _ (by decide +kernel)) (goodIn_sub (fun _ h => List.mem_cons_of_mem _ (List.mem_append_right _ (List.mem_append_right _ (List.mem_append_right _ (List.mem_append_left _ h))))) gw_f_X3_readSign)
theorem g_f_X3_readSite_f_X3_failAt_87 : GoodIn v_f_X3_readSite (wsV RX3 87 RX3 yX3_failAt v_f_X3_failAt) := goodIn_app (goodIn_of _ (by decide +kernel)) (goodIn_sub (fun _ h => List.mem_cons_of_mem _ (List.mem_append_right _ (List.mem_append_right _ (List.mem_append_right _ (List.mem_append_right _ (List.mem_append_left _ h)))))) gw_f_X3_failAt)
theorem hd_X3_readSite : yX3_readSite.cls = RX3 ∧ yX3_readSite.cls ≠ "java/lang/invoke/MethodHandle" ∧ yX3_readSite.cls ≠ "java/lang/invoke/VarHandle" ∧ (parseMethodDescriptor yX3_readSite.desc).map (fun d => d.parameters.length) = some 0 := by decide +kernel
set_option maxHeartbeats 4000000 in
set_option maxRecDepth 100000 in
theorem j_X3_readSite_41_r21 {p : Program} (l : Launch) {e : Env} {s : State} {m : MethodId} {below : List Frame} {meth : Method} {c : Code} {Q : State → Prop} (E : EE) (K : Nat) {a_ a_tape a_rules a_places a_steps a_tape_bytes : Nat} {c_stepCount : Int32} {c_seenRules : Int32} {c_wordStart : Int32} {c_tape_length : Int32} {c_tape_bytes : Nat → Int32} {x1 : Int32} {c_places : Nat → Int32} {c_siteCount : Int32} {c_at : Int32} {c_number : Int32} {c_failed : Int32} (hx : p.tables.exec = Jvm.exec) (hb : c.code = cX3_readSite) (hml : c.maxLocals = 2) (hown : s.vm.findClass RX3 = some m.cls) (hts : ∀ w ∈ v_f_X3_readSite, w.before #[Value.ref a_] s = true) (hK : va_K E.1 vwCl (TY E) s) (hN : NX s) {A : Nat → Prop} (hA : ∀ q : Nat, s.heap.size ≤ q → A q) {xx : (Int32 × (Nat → Int32) × Int32 × Int32 × Int32) ⊕ (Nat × (Nat → Int32) × Int32 × Int32 × Int32)} (hC : ∀ (x1 : Int32), ∀ (c_places : Nat → Int32), ∀ (c_at : Int32), ∀ (c_number : Int32), ∀ (c_failed : Int32), xx = .inl (x1, c_places, c_at, c_number, c_failed) → ∀ (H : Heap) (locs : List Loc) (ls : Array Slot), va_P E.1 vwCl (w_X3_readSite E a_ a_tape a_rules a_places a_steps a_tape_bytes c_siteCount c_stepCount c_seenRules c_at c_wordStart c_number c_failed c_tape_length c_tape_bytes c_places) H → va_D A (w_X3_readSite E a_ a_tape a_rules a_places a_steps a_tape_bytes c_siteCount c_stepCount c_seenRules c_at c_wordStart c_number c_failed c_tape_length c_tape_bytes c_places) → va_S A s.heap H locs → lv_has ls 2 [(0, .ref a_), (1, .int x1)] → W p l e ({ frames := 3, cells := 0, slots := 0, locals := 68 } : Room) s m #[Value.ref a_] below meth c H locs 0 0 Q (F0 m 20 ls [])) (hE : ∀ (t9 : Nat), ∀ (c_places : Nat → Int32), ∀ (c_at : Int32), ∀ (c_number : Int32), ∀ (c_failed : Int32), xx = .inr (t9, c_places, c_at, c_number, c_failed) → ((t9 = 0 → ∀ (H : Heap) (locs : List Loc) (ls : Array Slot), va_P E.1 vwCl (w_X3_readSite E a_ a_tape a_rules a_places a_steps a_tape_bytes c_siteCount c_stepCount c_seenRules c_at c_wordStart c_number c_failed c_tape_length c_tape_bytes c_places) H → va_D A (w_X3_readSite E a_ a_tape a_rules a_places a_steps a_tape_bytes c_siteCount c_stepCount c_seenRules c_at c_wordStart c_number c_failed c_tape_length c_tape_bytes c_places) → va_S A s.heap H locs → lv_has ls 2 [] → W p l e ({ frames := 3, cells := 0, slots := 0, locals := 68 } : Room) s m #[Value.ref a_] below meth c H locs 0 0 Q (F0 m 39 ls [])) ∧ (t9 = 1 → ∀ (H : Heap) (locs : List Loc) (ls : Array Slot), va_P E.1 vwCl (w_X3_readSite E a_ a_tape a_rules a_places a_steps a_tape_bytes c_siteCount c_stepCount c_seenRules c_at c_wordStart c_number c_failed c_tape_length c_tape_bytes c_places) H → va_D A (w_X3_readSite E a_ a_tape a_rules a_places a_steps a_tape_bytes c_siteCount c_stepCount c_seenRules c_at c_wordStart c_number c_failed c_tape_length c_tape_bytes c_places) → va_S A s.heap H locs → lv_has ls 2 [] → W p l e ({ frames := 3, cells := 0, slots := 0, locals := 68 } : Room) s m #[Value.ref a_] below meth c H locs 0 0 Q (F0 m 54 ls [])) ∧ (t9 = 2 → ∀ (H : Heap) (locs : List Loc) (ls : Array Slot), va_P E.1 vwCl (w_X3_readSite E a_ a_tape a_rules a_places a_steps a_tape_bytes c_siteCount c_stepCount c_seenRules c_at c_wordStart c_number c_failed c_tape_length c_tape_bytes c_places) H → va_D A (w_X3_readSite E a_ a_tape a_rules a_places a_steps a_tape_bytes c_siteCount c_stepCount c_seenRules c_at c_wordStart c_number c_failed c_tape_length c_tape_bytes c_places) → va_S A s.heap H locs → lv_has ls 2 [(0, .ref a_)] → W p l e ({ frames := 3, cells := 0, slots := 0, locals := 68 } : Room) s m #[Value.ref a_] below meth c H locs 0 0 Q (F0 m 79 ls [])))) (hF : J_X3_readSite_41_r21 K c_tape_length c_tape_bytes x1 c_places c_siteCount c_at c_number c_failed = some xx) : ∀ (H : Heap) (locs : List Loc) (ls : Array Slot), va_P E.1 vwCl (w_X3_readSite E a_ a_tape a_rules a_places a_steps a_tape_bytes c_siteCount c_stepCount c_seenRules c_at c_wordStart c_number c_failed c_tape_length c_tape_bytes c_places) H → va_D A (w_X3_readSite E a_ a_tape a_rules a_places a_steps a_tape_bytes c_siteCount c_stepCount c_seenRules c_at c_wordStart c_number c_failed c_tape_length c_tape_bytes c_places) → va_S A s.heap H locs → lv_has ls 2 [(0, .ref a_), (1, .int x1)] → W p l e ({ frames := 3, cells := 0, slots := 0, locals := 68 } : Room) s m #[Value.ref a_] below meth c H locs 0 0 Q (F0 m 41 ls []) := by
  unfold J_X3_readSite_41_r21 at hF
  intro H locs ls hP hD hS hl
  replace hP : va_P E.1 vwCl [(a_, .inr (4, [.ref a_tape, .ref a_rules, .ref a_places, .ref a_steps, .int c_siteCount, .int c_stepCount, .int c_seenRules, .int c_at, .int c_wordStart, .int c_number, .int c_failed])), (a_tape, .inr (7, [.ref a_tape_bytes, .int c_tape_length])), (a_tape_bytes, .inl (E.2.2.1, 320, .inl c_tape_bytes)), (a_places, .inl (E.2.1, 16, .inl c_places))] H := hP
  replace hD : va_D A [(a_, .inr (4, [.ref a_tape, .ref a_rules, .ref a_places, .ref a_steps, .int c_siteCount, .int c_stepCount, .int c_seenRules, .int c_at, .int c_wordStart, .int c_number, .int c_failed])), (a_tape, .inr (7, [.ref a_tape_bytes, .int c_tape_length])), (a_tape_bytes, .inl (E.2.2.1, 320, .inl c_tape_bytes)), (a_places, .inl (E.2.1, 16, .inl c_places))] := hD
  refine lv_aload_n hx hb dX3_readSite_41 rfl (lv_at hl 0 rfl) ?_
  refine lv_sipush (v := -999) hx hb dX3_readSite_42 (by decide) ?_
  refine lv_sipush (v := 999) hx hb dX3_readSite_45 (by decide) ?_
  replace hF := bd4_s hF
  obtain ⟨r_4, w_5, w_6, w_7, hc_8, hF⟩ := hF
  obtain ⟨hPc, hDc, hFc⟩ := wcut (wc := (w_X3_readNumber E a_ a_tape a_rules a_places a_steps a_tape_bytes c_siteCount c_stepCount c_seenRules c_at c_wordStart c_number c_failed c_tape_length c_tape_bytes)) hP hD hS hA [0, 1, 2] (by decide) rfl
  have hrc := va_recv hK hPc (ci := 4) (q0 := 0) rfl rfl
  refine cE_z (wc := (w_X3_readNumber E a_ a_tape a_rules a_places a_steps a_tape_bytes c_siteCount c_stepCount c_seenRules c_at c_wordStart c_number c_failed c_tape_length c_tape_bytes)) (wr := [(a_places, .inl (E.2.1, 16, .inl c_places))]) (w1 := (w_X3_readNumber E a_ a_tape a_rules a_places a_steps a_tape_bytes c_siteCount c_stepCount c_seenRules w_5 c_wordStart w_6 w_7 c_tape_length c_tape_bytes)) (va_runV (As := [.int (-999 : Int32), .int (999 : Int32)]) (rest := [])  ⟨hx, hb, hml, hown, hts⟩ (f_X3_readNumber l E H.size K (a_ := a_) (a_tape := a_tape) (a_rules := a_rules) (a_places := a_places) (a_steps := a_steps) (a_tape_bytes := a_tape_bytes) (p1 := (-999 : Int32)) (p2 := (999 : Int32)) (c_siteCount := c_siteCount) (c_stepCount := c_stepCount) (c_seenRules := c_seenRules) (c_at := c_at) (c_wordStart := c_wordStart) (c_number := c_number) (c_failed := c_failed) (c_tape_length := c_tape_length) (c_tape_bytes := c_tape_bytes) hc_8) (cwV 2 hts g_f_X3_readSite_f_X3_readNumber_96 rfl rfl rfl hd_X3_readNumber ⟨Nat.le_of_ble_eq_true rfl, Nat.le_of_ble_eq_true rfl⟩) ⟨pW.blind, hrc, (pW.pre ⟨hK, hN⟩ hPc hDc)⟩ rfl rfl hl.1 rfl (lv_room (Nat.le_of_ble_eq_true rfl)) dX3_readSite_48 ⟨Nat.le_of_ble_eq_true rfl, Nat.le_of_ble_eq_true rfl⟩) hS hFc hP hD [0, 1, 2] [3] rfl rfl (by decide) (by decide) (fun hb_9 H locs hP hD hS => ?_)
  replace hP : va_P E.1 vwCl [(a_places, .inl (E.2.1, 16, .inl c_places)), (a_, .inr (4, [.ref a_tape, .ref a_rules, .ref a_places, .ref a_steps, .int c_siteCount, .int c_stepCount, .int c_seenRules, .int w_5, .int c_wordStart, .int w_6, .int w_7])), (a_tape, .inr (7, [.ref a_tape_bytes, .int c_tape_length])), (a_tape_bytes, .inl (E.2.2.1, 320, .inl c_tape_bytes))] H := hP
  replace hD : va_D A [(a_places, .inl (E.2.1, 16, .inl c_places)), (a_, .inr (4, [.ref a_tape, .ref a_rules, .ref a_places, .ref a_steps, .int c_siteCount, .int c_stepCount, .int c_seenRules, .int w_5, .int c_wordStart, .int w_6, .int w_7])), (a_tape, .inr (7, [.ref a_tape_bytes, .int c_tape_length])), (a_tape_bytes, .inl (E.2.2.1, 320, .inl c_tape_bytes))] := hD
  refine lv_if_ne (tgt := 56) hx hb dX3_readSite_51 (by decide) (fun c_10 => ?_) (fun c_10 => ?_)
  ·
    replace hF := inn c_10 hF
    refine lv_aload_n hx hb dX3_readSite_56 rfl (lv_at hl 0 rfl) ?_
    refine gt_X3_2 (v := .ref a_places) hx hb hts i_f_X3_readSite_X3 hown hK hP 1 rfl (hts (.fieldLink RX3 15 "HushWatch$Reader" "places" "[I") (List.mem_of_getElem? (i := 2) rfl)) rfl dX3_readSite_57 ?_
    refine lv_iconst (v := 2) hx hb dX3_readSite_60 (by decide) ?_
    refine lv_aload_n hx hb dX3_readSite_61 rfl (lv_at hl 0 rfl) ?_
    refine gt_X3_4 (v := .int c_siteCount) hx hb hts i_f_X3_readSite_X3 hown hK hP 1 rfl (hts (.fieldLink RX3 21 "HushWatch$Reader" "siteCount" "I") (List.mem_of_getElem? (i := 1) rfl)) rfl dX3_readSite_62 ?_
    refine lv_imul hx hb dX3_readSite_65 ?_
    refine lv_iload_n hx hb dX3_readSite_66 rfl (lv_at hl 1 rfl) ?_
    refine lv_iadd hx hb dX3_readSite_67 ?_
    refine lv_aload_n hx hb dX3_readSite_68 rfl (lv_at hl 0 rfl) ?_
    refine gt_X3_9 (v := .int w_6) hx hb hts i_f_X3_readSite_X3 hown hK hP 1 rfl (hts (.fieldLink RX3 37 "HushWatch$Reader" "number" "I") (List.mem_of_getElem? (i := 3) rfl)) rfl dX3_readSite_69 ?_
    replace hF := ix_s hF
    obtain ⟨hi_11, hF⟩ := hF
    refine va_iast hx hb hK hP hD hS 0 0 rfl rfl hi_11 dX3_readSite_72 (fun H locs hP hD hS => ?_)
    replace hP : va_P E.1 vwCl [(a_places, .inl (E.2.1, 16, .inl (upd c_places (((2 : Int32) * c_siteCount) + x1).toNatClampNeg w_6))), (a_, .inr (4, [.ref a_tape, .ref a_rules, .ref a_places, .ref a_steps, .int c_siteCount, .int c_stepCount, .int c_seenRules, .int w_5, .int c_wordStart, .int w_6, .int w_7])), (a_tape, .inr (7, [.ref a_tape_bytes, .int c_tape_length])), (a_tape_bytes, .inl (E.2.2.1, 320, .inl c_tape_bytes))] H := hP
    replace hD : va_D A [(a_places, .inl (E.2.1, 16, .inl (upd c_places (((2 : Int32) * c_siteCount) + x1).toNatClampNeg w_6))), (a_, .inr (4, [.ref a_tape, .ref a_rules, .ref a_places, .ref a_steps, .int c_siteCount, .int c_stepCount, .int c_seenRules, .int w_5, .int c_wordStart, .int w_6, .int w_7])), (a_tape, .inr (7, [.ref a_tape_bytes, .int c_tape_length])), (a_tape_bytes, .inl (E.2.2.1, 320, .inl c_tape_bytes))] := hD
    replace hF := nm_s hF
    obtain ⟨f_12, hf_12, hF⟩ := hF
    rw [← hf_12] at hP hD
    refine lv_iinc (v := x1 + (1 : Int32)) (lv' := [(1, .int (x1 + (1 : Int32))), (0, .ref a_)]) hx hb dX3_readSite_73 hl (k := 1) rfl (rfl) (by decide) rfl (fun ls hl => ?_)
    refine lv_goto (tgt := 20) hx hb dX3_readSite_76 (by decide) ?_
    cases hF
    exact hC (x1 + (1 : Int32)) f_12 w_5 w_6 w_7 rfl H locs ls (hP.sub [1, 2, 3, 0] rfl) (hD.sub [1, 2, 3, 0] (by decide) rfl) hS (lv_sub hl [1, 0] rfl)
  ·
    replace hF := ip c_10 hF
    cases hF
    exact (hE 1 c_places w_5 w_6 w_7 rfl).2.1 rfl H locs ls (hP.sub [1, 2, 3, 0] rfl) (hD.sub [1, 2, 3, 0] (by decide) rfl) hS (lv_sub hl [] rfl)

set_option maxHeartbeats 4000000 in
set_option maxRecDepth 100000 in
theorem wb_X3_readSite_20 {p : Program} (l : Launch) {e : Env} {s : State} {m : MethodId} {below : List Frame} {meth : Method} {c : Code} {Q : State → Prop} (E : EE) (K : Nat) {a_ a_tape a_rules a_places a_steps a_tape_bytes : Nat} {c_stepCount : Int32} {c_seenRules : Int32} {c_wordStart : Int32} {c_tape_length : Int32} {c_tape_bytes : Nat → Int32} {x1 : Int32} {c_places : Nat → Int32} {c_siteCount : Int32} {c_at : Int32} {c_number : Int32} {c_failed : Int32} (hx : p.tables.exec = Jvm.exec) (hb : c.code = cX3_readSite) (hml : c.maxLocals = 2) (hown : s.vm.findClass RX3 = some m.cls) (hts : ∀ w ∈ v_f_X3_readSite, w.before #[Value.ref a_] s = true) (hK : va_K E.1 vwCl (TY E) s) (hN : NX s) {A : Nat → Prop} (hA : ∀ q : Nat, s.heap.size ≤ q → A q) {xx : (Int32 × (Nat → Int32) × Int32 × Int32 × Int32) ⊕ (Nat × (Nat → Int32) × Int32 × Int32 × Int32)} (hC : ∀ (x1 : Int32), ∀ (c_places : Nat → Int32), ∀ (c_at : Int32), ∀ (c_number : Int32), ∀ (c_failed : Int32), xx = .inl (x1, c_places, c_at, c_number, c_failed) → ∀ (H : Heap) (locs : List Loc) (ls : Array Slot), va_P E.1 vwCl (w_X3_readSite E a_ a_tape a_rules a_places a_steps a_tape_bytes c_siteCount c_stepCount c_seenRules c_at c_wordStart c_number c_failed c_tape_length c_tape_bytes c_places) H → va_D A (w_X3_readSite E a_ a_tape a_rules a_places a_steps a_tape_bytes c_siteCount c_stepCount c_seenRules c_at c_wordStart c_number c_failed c_tape_length c_tape_bytes c_places) → va_S A s.heap H locs → lv_has ls 2 [(0, .ref a_), (1, .int x1)] → W p l e ({ frames := 3, cells := 0, slots := 0, locals := 68 } : Room) s m #[Value.ref a_] below meth c H locs 0 0 Q (F0 m 20 ls [])) (hE : ∀ (t9 : Nat), ∀ (c_places : Nat → Int32), ∀ (c_at : Int32), ∀ (c_number : Int32), ∀ (c_failed : Int32), xx = .inr (t9, c_places, c_at, c_number, c_failed) → ((t9 = 0 → ∀ (H : Heap) (locs : List Loc) (ls : Array Slot), va_P E.1 vwCl (w_X3_readSite E a_ a_tape a_rules a_places a_steps a_tape_bytes c_siteCount c_stepCount c_seenRules c_at c_wordStart c_number c_failed c_tape_length c_tape_bytes c_places) H → va_D A (w_X3_readSite E a_ a_tape a_rules a_places a_steps a_tape_bytes c_siteCount c_stepCount c_seenRules c_at c_wordStart c_number c_failed c_tape_length c_tape_bytes c_places) → va_S A s.heap H locs → lv_has ls 2 [] → W p l e ({ frames := 3, cells := 0, slots := 0, locals := 68 } : Room) s m #[Value.ref a_] below meth c H locs 0 0 Q (F0 m 39 ls [])) ∧ (t9 = 1 → ∀ (H : Heap) (locs : List Loc) (ls : Array Slot), va_P E.1 vwCl (w_X3_readSite E a_ a_tape a_rules a_places a_steps a_tape_bytes c_siteCount c_stepCount c_seenRules c_at c_wordStart c_number c_failed c_tape_length c_tape_bytes c_places) H → va_D A (w_X3_readSite E a_ a_tape a_rules a_places a_steps a_tape_bytes c_siteCount c_stepCount c_seenRules c_at c_wordStart c_number c_failed c_tape_length c_tape_bytes c_places) → va_S A s.heap H locs → lv_has ls 2 [] → W p l e ({ frames := 3, cells := 0, slots := 0, locals := 68 } : Room) s m #[Value.ref a_] below meth c H locs 0 0 Q (F0 m 54 ls [])) ∧ (t9 = 2 → ∀ (H : Heap) (locs : List Loc) (ls : Array Slot), va_P E.1 vwCl (w_X3_readSite E a_ a_tape a_rules a_places a_steps a_tape_bytes c_siteCount c_stepCount c_seenRules c_at c_wordStart c_number c_failed c_tape_length c_tape_bytes c_places) H → va_D A (w_X3_readSite E a_ a_tape a_rules a_places a_steps a_tape_bytes c_siteCount c_stepCount c_seenRules c_at c_wordStart c_number c_failed c_tape_length c_tape_bytes c_places) → va_S A s.heap H locs → lv_has ls 2 [(0, .ref a_)] → W p l e ({ frames := 3, cells := 0, slots := 0, locals := 68 } : Room) s m #[Value.ref a_] below meth c H locs 0 0 Q (F0 m 79 ls [])))) (hF : B_X3_readSite_20 K c_tape_length c_tape_bytes c_siteCount x1 c_places c_at c_number c_failed = some xx) : ∀ (H : Heap) (locs : List Loc) (ls : Array Slot), va_P E.1 vwCl (w_X3_readSite E a_ a_tape a_rules a_places a_steps a_tape_bytes c_siteCount c_stepCount c_seenRules c_at c_wordStart c_number c_failed c_tape_length c_tape_bytes c_places) H → va_D A (w_X3_readSite E a_ a_tape a_rules a_places a_steps a_tape_bytes c_siteCount c_stepCount c_seenRules c_at c_wordStart c_number c_failed c_tape_length c_tape_bytes c_places) → va_S A s.heap H locs → lv_has ls 2 [(0, .ref a_), (1, .int x1)] → W p l e ({ frames := 3, cells := 0, slots := 0, locals := 68 } : Room) s m #[Value.ref a_] below meth c H locs 0 0 Q (F0 m 20 ls []) := by
  unfold B_X3_readSite_20 at hF
  intro H locs ls hP hD hS hl
  replace hP : va_P E.1 vwCl [(a_, .inr (4, [.ref a_tape, .ref a_rules, .ref a_places, .ref a_steps, .int c_siteCount, .int c_stepCount, .int c_seenRules, .int c_at, .int c_wordStart, .int c_number, .int c_failed])), (a_tape, .inr (7, [.ref a_tape_bytes, .int c_tape_length])), (a_tape_bytes, .inl (E.2.2.1, 320, .inl c_tape_bytes)), (a_places, .inl (E.2.1, 16, .inl c_places))] H := hP
  replace hD : va_D A [(a_, .inr (4, [.ref a_tape, .ref a_rules, .ref a_places, .ref a_steps, .int c_siteCount, .int c_stepCount, .int c_seenRules, .int c_at, .int c_wordStart, .int c_number, .int c_failed])), (a_tape, .inr (7, [.ref a_tape_bytes, .int c_tape_length])), (a_tape_bytes, .inl (E.2.2.1, 320, .inl c_tape_bytes)), (a_places, .inl (E.2.1, 16, .inl c_places))] := hD
  refine lv_iload_n hx hb dX3_readSite_20 rfl (lv_at hl 1 rfl) ?_
  refine lv_iconst (v := 2) hx hb dX3_readSite_21 (by decide) ?_
  refine lv_icmp_ge (tgt := 79) hx hb dX3_readSite_22 (by decide) (fun c_2 => ?_) (fun c_2 => ?_)
  ·
    replace hF := ip c_2 hF
    cases hF
    exact (hE 2 c_places c_at c_number c_failed rfl).2.2 rfl H locs ls (hP.sub [0, 1, 2, 3] rfl) (hD.sub [0, 1, 2, 3] (by decide) rfl) hS (lv_sub hl [0] rfl)
  ·
    replace hF := inn c_2 hF
    refine lv_iload_n hx hb dX3_readSite_25 rfl (lv_at hl 1 rfl) ?_
    refine lv_iconst (v := 1) hx hb dX3_readSite_26 (by decide) ?_
    refine lv_icmp_ne (tgt := 41) hx hb dX3_readSite_27 (by decide) (fun c_3 => ?_) (fun c_3 => ?_)
    ·
      replace hF := inn c_3 hF
      exact j_X3_readSite_41_r21 l E K (c_stepCount := c_stepCount) (c_seenRules := c_seenRules) (c_wordStart := c_wordStart) (c_tape_length := c_tape_length) (c_tape_bytes := c_tape_bytes) (x1 := x1) (c_places := c_places) (c_siteCount := c_siteCount) (c_at := c_at) (c_number := c_number) (c_failed := c_failed) hx hb hml hown hts hK hN hA hC hE hF H locs ls (hP.sub [0, 1, 2, 3] rfl) (hD.sub [0, 1, 2, 3] (by decide) rfl) hS (lv_sub hl [0, 1] rfl)
    ·
      replace hF := ip c_3 hF
      refine lv_aload_n hx hb dX3_readSite_30 rfl (lv_at hl 0 rfl) ?_
      refine lv_bipush (v := 44) hx hb dX3_readSite_31 (by decide) ?_
      replace hF := bd3_s hF
      obtain ⟨r_13, w_14, w_15, hc_16, hF⟩ := hF
      obtain ⟨hPc, hDc, hFc⟩ := wcut (wc := (w_X3_readSign E a_ a_tape a_rules a_places a_steps a_tape_bytes c_siteCount c_stepCount c_seenRules c_at c_wordStart c_number c_failed c_tape_length c_tape_bytes)) hP hD hS hA [0, 1, 2] (by decide) rfl
      have hrc := va_recv hK hPc (ci := 4) (q0 := 0) rfl rfl
      refine cE_z (wc := (w_X3_readSign E a_ a_tape a_rules a_places a_steps a_tape_bytes c_siteCount c_stepCount c_seenRules c_at c_wordStart c_number c_failed c_tape_length c_tape_bytes)) (wr := [(a_places, .inl (E.2.1, 16, .inl c_places))]) (w1 := (w_X3_readSign E a_ a_tape a_rules a_places a_steps a_tape_bytes c_siteCount c_stepCount c_seenRules w_14 c_wordStart c_number w_15 c_tape_length c_tape_bytes)) (va_runV (As := [.int (44 : Int32)]) (rest := [])  ⟨hx, hb, hml, hown, hts⟩ (f_X3_readSign l E H.size K (a_ := a_) (a_tape := a_tape) (a_rules := a_rules) (a_places := a_places) (a_steps := a_steps) (a_tape_bytes := a_tape_bytes) (p1 := (44 : Int32)) (c_siteCount := c_siteCount) (c_stepCount := c_stepCount) (c_seenRules := c_seenRules) (c_at := c_at) (c_wordStart := c_wordStart) (c_number := c_number) (c_failed := c_failed) (c_tape_length := c_tape_length) (c_tape_bytes := c_tape_bytes) hc_16) (cwV 1 hts g_f_X3_readSite_f_X3_readSign_62 rfl rfl rfl hd_X3_readSign ⟨Nat.le_of_ble_eq_true rfl, Nat.le_of_ble_eq_true rfl⟩) ⟨pW.blind, hrc, (pW.pre ⟨hK, hN⟩ hPc hDc)⟩ rfl rfl hl.1 rfl (lv_room (Nat.le_of_ble_eq_true rfl)) dX3_readSite_33 ⟨Nat.le_of_ble_eq_true rfl, Nat.le_of_ble_eq_true rfl⟩) hS hFc hP hD [0, 1, 2] [3] rfl rfl (by decide) (by decide) (fun hb_17 H locs hP hD hS => ?_)
      replace hP : va_P E.1 vwCl [(a_places, .inl (E.2.1, 16, .inl c_places)), (a_, .inr (4, [.ref a_tape, .ref a_rules, .ref a_places, .ref a_steps, .int c_siteCount, .int c_stepCount, .int c_seenRules, .int w_14, .int c_wordStart, .int c_number, .int w_15])), (a_tape, .inr (7, [.ref a_tape_bytes, .int c_tape_length])), (a_tape_bytes, .inl (E.2.2.1, 320, .inl c_tape_bytes))] H := hP
      replace hD : va_D A [(a_places, .inl (E.2.1, 16, .inl c_places)), (a_, .inr (4, [.ref a_tape, .ref a_rules, .ref a_places, .ref a_steps, .int c_siteCount, .int c_stepCount, .int c_seenRules, .int w_14, .int c_wordStart, .int c_number, .int w_15])), (a_tape, .inr (7, [.ref a_tape_bytes, .int c_tape_length])), (a_tape_bytes, .inl (E.2.2.1, 320, .inl c_tape_bytes))] := hD
      refine lv_if_ne (tgt := 41) hx hb dX3_readSite_36 (by decide) (fun c_18 => ?_) (fun c_18 => ?_)
      ·
        replace hF := inn c_18 hF
        exact j_X3_readSite_41_r21 l E K (c_stepCount := c_stepCount) (c_seenRules := c_seenRules) (c_wordStart := c_wordStart) (c_tape_length := c_tape_length) (c_tape_bytes := c_tape_bytes) (x1 := x1) (c_places := c_places) (c_siteCount := c_siteCount) (c_at := w_14) (c_number := c_number) (c_failed := w_15) hx hb hml hown hts hK hN hA hC hE hF H locs ls (hP.sub [1, 2, 3, 0] rfl) (hD.sub [1, 2, 3, 0] (by decide) rfl) hS (lv_sub hl [0, 1] rfl)
      ·
        replace hF := ip c_18 hF
        cases hF
        exact (hE 0 c_places w_14 c_number w_15 rfl).1 rfl H locs ls (hP.sub [1, 2, 3, 0] rfl) (hD.sub [1, 2, 3, 0] (by decide) rfl) hS (lv_sub hl [] rfl)

set_option maxHeartbeats 4000000 in
set_option maxRecDepth 100000 in
theorem lw_X3_readSite_20 {p : Program} (l : Launch) {e : Env} {s : State} {m : MethodId} {below : List Frame} {meth : Method} {c : Code} {Q : State → Prop} (E : EE) (K : Nat) {a_ a_tape a_rules a_places a_steps a_tape_bytes : Nat} {c_stepCount : Int32} {c_seenRules : Int32} {c_wordStart : Int32} {c_tape_length : Int32} {c_tape_bytes : Nat → Int32} {c_siteCount : Int32} (hx : p.tables.exec = Jvm.exec) (hb : c.code = cX3_readSite) (hml : c.maxLocals = 2) (hown : s.vm.findClass RX3 = some m.cls) (hts : ∀ w ∈ v_f_X3_readSite, w.before #[Value.ref a_] s = true) (hK : va_K E.1 vwCl (TY E) s) (hN : NX s) {A : Nat → Prop} (hA : ∀ q : Nat, s.heap.size ≤ q → A q) (j9 : Nat) (x1 : Int32) (c_places : Nat → Int32) (c_at : Int32) (c_number : Int32) (c_failed : Int32) (t9' : Nat) (c_places' : Nat → Int32) (c_at' : Int32) (c_number' : Int32) (c_failed' : Int32) (hL : lpF (fun u9 : Int32 × (Nat → Int32) × Int32 × Int32 × Int32 => B_X3_readSite_20 K c_tape_length c_tape_bytes c_siteCount u9.1 u9.2.1 u9.2.2.1 u9.2.2.2.1 u9.2.2.2.2) j9 (x1, c_places, c_at, c_number, c_failed) = some (t9', c_places', c_at', c_number', c_failed')) (hX : (t9' = 0 → ∀ (H : Heap) (locs : List Loc) (ls : Array Slot), va_P E.1 vwCl (w_X3_readSite E a_ a_tape a_rules a_places a_steps a_tape_bytes c_siteCount c_stepCount c_seenRules c_at' c_wordStart c_number' c_failed' c_tape_length c_tape_bytes c_places') H → va_D A (w_X3_readSite E a_ a_tape a_rules a_places a_steps a_tape_bytes c_siteCount c_stepCount c_seenRules c_at' c_wordStart c_number' c_failed' c_tape_length c_tape_bytes c_places') → va_S A s.heap H locs → lv_has ls 2 [] → W p l e ({ frames := 3, cells := 0, slots := 0, locals := 68 } : Room) s m #[Value.ref a_] below meth c H locs 0 0 Q (F0 m 39 ls [])) ∧ (t9' = 1 → ∀ (H : Heap) (locs : List Loc) (ls : Array Slot), va_P E.1 vwCl (w_X3_readSite E a_ a_tape a_rules a_places a_steps a_tape_bytes c_siteCount c_stepCount c_seenRules c_at' c_wordStart c_number' c_failed' c_tape_length c_tape_bytes c_places') H → va_D A (w_X3_readSite E a_ a_tape a_rules a_places a_steps a_tape_bytes c_siteCount c_stepCount c_seenRules c_at' c_wordStart c_number' c_failed' c_tape_length c_tape_bytes c_places') → va_S A s.heap H locs → lv_has ls 2 [] → W p l e ({ frames := 3, cells := 0, slots := 0, locals := 68 } : Room) s m #[Value.ref a_] below meth c H locs 0 0 Q (F0 m 54 ls [])) ∧ (t9' = 2 → ∀ (H : Heap) (locs : List Loc) (ls : Array Slot), va_P E.1 vwCl (w_X3_readSite E a_ a_tape a_rules a_places a_steps a_tape_bytes c_siteCount c_stepCount c_seenRules c_at' c_wordStart c_number' c_failed' c_tape_length c_tape_bytes c_places') H → va_D A (w_X3_readSite E a_ a_tape a_rules a_places a_steps a_tape_bytes c_siteCount c_stepCount c_seenRules c_at' c_wordStart c_number' c_failed' c_tape_length c_tape_bytes c_places') → va_S A s.heap H locs → lv_has ls 2 [(0, .ref a_)] → W p l e ({ frames := 3, cells := 0, slots := 0, locals := 68 } : Room) s m #[Value.ref a_] below meth c H locs 0 0 Q (F0 m 79 ls []))) : ∀ (H : Heap) (locs : List Loc) (ls : Array Slot), va_P E.1 vwCl (w_X3_readSite E a_ a_tape a_rules a_places a_steps a_tape_bytes c_siteCount c_stepCount c_seenRules c_at c_wordStart c_number c_failed c_tape_length c_tape_bytes c_places) H → va_D A (w_X3_readSite E a_ a_tape a_rules a_places a_steps a_tape_bytes c_siteCount c_stepCount c_seenRules c_at c_wordStart c_number c_failed c_tape_length c_tape_bytes c_places) → va_S A s.heap H locs → lv_has ls 2 [(0, .ref a_), (1, .int x1)] → W p l e ({ frames := 3, cells := 0, slots := 0, locals := 68 } : Room) s m #[Value.ref a_] below meth c H locs 0 0 Q (F0 m 20 ls []) := by
  exact lp_rule (P := (fun u9 : Int32 × (Nat → Int32) × Int32 × Int32 × Int32 => ∀ (H : Heap) (locs : List Loc) (ls : Array Slot), va_P E.1 vwCl (w_X3_readSite E a_ a_tape a_rules a_places a_steps a_tape_bytes c_siteCount c_stepCount c_seenRules u9.2.2.1 c_wordStart u9.2.2.2.1 u9.2.2.2.2 c_tape_length c_tape_bytes u9.2.1) H → va_D A (w_X3_readSite E a_ a_tape a_rules a_places a_steps a_tape_bytes c_siteCount c_stepCount c_seenRules u9.2.2.1 c_wordStart u9.2.2.2.1 u9.2.2.2.2 c_tape_length c_tape_bytes u9.2.1) → va_S A s.heap H locs → lv_has ls 2 [(0, .ref a_), (1, .int u9.1)] → W p l e ({ frames := 3, cells := 0, slots := 0, locals := 68 } : Room) s m #[Value.ref a_] below meth c H locs 0 0 Q (F0 m 20 ls []))) (R := (fun r9 : Nat × (Nat → Int32) × Int32 × Int32 × Int32 => (r9.1 = 0 → ∀ (H : Heap) (locs : List Loc) (ls : Array Slot), va_P E.1 vwCl (w_X3_readSite E a_ a_tape a_rules a_places a_steps a_tape_bytes c_siteCount c_stepCount c_seenRules r9.2.2.1 c_wordStart r9.2.2.2.1 r9.2.2.2.2 c_tape_length c_tape_bytes r9.2.1) H → va_D A (w_X3_readSite E a_ a_tape a_rules a_places a_steps a_tape_bytes c_siteCount c_stepCount c_seenRules r9.2.2.1 c_wordStart r9.2.2.2.1 r9.2.2.2.2 c_tape_length c_tape_bytes r9.2.1) → va_S A s.heap H locs → lv_has ls 2 [] → W p l e ({ frames := 3, cells := 0, slots := 0, locals := 68 } : Room) s m #[Value.ref a_] below meth c H locs 0 0 Q (F0 m 39 ls [])) ∧ (r9.1 = 1 → ∀ (H : Heap) (locs : List Loc) (ls : Array Slot), va_P E.1 vwCl (w_X3_readSite E a_ a_tape a_rules a_places a_steps a_tape_bytes c_siteCount c_stepCount c_seenRules r9.2.2.1 c_wordStart r9.2.2.2.1 r9.2.2.2.2 c_tape_length c_tape_bytes r9.2.1) H → va_D A (w_X3_readSite E a_ a_tape a_rules a_places a_steps a_tape_bytes c_siteCount c_stepCount c_seenRules r9.2.2.1 c_wordStart r9.2.2.2.1 r9.2.2.2.2 c_tape_length c_tape_bytes r9.2.1) → va_S A s.heap H locs → lv_has ls 2 [] → W p l e ({ frames := 3, cells := 0, slots := 0, locals := 68 } : Room) s m #[Value.ref a_] below meth c H locs 0 0 Q (F0 m 54 ls [])) ∧ (r9.1 = 2 → ∀ (H : Heap) (locs : List Loc) (ls : Array Slot), va_P E.1 vwCl (w_X3_readSite E a_ a_tape a_rules a_places a_steps a_tape_bytes c_siteCount c_stepCount c_seenRules r9.2.2.1 c_wordStart r9.2.2.2.1 r9.2.2.2.2 c_tape_length c_tape_bytes r9.2.1) H → va_D A (w_X3_readSite E a_ a_tape a_rules a_places a_steps a_tape_bytes c_siteCount c_stepCount c_seenRules r9.2.2.1 c_wordStart r9.2.2.2.1 r9.2.2.2.2 c_tape_length c_tape_bytes r9.2.1) → va_S A s.heap H locs → lv_has ls 2 [(0, .ref a_)] → W p l e ({ frames := 3, cells := 0, slots := 0, locals := 68 } : Room) s m #[Value.ref a_] below meth c H locs 0 0 Q (F0 m 79 ls [])))) (fun u9 xx hF hC hE => wb_X3_readSite_20 l E K (c_stepCount := c_stepCount) (c_seenRules := c_seenRules) (c_wordStart := c_wordStart) (c_tape_length := c_tape_length) (c_tape_bytes := c_tape_bytes) (x1 := u9.1) (c_places := u9.2.1) (c_siteCount := c_siteCount) (c_at := u9.2.2.1) (c_number := u9.2.2.2.1) (c_failed := u9.2.2.2.2) hx hb hml hown hts hK hN hA (fun x1 c_places c_at c_number c_failed q9 => hC _ q9) (fun t9 c_places c_at c_number c_failed q9 => hE _ q9) hF) j9 (x1, c_places, c_at, c_number, c_failed) (t9', c_places', c_at', c_number', c_failed') hL hX

set_option maxHeartbeats 4000000 in
set_option maxRecDepth 100000 in
theorem f_X3_readSite (l : Launch) (E : EE) (sz : Nat) (K : Nat) {a_ a_tape a_rules a_places a_steps a_tape_bytes : Nat} {c_siteCount : Int32} {c_stepCount : Int32} {c_seenRules : Int32} {c_at : Int32} {c_wordStart : Int32} {c_number : Int32} {c_failed : Int32} {c_tape_length : Int32} {c_tape_bytes : Nat → Int32} {c_places : Nat → Int32} {rr : Int32} {n_places : Nat → Int32} {n_siteCount : Int32} {n_at : Int32} {n_number : Int32} {n_failed : Int32} (hF : F_X3_readSite K c_tape_bytes c_tape_length c_places c_siteCount c_at c_wordStart c_number c_failed = some (rr, n_places, n_siteCount, n_at, n_number, n_failed)) : Met l yX3_readSite v_f_X3_readSite (({ frames := 3, cells := 0, slots := 0, locals := 68 } : Room)) (va_Pc [.ref a_] (pW E sz (w_X3_readSite E a_ a_tape a_rules a_places a_steps a_tape_bytes c_siteCount c_stepCount c_seenRules c_at c_wordStart c_number c_failed c_tape_length c_tape_bytes c_places))) (va_Qi (fun (q : Int32) (_u : Unit) => q = rr ∧ (q = 0 ∨ q = 1)) (fun (_u : Unit) tt => va_P E.1 vwCl (w_X3_readSite E a_ a_tape a_rules a_places a_steps a_tape_bytes n_siteCount c_stepCount c_seenRules n_at c_wordStart n_number n_failed c_tape_length c_tape_bytes n_places) tt.heap ∧ va_D (va_A (w_X3_readSite E a_ a_tape a_rules a_places a_steps a_tape_bytes c_siteCount c_stepCount c_seenRules c_at c_wordStart c_number c_failed c_tape_length c_tape_bytes c_places) sz) (w_X3_readSite E a_ a_tape a_rules a_places a_steps a_tape_bytes n_siteCount c_stepCount c_seenRules n_at c_wordStart n_number n_failed c_tape_length c_tape_bytes n_places)) (va_A (w_X3_readSite E a_ a_tape a_rules a_places a_steps a_tape_bytes c_siteCount c_stepCount c_seenRules c_at c_wordStart c_number c_failed c_tape_length c_tape_bytes c_places) sz)) 0 0 (va_A (w_X3_readSite E a_ a_tape a_rules a_places a_steps a_tape_bytes c_siteCount c_stepCount c_seenRules c_at c_wordStart c_number c_failed c_tape_length c_tape_bytes c_places) sz) := by
  refine Met.ofW (cc := cX3_readSite) (maxL := 2) (ret := (some .boolean)) (by decide) rfl ?_
  intro p e s m args below meth c s₁ B hml hv
  obtain ⟨rfl, hsz, ⟨hK, hN⟩, hP, hD0⟩ := hv
  have hx := B.exec
  have hb := B.bytes
  have hr := B.returns
  have hts := atoms_spec (ws := v_f_X3_readSite) B.pre
  have hown : s.vm.findClass RX3 = some m.cls := own_of hd_X3_readSite.1 (findClass_of_methodNamed B.named)
  have hlocks : meth.locks = false := B.notSynchronized
  subst hsz
  have hD := hD0.self (sz := s.heap.size)
  generalize hAe : va_A (w_X3_readSite E a_ a_tape a_rules a_places a_steps a_tape_bytes c_siteCount c_stepCount c_seenRules c_at c_wordStart c_number c_failed c_tape_length c_tape_bytes c_places) s.heap.size = A at hD ⊢
  have hA : ∀ q : Nat, s.heap.size ≤ q → A q := fun q h => by rw [← hAe]; exact Or.inr h
  have hS : va_S A s.heap s.heap [] := va_S.rf
  have hl := lv_entry ([.ref a_]) (n := 2) (Nat.le_of_ble_eq_true rfl)
  rw [lg_entry_eq]
  generalize (lg_sl ([.ref a_]) ++ List.replicate (2 - (lg_sl ([.ref a_])).length) Slot.unset).toArray = ls at hl ⊢
  have hl : lv_has ls 2 [(0, .ref a_)] := hl
  obtain ⟨Q, hQ⟩ : ∃ Q : State → Prop, Q = MQ below (va_Qi (fun (q : Int32) (_u : Unit) => q = rr ∧ (q = 0 ∨ q = 1)) (fun (_u : Unit) tt => va_P E.1 vwCl (w_X3_readSite E a_ a_tape a_rules a_places a_steps a_tape_bytes n_siteCount c_stepCount c_seenRules n_at c_wordStart n_number n_failed c_tape_length c_tape_bytes n_places) tt.heap ∧ va_D A (w_X3_readSite E a_ a_tape a_rules a_places a_steps a_tape_bytes n_siteCount c_stepCount c_seenRules n_at c_wordStart n_number n_failed c_tape_length c_tape_bytes n_places)) A) #[Value.ref a_] s 0 0 A := ⟨_, rfl⟩
  rw [← hQ]
  change W p l e ({ frames := 3, cells := 0, slots := 0, locals := 68 } : Room) s m #[Value.ref a_] below meth c s.heap [] 0 0 Q (F0 m 0 ls [])
  suffices hh9 : ∀ (H : Heap) (locs : List Loc), va_P E.1 vwCl (w_X3_readSite E a_ a_tape a_rules a_places a_steps a_tape_bytes c_siteCount c_stepCount c_seenRules c_at c_wordStart c_number c_failed c_tape_length c_tape_bytes c_places) H → va_D A (w_X3_readSite E a_ a_tape a_rules a_places a_steps a_tape_bytes c_siteCount c_stepCount c_seenRules c_at c_wordStart c_number c_failed c_tape_length c_tape_bytes c_places) → va_S A s.heap H locs → W p l e ({ frames := 3, cells := 0, slots := 0, locals := 68 } : Room) s m #[Value.ref a_] below meth c H locs 0 0 Q (F0 m 0 ls []) from hh9 s.heap [] hP hD hS
  clear hP hD hS
  intro H locs hP hD hS
  replace hP : va_P E.1 vwCl [(a_, .inr (4, [.ref a_tape, .ref a_rules, .ref a_places, .ref a_steps, .int c_siteCount, .int c_stepCount, .int c_seenRules, .int c_at, .int c_wordStart, .int c_number, .int c_failed])), (a_tape, .inr (7, [.ref a_tape_bytes, .int c_tape_length])), (a_tape_bytes, .inl (E.2.2.1, 320, .inl c_tape_bytes)), (a_places, .inl (E.2.1, 16, .inl c_places))] H := hP
  replace hD : va_D A [(a_, .inr (4, [.ref a_tape, .ref a_rules, .ref a_places, .ref a_steps, .int c_siteCount, .int c_stepCount, .int c_seenRules, .int c_at, .int c_wordStart, .int c_number, .int c_failed])), (a_tape, .inr (7, [.ref a_tape_bytes, .int c_tape_length])), (a_tape_bytes, .inl (E.2.2.1, 320, .inl c_tape_bytes)), (a_places, .inl (E.2.1, 16, .inl c_places))] := hD
  unfold F_X3_readSite at hF
  refine lv_aload_n hx hb dX3_readSite_0 rfl (lv_at hl 0 rfl) ?_
  refine gt_X3_4 (v := .int c_siteCount) hx hb hts i_f_X3_readSite_X3 hown hK hP 0 rfl (hts (.fieldLink RX3 21 "HushWatch$Reader" "siteCount" "I") (List.mem_of_getElem? (i := 1) rfl)) rfl dX3_readSite_1 ?_
  refine lv_bipush (v := 8) hx hb dX3_readSite_4 (by decide) ?_
  refine lv_icmp_lt (tgt := 18) hx hb dX3_readSite_6 (by decide) (fun c_1 => ?_) (fun c_1 => ?_)
  ·
    replace hF := ip c_1 hF
    refine lv_iconst (v := 0) hx hb dX3_readSite_18 (by decide) ?_
    refine lv_istore_n (lv' := [(1, .int (0 : Int32)), (0, .ref a_)]) hx hb dX3_readSite_19 rfl hl (by decide) rfl (fun ls hl => ?_)
    replace hF := bd5_s hF
    obtain ⟨t_19, c_places_20, c_at_21, c_number_22, c_failed_23, hL_24, hF⟩ := hF
    refine lw_X3_readSite_20 l E K (c_stepCount := c_stepCount) (c_seenRules := c_seenRules) (c_wordStart := c_wordStart) (c_tape_length := c_tape_length) (c_tape_bytes := c_tape_bytes) (c_siteCount := c_siteCount) hx hb hml hown hts hK hN hA K (0 : Int32) c_places c_at c_number c_failed t_19 c_places_20 c_at_21 c_number_22 c_failed_23 hL_24 ⟨?_, ?_, ?_⟩ H locs ls (hP.sub [0, 1, 2, 3] rfl) (hD.sub [0, 1, 2, 3] (by decide) rfl) hS (lv_sub hl [1, 0] rfl)
    ·
      intro t9
      replace hF := ip t9 hF
      intro H locs ls hP hD hS hl
      replace hP : va_P E.1 vwCl [(a_, .inr (4, [.ref a_tape, .ref a_rules, .ref a_places, .ref a_steps, .int c_siteCount, .int c_stepCount, .int c_seenRules, .int c_at_21, .int c_wordStart, .int c_number_22, .int c_failed_23])), (a_tape, .inr (7, [.ref a_tape_bytes, .int c_tape_length])), (a_tape_bytes, .inl (E.2.2.1, 320, .inl c_tape_bytes)), (a_places, .inl (E.2.1, 16, .inl c_places_20))] H := hP
      replace hD : va_D A [(a_, .inr (4, [.ref a_tape, .ref a_rules, .ref a_places, .ref a_steps, .int c_siteCount, .int c_stepCount, .int c_seenRules, .int c_at_21, .int c_wordStart, .int c_number_22, .int c_failed_23])), (a_tape, .inr (7, [.ref a_tape_bytes, .int c_tape_length])), (a_tape_bytes, .inl (E.2.2.1, 320, .inl c_tape_bytes)), (a_places, .inl (E.2.1, 16, .inl c_places_20))] := hD
      refine lv_iconst (v := 0) hx hb dX3_readSite_39 (by decide) ?_
      rw [hQ]
      have h9 := fin9 (P := fun u9 : Int32 × (Nat → Int32) × Int32 × Int32 × Int32 × Int32 => (0 : Int32) = u9.1 ∧ va_P E.1 vwCl (w_X3_readSite E a_ a_tape a_rules a_places a_steps a_tape_bytes u9.2.2.1 c_stepCount c_seenRules u9.2.2.2.1 c_wordStart u9.2.2.2.2.1 u9.2.2.2.2.2 c_tape_length c_tape_bytes u9.2.1) H ∧ va_D A (w_X3_readSite E a_ a_tape a_rules a_places a_steps a_tape_bytes u9.2.2.1 c_stepCount c_seenRules u9.2.2.2.1 c_wordStart u9.2.2.2.2.1 u9.2.2.2.2.2 c_tape_length c_tape_bytes u9.2.1)) hF ⟨rfl, hP, hD⟩
      obtain ⟨e9_0, hP9, hD9⟩ := h9
      exact W.zret (v := (0 : Int32)) hx hb hr rfl (fun tt ht hW => ⟨⟨_, (), rfl, ⟨e9_0, Or.inl rfl⟩, ht ▸ hP9, hD9⟩, hS.F ht⟩) hS.2.2 dX3_readSite_40
    ·
      intro t9
      replace hF := inn (show ¬ t_19 = 0 by omega) hF
      replace hF := ip t9 hF
      intro H locs ls hP hD hS hl
      replace hP : va_P E.1 vwCl [(a_, .inr (4, [.ref a_tape, .ref a_rules, .ref a_places, .ref a_steps, .int c_siteCount, .int c_stepCount, .int c_seenRules, .int c_at_21, .int c_wordStart, .int c_number_22, .int c_failed_23])), (a_tape, .inr (7, [.ref a_tape_bytes, .int c_tape_length])), (a_tape_bytes, .inl (E.2.2.1, 320, .inl c_tape_bytes)), (a_places, .inl (E.2.1, 16, .inl c_places_20))] H := hP
      replace hD : va_D A [(a_, .inr (4, [.ref a_tape, .ref a_rules, .ref a_places, .ref a_steps, .int c_siteCount, .int c_stepCount, .int c_seenRules, .int c_at_21, .int c_wordStart, .int c_number_22, .int c_failed_23])), (a_tape, .inr (7, [.ref a_tape_bytes, .int c_tape_length])), (a_tape_bytes, .inl (E.2.2.1, 320, .inl c_tape_bytes)), (a_places, .inl (E.2.1, 16, .inl c_places_20))] := hD
      refine lv_iconst (v := 0) hx hb dX3_readSite_54 (by decide) ?_
      rw [hQ]
      have h9 := fin9 (P := fun u9 : Int32 × (Nat → Int32) × Int32 × Int32 × Int32 × Int32 => (0 : Int32) = u9.1 ∧ va_P E.1 vwCl (w_X3_readSite E a_ a_tape a_rules a_places a_steps a_tape_bytes u9.2.2.1 c_stepCount c_seenRules u9.2.2.2.1 c_wordStart u9.2.2.2.2.1 u9.2.2.2.2.2 c_tape_length c_tape_bytes u9.2.1) H ∧ va_D A (w_X3_readSite E a_ a_tape a_rules a_places a_steps a_tape_bytes u9.2.2.1 c_stepCount c_seenRules u9.2.2.2.1 c_wordStart u9.2.2.2.2.1 u9.2.2.2.2.2 c_tape_length c_tape_bytes u9.2.1)) hF ⟨rfl, hP, hD⟩
      obtain ⟨e9_0, hP9, hD9⟩ := h9
      exact W.zret (v := (0 : Int32)) hx hb hr rfl (fun tt ht hW => ⟨⟨_, (), rfl, ⟨e9_0, Or.inl rfl⟩, ht ▸ hP9, hD9⟩, hS.F ht⟩) hS.2.2 dX3_readSite_55
    ·
      intro t9
      replace hF := inn (show ¬ t_19 = 0 by omega) hF
      replace hF := inn (show ¬ t_19 = 1 by omega) hF
      replace hF := ip t9 hF
      intro H locs ls hP hD hS hl
      replace hP : va_P E.1 vwCl [(a_, .inr (4, [.ref a_tape, .ref a_rules, .ref a_places, .ref a_steps, .int c_siteCount, .int c_stepCount, .int c_seenRules, .int c_at_21, .int c_wordStart, .int c_number_22, .int c_failed_23])), (a_tape, .inr (7, [.ref a_tape_bytes, .int c_tape_length])), (a_tape_bytes, .inl (E.2.2.1, 320, .inl c_tape_bytes)), (a_places, .inl (E.2.1, 16, .inl c_places_20))] H := hP
      replace hD : va_D A [(a_, .inr (4, [.ref a_tape, .ref a_rules, .ref a_places, .ref a_steps, .int c_siteCount, .int c_stepCount, .int c_seenRules, .int c_at_21, .int c_wordStart, .int c_number_22, .int c_failed_23])), (a_tape, .inr (7, [.ref a_tape_bytes, .int c_tape_length])), (a_tape_bytes, .inl (E.2.2.1, 320, .inl c_tape_bytes)), (a_places, .inl (E.2.1, 16, .inl c_places_20))] := hD
      refine lv_aload_n hx hb dX3_readSite_79 rfl (lv_at hl 0 rfl) ?_
      refine lv_dup hx hb dX3_readSite_80 rfl ?_
      refine gt_X3_4 (v := .int c_siteCount) hx hb hts i_f_X3_readSite_X3 hown hK hP 0 rfl (hts (.fieldLink RX3 21 "HushWatch$Reader" "siteCount" "I") (List.mem_of_getElem? (i := 1) rfl)) rfl dX3_readSite_81 ?_
      refine lv_iconst (v := 1) hx hb dX3_readSite_84 (by decide) ?_
      refine lv_iadd hx hb dX3_readSite_85 ?_
      refine pt_X3_4 (v := .int (c_siteCount + (1 : Int32))) hx hb hts i_f_X3_readSite_X3 hown hK hP hD hS 0 rfl (hts (.fieldLink RX3 21 "HushWatch$Reader" "siteCount" "I") (List.mem_of_getElem? (i := 1) rfl)) rfl rfl (Nat.le_of_ble_eq_true rfl) dX3_readSite_86 (fun H locs hP hD hS => ?_)
      replace hP : va_P E.1 vwCl [(a_, .inr (4, [.ref a_tape, .ref a_rules, .ref a_places, .ref a_steps, .int (c_siteCount + (1 : Int32)), .int c_stepCount, .int c_seenRules, .int c_at_21, .int c_wordStart, .int c_number_22, .int c_failed_23])), (a_tape, .inr (7, [.ref a_tape_bytes, .int c_tape_length])), (a_tape_bytes, .inl (E.2.2.1, 320, .inl c_tape_bytes)), (a_places, .inl (E.2.1, 16, .inl c_places_20))] H := hP
      replace hD : va_D A [(a_, .inr (4, [.ref a_tape, .ref a_rules, .ref a_places, .ref a_steps, .int (c_siteCount + (1 : Int32)), .int c_stepCount, .int c_seenRules, .int c_at_21, .int c_wordStart, .int c_number_22, .int c_failed_23])), (a_tape, .inr (7, [.ref a_tape_bytes, .int c_tape_length])), (a_tape_bytes, .inl (E.2.2.1, 320, .inl c_tape_bytes)), (a_places, .inl (E.2.1, 16, .inl c_places_20))] := hD
      refine lv_iconst (v := 1) hx hb dX3_readSite_89 (by decide) ?_
      rw [hQ]
      have h9 := fin9 (P := fun u9 : Int32 × (Nat → Int32) × Int32 × Int32 × Int32 × Int32 => (1 : Int32) = u9.1 ∧ va_P E.1 vwCl (w_X3_readSite E a_ a_tape a_rules a_places a_steps a_tape_bytes u9.2.2.1 c_stepCount c_seenRules u9.2.2.2.1 c_wordStart u9.2.2.2.2.1 u9.2.2.2.2.2 c_tape_length c_tape_bytes u9.2.1) H ∧ va_D A (w_X3_readSite E a_ a_tape a_rules a_places a_steps a_tape_bytes u9.2.2.1 c_stepCount c_seenRules u9.2.2.2.1 c_wordStart u9.2.2.2.2.1 u9.2.2.2.2.2 c_tape_length c_tape_bytes u9.2.1)) hF ⟨rfl, hP, hD⟩
      obtain ⟨e9_0, hP9, hD9⟩ := h9
      exact W.zret (v := (1 : Int32)) hx hb hr rfl (fun tt ht hW => ⟨⟨_, (), rfl, ⟨e9_0, Or.inr rfl⟩, ht ▸ hP9, hD9⟩, hS.F ht⟩) hS.2.2 dX3_readSite_90
  ·
    replace hF := inn c_1 hF
    refine lv_aload_n hx hb dX3_readSite_9 rfl (lv_at hl 0 rfl) ?_
    refine lv_aload_n hx hb dX3_readSite_10 rfl (lv_at hl 0 rfl) ?_
    refine gt_X3_8 (v := .int c_wordStart) hx hb hts i_f_X3_readSite_X3 hown hK hP 0 rfl (hts (.fieldLink RX3 34 "HushWatch$Reader" "wordStart" "I") (List.mem_of_getElem? (i := 4) rfl)) rfl dX3_readSite_11 ?_
    replace hF := bd2_s hF
    obtain ⟨r_25, w_26, hc_27, hF⟩ := hF
    obtain ⟨hPc, hDc, hFc⟩ := wcut (wc := (w_X3_failAt E a_ a_tape a_rules a_places a_steps c_siteCount c_stepCount c_seenRules c_at c_wordStart c_number c_failed)) hP hD hS hA [0] (by decide) rfl
    have hrc := va_recv hK hPc (ci := 4) (q0 := 0) rfl rfl
    refine cE_z (wc := (w_X3_failAt E a_ a_tape a_rules a_places a_steps c_siteCount c_stepCount c_seenRules c_at c_wordStart c_number c_failed)) (wr := [(a_tape, .inr (7, [.ref a_tape_bytes, .int c_tape_length])), (a_tape_bytes, .inl (E.2.2.1, 320, .inl c_tape_bytes)), (a_places, .inl (E.2.1, 16, .inl c_places))]) (w1 := (w_X3_failAt E a_ a_tape a_rules a_places a_steps c_siteCount c_stepCount c_seenRules c_at c_wordStart c_number w_26)) (va_runV (As := [.int c_wordStart]) (rest := [])  ⟨hx, hb, hml, hown, hts⟩ (f_X3_failAt l E H.size (a_ := a_) (a_tape := a_tape) (a_rules := a_rules) (a_places := a_places) (a_steps := a_steps) (p1 := c_wordStart) (c_siteCount := c_siteCount) (c_stepCount := c_stepCount) (c_seenRules := c_seenRules) (c_at := c_at) (c_wordStart := c_wordStart) (c_number := c_number) (c_failed := c_failed) hc_27) (cwV 1 hts g_f_X3_readSite_f_X3_failAt_87 rfl rfl rfl hd_X3_failAt ⟨Nat.le_of_ble_eq_true rfl, Nat.le_of_ble_eq_true rfl⟩) ⟨pW.blind, hrc, (pW.pre ⟨hK, hN⟩ hPc hDc)⟩ rfl rfl hl.1 rfl (lv_room (Nat.le_of_ble_eq_true rfl)) dX3_readSite_14 ⟨Nat.le_of_ble_eq_true rfl, Nat.le_of_ble_eq_true rfl⟩) hS hFc hP hD [0] [1, 2, 3] rfl rfl (by decide) (by decide) (fun hb_28 H locs hP hD hS => ?_)
    replace hP : va_P E.1 vwCl [(a_tape, .inr (7, [.ref a_tape_bytes, .int c_tape_length])), (a_tape_bytes, .inl (E.2.2.1, 320, .inl c_tape_bytes)), (a_places, .inl (E.2.1, 16, .inl c_places)), (a_, .inr (4, [.ref a_tape, .ref a_rules, .ref a_places, .ref a_steps, .int c_siteCount, .int c_stepCount, .int c_seenRules, .int c_at, .int c_wordStart, .int c_number, .int w_26]))] H := hP
    replace hD : va_D A [(a_tape, .inr (7, [.ref a_tape_bytes, .int c_tape_length])), (a_tape_bytes, .inl (E.2.2.1, 320, .inl c_tape_bytes)), (a_places, .inl (E.2.1, 16, .inl c_places)), (a_, .inr (4, [.ref a_tape, .ref a_rules, .ref a_places, .ref a_steps, .int c_siteCount, .int c_stepCount, .int c_seenRules, .int c_at, .int c_wordStart, .int c_number, .int w_26]))] := hD
    rw [hQ]
    have h9 := fin9 (P := fun u9 : Int32 × (Nat → Int32) × Int32 × Int32 × Int32 × Int32 => r_25 = u9.1 ∧ va_P E.1 vwCl (w_X3_readSite E a_ a_tape a_rules a_places a_steps a_tape_bytes u9.2.2.1 c_stepCount c_seenRules u9.2.2.2.1 c_wordStart u9.2.2.2.2.1 u9.2.2.2.2.2 c_tape_length c_tape_bytes u9.2.1) H ∧ va_D A (w_X3_readSite E a_ a_tape a_rules a_places a_steps a_tape_bytes u9.2.2.1 c_stepCount c_seenRules u9.2.2.2.1 c_wordStart u9.2.2.2.2.1 u9.2.2.2.2.2 c_tape_length c_tape_bytes u9.2.1)) hF ⟨rfl, hP.sub [3, 0, 1, 2] rfl, hD.sub [3, 0, 1, 2] (by decide) rfl⟩
    obtain ⟨e9_0, hP9, hD9⟩ := h9
    exact W.zret (v := r_25) hx hb hr (nar_bool hb_28) (fun tt ht hW => ⟨⟨_, (), rfl, ⟨e9_0, hb_28⟩, ht ▸ hP9, hD9⟩, hS.F ht⟩) hS.2.2 dX3_readSite_17
