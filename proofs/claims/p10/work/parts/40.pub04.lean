-- 40.pub04
section
def dl_X7_log_40_pub04_0 : List (Nat × Instr × Nat) := [(0, .iload_n 1, 1), (1, .ifCond .lt 20, 3), (21, .ldc 113, 2), (23, .ireturn, 1), (4, .iload_n 1, 1), (5, .aload_n 0, 1), (6, .invokevirtual 204, 3), (9, .if_icmp .ge 12, 3), (12, .iload_n 2, 1), (13, .ifCond .lt 8, 3), (16, .iload_n 2, 1), (17, .iconst 3, 1), (18, .if_icmp .lt 6, 3), (24, .aload_n 0, 1), (25, .getfield 48, 3), (28, .aload_n 0, 1), (29, .getfield 35, 3), (32, .getfield 114, 3), (35, .bipush 16, 2), (37, .iaload, 1), (38, .iconst 1, 1), (39, .isub, 1), (40, .iload_n 1, 1), (41, .isub, 1), (42, .iload_n 2, 1), (43, .invokevirtual 207, 3), (46, .ireturn, 1)]
set_option maxRecDepth 100000 in
theorem dall_X7_log_40_pub04_0 : dchk cX7_log dl_X7_log_40_pub04_0 = true := by decide +kernel
theorem dX7_log_0 : decode cX7_log 0 = .ok (.iload_n 1, 1) := dchk_at dall_X7_log_40_pub04_0 (k := 0) rfl
theorem dX7_log_1 : decode cX7_log 1 = .ok (.ifCond .lt 20, 3) := dchk_at dall_X7_log_40_pub04_0 (k := 1) rfl
theorem dX7_log_21 : decode cX7_log 21 = .ok (.ldc 113, 2) := dchk_at dall_X7_log_40_pub04_0 (k := 2) rfl
theorem dX7_log_23 : decode cX7_log 23 = .ok (.ireturn, 1) := dchk_at dall_X7_log_40_pub04_0 (k := 3) rfl
theorem dX7_log_4 : decode cX7_log 4 = .ok (.iload_n 1, 1) := dchk_at dall_X7_log_40_pub04_0 (k := 4) rfl
theorem dX7_log_5 : decode cX7_log 5 = .ok (.aload_n 0, 1) := dchk_at dall_X7_log_40_pub04_0 (k := 5) rfl
theorem dX7_log_6 : decode cX7_log 6 = .ok (.invokevirtual 204, 3) := dchk_at dall_X7_log_40_pub04_0 (k := 6) rfl
theorem dX7_log_9 : decode cX7_log 9 = .ok (.if_icmp .ge 12, 3) := dchk_at dall_X7_log_40_pub04_0 (k := 7) rfl
theorem dX7_log_12 : decode cX7_log 12 = .ok (.iload_n 2, 1) := dchk_at dall_X7_log_40_pub04_0 (k := 8) rfl
theorem dX7_log_13 : decode cX7_log 13 = .ok (.ifCond .lt 8, 3) := dchk_at dall_X7_log_40_pub04_0 (k := 9) rfl
theorem dX7_log_16 : decode cX7_log 16 = .ok (.iload_n 2, 1) := dchk_at dall_X7_log_40_pub04_0 (k := 10) rfl
theorem dX7_log_17 : decode cX7_log 17 = .ok (.iconst 3, 1) := dchk_at dall_X7_log_40_pub04_0 (k := 11) rfl
theorem dX7_log_18 : decode cX7_log 18 = .ok (.if_icmp .lt 6, 3) := dchk_at dall_X7_log_40_pub04_0 (k := 12) rfl
theorem dX7_log_24 : decode cX7_log 24 = .ok (.aload_n 0, 1) := dchk_at dall_X7_log_40_pub04_0 (k := 13) rfl
theorem dX7_log_25 : decode cX7_log 25 = .ok (.getfield 48, 3) := dchk_at dall_X7_log_40_pub04_0 (k := 14) rfl
theorem dX7_log_28 : decode cX7_log 28 = .ok (.aload_n 0, 1) := dchk_at dall_X7_log_40_pub04_0 (k := 15) rfl
theorem dX7_log_29 : decode cX7_log 29 = .ok (.getfield 35, 3) := dchk_at dall_X7_log_40_pub04_0 (k := 16) rfl
theorem dX7_log_32 : decode cX7_log 32 = .ok (.getfield 114, 3) := dchk_at dall_X7_log_40_pub04_0 (k := 17) rfl
theorem dX7_log_35 : decode cX7_log 35 = .ok (.bipush 16, 2) := dchk_at dall_X7_log_40_pub04_0 (k := 18) rfl
theorem dX7_log_37 : decode cX7_log 37 = .ok (.iaload, 1) := dchk_at dall_X7_log_40_pub04_0 (k := 19) rfl
theorem dX7_log_38 : decode cX7_log 38 = .ok (.iconst 1, 1) := dchk_at dall_X7_log_40_pub04_0 (k := 20) rfl
theorem dX7_log_39 : decode cX7_log 39 = .ok (.isub, 1) := dchk_at dall_X7_log_40_pub04_0 (k := 21) rfl
theorem dX7_log_40 : decode cX7_log 40 = .ok (.iload_n 1, 1) := dchk_at dall_X7_log_40_pub04_0 (k := 22) rfl
theorem dX7_log_41 : decode cX7_log 41 = .ok (.isub, 1) := dchk_at dall_X7_log_40_pub04_0 (k := 23) rfl
theorem dX7_log_42 : decode cX7_log 42 = .ok (.iload_n 2, 1) := dchk_at dall_X7_log_40_pub04_0 (k := 24) rfl
theorem dX7_log_43 : decode cX7_log 43 = .ok (.invokevirtual 207, 3) := dchk_at dall_X7_log_40_pub04_0 (k := 25) rfl
theorem dX7_log_46 : decode cX7_log 46 = .ok (.ireturn, 1) := dchk_at dall_X7_log_40_pub04_0 (k := 26) rfl
def dl_X7_most_40_pub04_0 : List (Nat × Instr × Nat) := [(0, .aload_n 0, 1), (1, .getfield 35, 3), (4, .invokevirtual 110, 3), (7, .ifCond .ne 6, 3), (13, .iload_n 1, 1), (14, .tableswitch 181 0 11 #[62, 73, 84, 95, 106, 117, 128, 136, 144, 153, 162, 170], 62), (76, .aload_n 0, 1), (77, .getfield 35, 3), (80, .getfield 114, 3), (83, .bipush 11, 2), (85, .iaload, 1), (86, .ireturn, 1), (87, .aload_n 0, 1), (88, .getfield 35, 3), (91, .getfield 114, 3), (94, .bipush 12, 2), (96, .iaload, 1), (97, .ireturn, 1), (98, .aload_n 0, 1), (99, .getfield 35, 3), (102, .getfield 114, 3), (105, .bipush 13, 2), (107, .iaload, 1), (108, .ireturn, 1), (109, .aload_n 0, 1), (110, .getfield 35, 3), (113, .getfield 114, 3), (116, .bipush 14, 2), (118, .iaload, 1), (119, .ireturn, 1), (120, .aload_n 0, 1), (121, .getfield 35, 3), (124, .getfield 114, 3), (127, .bipush 15, 2), (129, .iaload, 1), (130, .ireturn, 1), (131, .aload_n 0, 1), (132, .getfield 35, 3), (135, .getfield 114, 3), (138, .bipush 6, 2), (140, .iaload, 1), (141, .ireturn, 1), (142, .aload_n 0, 1), (143, .getfield 35, 3), (146, .invokevirtual 302, 3), (149, .ireturn, 1), (150, .aload_n 0, 1), (151, .getfield 35, 3), (154, .invokevirtual 305, 3), (157, .ireturn, 1)]
set_option maxRecDepth 100000 in
theorem dall_X7_most_40_pub04_0 : dchk cX7_most dl_X7_most_40_pub04_0 = true := by decide +kernel
theorem dX7_most_0 : decode cX7_most 0 = .ok (.aload_n 0, 1) := dchk_at dall_X7_most_40_pub04_0 (k := 0) rfl
theorem dX7_most_1 : decode cX7_most 1 = .ok (.getfield 35, 3) := dchk_at dall_X7_most_40_pub04_0 (k := 1) rfl
theorem dX7_most_4 : decode cX7_most 4 = .ok (.invokevirtual 110, 3) := dchk_at dall_X7_most_40_pub04_0 (k := 2) rfl
theorem dX7_most_7 : decode cX7_most 7 = .ok (.ifCond .ne 6, 3) := dchk_at dall_X7_most_40_pub04_0 (k := 3) rfl
theorem dX7_most_13 : decode cX7_most 13 = .ok (.iload_n 1, 1) := dchk_at dall_X7_most_40_pub04_0 (k := 4) rfl
theorem dX7_most_14 : decode cX7_most 14 = .ok (.tableswitch 181 0 11 #[62, 73, 84, 95, 106, 117, 128, 136, 144, 153, 162, 170], 62) := dchk_at dall_X7_most_40_pub04_0 (k := 5) rfl
theorem dX7_most_76 : decode cX7_most 76 = .ok (.aload_n 0, 1) := dchk_at dall_X7_most_40_pub04_0 (k := 6) rfl
theorem dX7_most_77 : decode cX7_most 77 = .ok (.getfield 35, 3) := dchk_at dall_X7_most_40_pub04_0 (k := 7) rfl
theorem dX7_most_80 : decode cX7_most 80 = .ok (.getfield 114, 3) := dchk_at dall_X7_most_40_pub04_0 (k := 8) rfl
theorem dX7_most_83 : decode cX7_most 83 = .ok (.bipush 11, 2) := dchk_at dall_X7_most_40_pub04_0 (k := 9) rfl
theorem dX7_most_85 : decode cX7_most 85 = .ok (.iaload, 1) := dchk_at dall_X7_most_40_pub04_0 (k := 10) rfl
theorem dX7_most_86 : decode cX7_most 86 = .ok (.ireturn, 1) := dchk_at dall_X7_most_40_pub04_0 (k := 11) rfl
theorem dX7_most_87 : decode cX7_most 87 = .ok (.aload_n 0, 1) := dchk_at dall_X7_most_40_pub04_0 (k := 12) rfl
theorem dX7_most_88 : decode cX7_most 88 = .ok (.getfield 35, 3) := dchk_at dall_X7_most_40_pub04_0 (k := 13) rfl
theorem dX7_most_91 : decode cX7_most 91 = .ok (.getfield 114, 3) := dchk_at dall_X7_most_40_pub04_0 (k := 14) rfl
theorem dX7_most_94 : decode cX7_most 94 = .ok (.bipush 12, 2) := dchk_at dall_X7_most_40_pub04_0 (k := 15) rfl
theorem dX7_most_96 : decode cX7_most 96 = .ok (.iaload, 1) := dchk_at dall_X7_most_40_pub04_0 (k := 16) rfl
theorem dX7_most_97 : decode cX7_most 97 = .ok (.ireturn, 1) := dchk_at dall_X7_most_40_pub04_0 (k := 17) rfl
theorem dX7_most_98 : decode cX7_most 98 = .ok (.aload_n 0, 1) := dchk_at dall_X7_most_40_pub04_0 (k := 18) rfl
theorem dX7_most_99 : decode cX7_most 99 = .ok (.getfield 35, 3) := dchk_at dall_X7_most_40_pub04_0 (k := 19) rfl
theorem dX7_most_102 : decode cX7_most 102 = .ok (.getfield 114, 3) := dchk_at dall_X7_most_40_pub04_0 (k := 20) rfl
theorem dX7_most_105 : decode cX7_most 105 = .ok (.bipush 13, 2) := dchk_at dall_X7_most_40_pub04_0 (k := 21) rfl
theorem dX7_most_107 : decode cX7_most 107 = .ok (.iaload, 1) := dchk_at dall_X7_most_40_pub04_0 (k := 22) rfl
theorem dX7_most_108 : decode cX7_most 108 = .ok (.ireturn, 1) := dchk_at dall_X7_most_40_pub04_0 (k := 23) rfl
theorem dX7_most_109 : decode cX7_most 109 = .ok (.aload_n 0, 1) := dchk_at dall_X7_most_40_pub04_0 (k := 24) rfl
theorem dX7_most_110 : decode cX7_most 110 = .ok (.getfield 35, 3) := dchk_at dall_X7_most_40_pub04_0 (k := 25) rfl
theorem dX7_most_113 : decode cX7_most 113 = .ok (.getfield 114, 3) := dchk_at dall_X7_most_40_pub04_0 (k := 26) rfl
theorem dX7_most_116 : decode cX7_most 116 = .ok (.bipush 14, 2) := dchk_at dall_X7_most_40_pub04_0 (k := 27) rfl
theorem dX7_most_118 : decode cX7_most 118 = .ok (.iaload, 1) := dchk_at dall_X7_most_40_pub04_0 (k := 28) rfl
theorem dX7_most_119 : decode cX7_most 119 = .ok (.ireturn, 1) := dchk_at dall_X7_most_40_pub04_0 (k := 29) rfl
theorem dX7_most_120 : decode cX7_most 120 = .ok (.aload_n 0, 1) := dchk_at dall_X7_most_40_pub04_0 (k := 30) rfl
theorem dX7_most_121 : decode cX7_most 121 = .ok (.getfield 35, 3) := dchk_at dall_X7_most_40_pub04_0 (k := 31) rfl
theorem dX7_most_124 : decode cX7_most 124 = .ok (.getfield 114, 3) := dchk_at dall_X7_most_40_pub04_0 (k := 32) rfl
theorem dX7_most_127 : decode cX7_most 127 = .ok (.bipush 15, 2) := dchk_at dall_X7_most_40_pub04_0 (k := 33) rfl
theorem dX7_most_129 : decode cX7_most 129 = .ok (.iaload, 1) := dchk_at dall_X7_most_40_pub04_0 (k := 34) rfl
theorem dX7_most_130 : decode cX7_most 130 = .ok (.ireturn, 1) := dchk_at dall_X7_most_40_pub04_0 (k := 35) rfl
theorem dX7_most_131 : decode cX7_most 131 = .ok (.aload_n 0, 1) := dchk_at dall_X7_most_40_pub04_0 (k := 36) rfl
theorem dX7_most_132 : decode cX7_most 132 = .ok (.getfield 35, 3) := dchk_at dall_X7_most_40_pub04_0 (k := 37) rfl
theorem dX7_most_135 : decode cX7_most 135 = .ok (.getfield 114, 3) := dchk_at dall_X7_most_40_pub04_0 (k := 38) rfl
theorem dX7_most_138 : decode cX7_most 138 = .ok (.bipush 6, 2) := dchk_at dall_X7_most_40_pub04_0 (k := 39) rfl
theorem dX7_most_140 : decode cX7_most 140 = .ok (.iaload, 1) := dchk_at dall_X7_most_40_pub04_0 (k := 40) rfl
theorem dX7_most_141 : decode cX7_most 141 = .ok (.ireturn, 1) := dchk_at dall_X7_most_40_pub04_0 (k := 41) rfl
theorem dX7_most_142 : decode cX7_most 142 = .ok (.aload_n 0, 1) := dchk_at dall_X7_most_40_pub04_0 (k := 42) rfl
theorem dX7_most_143 : decode cX7_most 143 = .ok (.getfield 35, 3) := dchk_at dall_X7_most_40_pub04_0 (k := 43) rfl
theorem dX7_most_146 : decode cX7_most 146 = .ok (.invokevirtual 302, 3) := dchk_at dall_X7_most_40_pub04_0 (k := 44) rfl
theorem dX7_most_149 : decode cX7_most 149 = .ok (.ireturn, 1) := dchk_at dall_X7_most_40_pub04_0 (k := 45) rfl
theorem dX7_most_150 : decode cX7_most 150 = .ok (.aload_n 0, 1) := dchk_at dall_X7_most_40_pub04_0 (k := 46) rfl
theorem dX7_most_151 : decode cX7_most 151 = .ok (.getfield 35, 3) := dchk_at dall_X7_most_40_pub04_0 (k := 47) rfl
theorem dX7_most_154 : decode cX7_most 154 = .ok (.invokevirtual 305, 3) := dchk_at dall_X7_most_40_pub04_0 (k := 48) rfl
theorem dX7_most_157 : decode cX7_most 157 = .ok (.ireturn, 1) := dchk_at dall_X7_most_40_pub04_0 (k := 49) rfl
def dl_X7_most_40_pub04_1 : List (Nat × Instr × Nat) := [(158, .aload_n 0, 1), (159, .getfield 35, 3), (162, .iconst 4, 1), (163, .invokevirtual 160, 3), (166, .ireturn, 1), (167, .aload_n 0, 1), (168, .getfield 35, 3), (171, .iconst 5, 1), (172, .invokevirtual 160, 3), (175, .ireturn, 1), (176, .aload_n 0, 1), (177, .getfield 35, 3), (180, .invokevirtual 308, 3), (183, .ireturn, 1), (184, .aload_n 0, 1), (185, .getfield 35, 3), (188, .getfield 114, 3), (191, .bipush 7, 2), (193, .iaload, 1), (194, .ireturn, 1), (195, .ldc 113, 2), (197, .ireturn, 1), (10, .ldc 113, 2), (12, .ireturn, 1)]
set_option maxRecDepth 100000 in
theorem dall_X7_most_40_pub04_1 : dchk cX7_most dl_X7_most_40_pub04_1 = true := by decide +kernel
theorem dX7_most_158 : decode cX7_most 158 = .ok (.aload_n 0, 1) := dchk_at dall_X7_most_40_pub04_1 (k := 0) rfl
theorem dX7_most_159 : decode cX7_most 159 = .ok (.getfield 35, 3) := dchk_at dall_X7_most_40_pub04_1 (k := 1) rfl
theorem dX7_most_162 : decode cX7_most 162 = .ok (.iconst 4, 1) := dchk_at dall_X7_most_40_pub04_1 (k := 2) rfl
theorem dX7_most_163 : decode cX7_most 163 = .ok (.invokevirtual 160, 3) := dchk_at dall_X7_most_40_pub04_1 (k := 3) rfl
theorem dX7_most_166 : decode cX7_most 166 = .ok (.ireturn, 1) := dchk_at dall_X7_most_40_pub04_1 (k := 4) rfl
theorem dX7_most_167 : decode cX7_most 167 = .ok (.aload_n 0, 1) := dchk_at dall_X7_most_40_pub04_1 (k := 5) rfl
theorem dX7_most_168 : decode cX7_most 168 = .ok (.getfield 35, 3) := dchk_at dall_X7_most_40_pub04_1 (k := 6) rfl
theorem dX7_most_171 : decode cX7_most 171 = .ok (.iconst 5, 1) := dchk_at dall_X7_most_40_pub04_1 (k := 7) rfl
theorem dX7_most_172 : decode cX7_most 172 = .ok (.invokevirtual 160, 3) := dchk_at dall_X7_most_40_pub04_1 (k := 8) rfl
theorem dX7_most_175 : decode cX7_most 175 = .ok (.ireturn, 1) := dchk_at dall_X7_most_40_pub04_1 (k := 9) rfl
theorem dX7_most_176 : decode cX7_most 176 = .ok (.aload_n 0, 1) := dchk_at dall_X7_most_40_pub04_1 (k := 10) rfl
theorem dX7_most_177 : decode cX7_most 177 = .ok (.getfield 35, 3) := dchk_at dall_X7_most_40_pub04_1 (k := 11) rfl
theorem dX7_most_180 : decode cX7_most 180 = .ok (.invokevirtual 308, 3) := dchk_at dall_X7_most_40_pub04_1 (k := 12) rfl
theorem dX7_most_183 : decode cX7_most 183 = .ok (.ireturn, 1) := dchk_at dall_X7_most_40_pub04_1 (k := 13) rfl
theorem dX7_most_184 : decode cX7_most 184 = .ok (.aload_n 0, 1) := dchk_at dall_X7_most_40_pub04_1 (k := 14) rfl
theorem dX7_most_185 : decode cX7_most 185 = .ok (.getfield 35, 3) := dchk_at dall_X7_most_40_pub04_1 (k := 15) rfl
theorem dX7_most_188 : decode cX7_most 188 = .ok (.getfield 114, 3) := dchk_at dall_X7_most_40_pub04_1 (k := 16) rfl
theorem dX7_most_191 : decode cX7_most 191 = .ok (.bipush 7, 2) := dchk_at dall_X7_most_40_pub04_1 (k := 17) rfl
theorem dX7_most_193 : decode cX7_most 193 = .ok (.iaload, 1) := dchk_at dall_X7_most_40_pub04_1 (k := 18) rfl
theorem dX7_most_194 : decode cX7_most 194 = .ok (.ireturn, 1) := dchk_at dall_X7_most_40_pub04_1 (k := 19) rfl
theorem dX7_most_195 : decode cX7_most 195 = .ok (.ldc 113, 2) := dchk_at dall_X7_most_40_pub04_1 (k := 20) rfl
theorem dX7_most_197 : decode cX7_most 197 = .ok (.ireturn, 1) := dchk_at dall_X7_most_40_pub04_1 (k := 21) rfl
theorem dX7_most_10 : decode cX7_most 10 = .ok (.ldc 113, 2) := dchk_at dall_X7_most_40_pub04_1 (k := 22) rfl
theorem dX7_most_12 : decode cX7_most 12 = .ok (.ireturn, 1) := dchk_at dall_X7_most_40_pub04_1 (k := 23) rfl
def dl_X7_move_40_pub04_0 : List (Nat × Instr × Nat) := [(0, .aload_n 0, 1), (1, .iconst 0, 1), (2, .iload_n 1, 1), (3, .iload_n 2, 1), (4, .iload_n 3, 1), (5, .iconst 1, 1), (6, .invokevirtual 163, 3), (9, .ireturn, 1)]
set_option maxRecDepth 100000 in
theorem dall_X7_move_40_pub04_0 : dchk cX7_move dl_X7_move_40_pub04_0 = true := by decide +kernel
theorem dX7_move_0 : decode cX7_move 0 = .ok (.aload_n 0, 1) := dchk_at dall_X7_move_40_pub04_0 (k := 0) rfl
theorem dX7_move_1 : decode cX7_move 1 = .ok (.iconst 0, 1) := dchk_at dall_X7_move_40_pub04_0 (k := 1) rfl
theorem dX7_move_2 : decode cX7_move 2 = .ok (.iload_n 1, 1) := dchk_at dall_X7_move_40_pub04_0 (k := 2) rfl
theorem dX7_move_3 : decode cX7_move 3 = .ok (.iload_n 2, 1) := dchk_at dall_X7_move_40_pub04_0 (k := 3) rfl
theorem dX7_move_4 : decode cX7_move 4 = .ok (.iload_n 3, 1) := dchk_at dall_X7_move_40_pub04_0 (k := 4) rfl
theorem dX7_move_5 : decode cX7_move 5 = .ok (.iconst 1, 1) := dchk_at dall_X7_move_40_pub04_0 (k := 5) rfl
theorem dX7_move_6 : decode cX7_move 6 = .ok (.invokevirtual 163, 3) := dchk_at dall_X7_move_40_pub04_0 (k := 6) rfl
theorem dX7_move_9 : decode cX7_move 9 = .ok (.ireturn, 1) := dchk_at dall_X7_move_40_pub04_0 (k := 7) rfl
def dl_X7_needs_40_pub04_0 : List (Nat × Instr × Nat) := [(0, .aload_n 0, 1), (1, .getfield 35, 3), (4, .iconst 0, 1), (5, .iload_n 1, 1), (6, .iload_n 2, 1), (7, .iload_n 3, 1), (8, .invokevirtual 220, 3), (11, .iconst (-1), 1), (12, .if_icmp .eq 7, 3), (19, .aload_n 0, 1), (20, .getfield 35, 3), (23, .iload_n 1, 1), (24, .iload_n 2, 1), (25, .iload_n 3, 1), (26, .invokevirtual 254, 3), (29, .lconst 1, 1), (30, .ladd, 1), (31, .lreturn, 1), (15, .ldc2_w 154, 3), (18, .lreturn, 1)]
set_option maxRecDepth 100000 in
theorem dall_X7_needs_40_pub04_0 : dchk cX7_needs dl_X7_needs_40_pub04_0 = true := by decide +kernel
theorem dX7_needs_0 : decode cX7_needs 0 = .ok (.aload_n 0, 1) := dchk_at dall_X7_needs_40_pub04_0 (k := 0) rfl
theorem dX7_needs_1 : decode cX7_needs 1 = .ok (.getfield 35, 3) := dchk_at dall_X7_needs_40_pub04_0 (k := 1) rfl
theorem dX7_needs_4 : decode cX7_needs 4 = .ok (.iconst 0, 1) := dchk_at dall_X7_needs_40_pub04_0 (k := 2) rfl
theorem dX7_needs_5 : decode cX7_needs 5 = .ok (.iload_n 1, 1) := dchk_at dall_X7_needs_40_pub04_0 (k := 3) rfl
theorem dX7_needs_6 : decode cX7_needs 6 = .ok (.iload_n 2, 1) := dchk_at dall_X7_needs_40_pub04_0 (k := 4) rfl
theorem dX7_needs_7 : decode cX7_needs 7 = .ok (.iload_n 3, 1) := dchk_at dall_X7_needs_40_pub04_0 (k := 5) rfl
theorem dX7_needs_8 : decode cX7_needs 8 = .ok (.invokevirtual 220, 3) := dchk_at dall_X7_needs_40_pub04_0 (k := 6) rfl
theorem dX7_needs_11 : decode cX7_needs 11 = .ok (.iconst (-1), 1) := dchk_at dall_X7_needs_40_pub04_0 (k := 7) rfl
theorem dX7_needs_12 : decode cX7_needs 12 = .ok (.if_icmp .eq 7, 3) := dchk_at dall_X7_needs_40_pub04_0 (k := 8) rfl
theorem dX7_needs_19 : decode cX7_needs 19 = .ok (.aload_n 0, 1) := dchk_at dall_X7_needs_40_pub04_0 (k := 9) rfl
theorem dX7_needs_20 : decode cX7_needs 20 = .ok (.getfield 35, 3) := dchk_at dall_X7_needs_40_pub04_0 (k := 10) rfl
theorem dX7_needs_23 : decode cX7_needs 23 = .ok (.iload_n 1, 1) := dchk_at dall_X7_needs_40_pub04_0 (k := 11) rfl
theorem dX7_needs_24 : decode cX7_needs 24 = .ok (.iload_n 2, 1) := dchk_at dall_X7_needs_40_pub04_0 (k := 12) rfl
theorem dX7_needs_25 : decode cX7_needs 25 = .ok (.iload_n 3, 1) := dchk_at dall_X7_needs_40_pub04_0 (k := 13) rfl
theorem dX7_needs_26 : decode cX7_needs 26 = .ok (.invokevirtual 254, 3) := dchk_at dall_X7_needs_40_pub04_0 (k := 14) rfl
theorem dX7_needs_29 : decode cX7_needs 29 = .ok (.lconst 1, 1) := dchk_at dall_X7_needs_40_pub04_0 (k := 15) rfl
theorem dX7_needs_30 : decode cX7_needs 30 = .ok (.ladd, 1) := dchk_at dall_X7_needs_40_pub04_0 (k := 16) rfl
theorem dX7_needs_31 : decode cX7_needs 31 = .ok (.lreturn, 1) := dchk_at dall_X7_needs_40_pub04_0 (k := 17) rfl
theorem dX7_needs_15 : decode cX7_needs 15 = .ok (.ldc2_w 154, 3) := dchk_at dall_X7_needs_40_pub04_0 (k := 18) rfl
theorem dX7_needs_18 : decode cX7_needs 18 = .ok (.lreturn, 1) := dchk_at dall_X7_needs_40_pub04_0 (k := 19) rfl
def dl_X7_partner_40_pub04_0 : List (Nat × Instr × Nat) := [(64, .iload 4, 2), (66, .aload_n 0, 1), (67, .getfield 39, 3), (70, .invokevirtual 117, 3), (73, .if_icmp .ge 48, 3), (76, .iload 4, 2), (78, .iload_n 1, 1), (79, .if_icmp .eq 36, 3), (115, .iinc 4 1, 3), (118, .goto (-54), 3), (82, .aload_n 0, 1), (83, .getfield 39, 3), (86, .iload 4, 2), (88, .invokevirtual 143, 3), (91, .ifCond .ne 24, 3), (94, .aload_n 0, 1), (95, .getfield 39, 3), (98, .iconst 1, 1), (99, .iload_n 1, 1), (100, .ishl, 1), (101, .iconst 1, 1), (102, .iload 4, 2), (104, .ishl, 1), (105, .ior, 1), (106, .invokevirtual 251, 3), (109, .ifCond .eq 6, 3), (0, .aload_n 0, 1), (1, .getfield 35, 3), (4, .iconst 0, 1), (5, .iload_n 1, 1), (6, .iload_n 2, 1), (7, .iload_n 3, 1), (8, .invokevirtual 220, 3), (11, .iconst (-1), 1), (12, .if_icmp .ne 26, 3), (38, .iconst (-1), 1), (39, .ireturn, 1), (15, .aload_n 0, 1), (16, .getfield 35, 3), (19, .invokevirtual 244, 3), (22, .ifCond .ne 16, 3), (25, .aload_n 0, 1), (26, .getfield 35, 3), (29, .iload_n 1, 1), (30, .iload_n 2, 1), (31, .iload_n 3, 1), (32, .invokevirtual 217, 3), (35, .ifCond .eq 5, 3), (40, .aload_n 0, 1), (41, .getfield 39, 3)]
set_option maxRecDepth 100000 in
theorem dall_X7_partner_40_pub04_0 : dchk cX7_partner dl_X7_partner_40_pub04_0 = true := by decide +kernel
theorem dX7_partner_64 : decode cX7_partner 64 = .ok (.iload 4, 2) := dchk_at dall_X7_partner_40_pub04_0 (k := 0) rfl
theorem dX7_partner_66 : decode cX7_partner 66 = .ok (.aload_n 0, 1) := dchk_at dall_X7_partner_40_pub04_0 (k := 1) rfl
theorem dX7_partner_67 : decode cX7_partner 67 = .ok (.getfield 39, 3) := dchk_at dall_X7_partner_40_pub04_0 (k := 2) rfl
theorem dX7_partner_70 : decode cX7_partner 70 = .ok (.invokevirtual 117, 3) := dchk_at dall_X7_partner_40_pub04_0 (k := 3) rfl
theorem dX7_partner_73 : decode cX7_partner 73 = .ok (.if_icmp .ge 48, 3) := dchk_at dall_X7_partner_40_pub04_0 (k := 4) rfl
theorem dX7_partner_76 : decode cX7_partner 76 = .ok (.iload 4, 2) := dchk_at dall_X7_partner_40_pub04_0 (k := 5) rfl
theorem dX7_partner_78 : decode cX7_partner 78 = .ok (.iload_n 1, 1) := dchk_at dall_X7_partner_40_pub04_0 (k := 6) rfl
theorem dX7_partner_79 : decode cX7_partner 79 = .ok (.if_icmp .eq 36, 3) := dchk_at dall_X7_partner_40_pub04_0 (k := 7) rfl
theorem dX7_partner_115 : decode cX7_partner 115 = .ok (.iinc 4 1, 3) := dchk_at dall_X7_partner_40_pub04_0 (k := 8) rfl
theorem dX7_partner_118 : decode cX7_partner 118 = .ok (.goto (-54), 3) := dchk_at dall_X7_partner_40_pub04_0 (k := 9) rfl
theorem dX7_partner_82 : decode cX7_partner 82 = .ok (.aload_n 0, 1) := dchk_at dall_X7_partner_40_pub04_0 (k := 10) rfl
theorem dX7_partner_83 : decode cX7_partner 83 = .ok (.getfield 39, 3) := dchk_at dall_X7_partner_40_pub04_0 (k := 11) rfl
theorem dX7_partner_86 : decode cX7_partner 86 = .ok (.iload 4, 2) := dchk_at dall_X7_partner_40_pub04_0 (k := 12) rfl
theorem dX7_partner_88 : decode cX7_partner 88 = .ok (.invokevirtual 143, 3) := dchk_at dall_X7_partner_40_pub04_0 (k := 13) rfl
theorem dX7_partner_91 : decode cX7_partner 91 = .ok (.ifCond .ne 24, 3) := dchk_at dall_X7_partner_40_pub04_0 (k := 14) rfl
theorem dX7_partner_94 : decode cX7_partner 94 = .ok (.aload_n 0, 1) := dchk_at dall_X7_partner_40_pub04_0 (k := 15) rfl
theorem dX7_partner_95 : decode cX7_partner 95 = .ok (.getfield 39, 3) := dchk_at dall_X7_partner_40_pub04_0 (k := 16) rfl
theorem dX7_partner_98 : decode cX7_partner 98 = .ok (.iconst 1, 1) := dchk_at dall_X7_partner_40_pub04_0 (k := 17) rfl
theorem dX7_partner_99 : decode cX7_partner 99 = .ok (.iload_n 1, 1) := dchk_at dall_X7_partner_40_pub04_0 (k := 18) rfl
theorem dX7_partner_100 : decode cX7_partner 100 = .ok (.ishl, 1) := dchk_at dall_X7_partner_40_pub04_0 (k := 19) rfl
theorem dX7_partner_101 : decode cX7_partner 101 = .ok (.iconst 1, 1) := dchk_at dall_X7_partner_40_pub04_0 (k := 20) rfl
theorem dX7_partner_102 : decode cX7_partner 102 = .ok (.iload 4, 2) := dchk_at dall_X7_partner_40_pub04_0 (k := 21) rfl
theorem dX7_partner_104 : decode cX7_partner 104 = .ok (.ishl, 1) := dchk_at dall_X7_partner_40_pub04_0 (k := 22) rfl
theorem dX7_partner_105 : decode cX7_partner 105 = .ok (.ior, 1) := dchk_at dall_X7_partner_40_pub04_0 (k := 23) rfl
theorem dX7_partner_106 : decode cX7_partner 106 = .ok (.invokevirtual 251, 3) := dchk_at dall_X7_partner_40_pub04_0 (k := 24) rfl
theorem dX7_partner_109 : decode cX7_partner 109 = .ok (.ifCond .eq 6, 3) := dchk_at dall_X7_partner_40_pub04_0 (k := 25) rfl
theorem dX7_partner_0 : decode cX7_partner 0 = .ok (.aload_n 0, 1) := dchk_at dall_X7_partner_40_pub04_0 (k := 26) rfl
theorem dX7_partner_1 : decode cX7_partner 1 = .ok (.getfield 35, 3) := dchk_at dall_X7_partner_40_pub04_0 (k := 27) rfl
theorem dX7_partner_4 : decode cX7_partner 4 = .ok (.iconst 0, 1) := dchk_at dall_X7_partner_40_pub04_0 (k := 28) rfl
theorem dX7_partner_5 : decode cX7_partner 5 = .ok (.iload_n 1, 1) := dchk_at dall_X7_partner_40_pub04_0 (k := 29) rfl
theorem dX7_partner_6 : decode cX7_partner 6 = .ok (.iload_n 2, 1) := dchk_at dall_X7_partner_40_pub04_0 (k := 30) rfl
theorem dX7_partner_7 : decode cX7_partner 7 = .ok (.iload_n 3, 1) := dchk_at dall_X7_partner_40_pub04_0 (k := 31) rfl
theorem dX7_partner_8 : decode cX7_partner 8 = .ok (.invokevirtual 220, 3) := dchk_at dall_X7_partner_40_pub04_0 (k := 32) rfl
theorem dX7_partner_11 : decode cX7_partner 11 = .ok (.iconst (-1), 1) := dchk_at dall_X7_partner_40_pub04_0 (k := 33) rfl
theorem dX7_partner_12 : decode cX7_partner 12 = .ok (.if_icmp .ne 26, 3) := dchk_at dall_X7_partner_40_pub04_0 (k := 34) rfl
theorem dX7_partner_38 : decode cX7_partner 38 = .ok (.iconst (-1), 1) := dchk_at dall_X7_partner_40_pub04_0 (k := 35) rfl
theorem dX7_partner_39 : decode cX7_partner 39 = .ok (.ireturn, 1) := dchk_at dall_X7_partner_40_pub04_0 (k := 36) rfl
theorem dX7_partner_15 : decode cX7_partner 15 = .ok (.aload_n 0, 1) := dchk_at dall_X7_partner_40_pub04_0 (k := 37) rfl
theorem dX7_partner_16 : decode cX7_partner 16 = .ok (.getfield 35, 3) := dchk_at dall_X7_partner_40_pub04_0 (k := 38) rfl
theorem dX7_partner_19 : decode cX7_partner 19 = .ok (.invokevirtual 244, 3) := dchk_at dall_X7_partner_40_pub04_0 (k := 39) rfl
theorem dX7_partner_22 : decode cX7_partner 22 = .ok (.ifCond .ne 16, 3) := dchk_at dall_X7_partner_40_pub04_0 (k := 40) rfl
theorem dX7_partner_25 : decode cX7_partner 25 = .ok (.aload_n 0, 1) := dchk_at dall_X7_partner_40_pub04_0 (k := 41) rfl
theorem dX7_partner_26 : decode cX7_partner 26 = .ok (.getfield 35, 3) := dchk_at dall_X7_partner_40_pub04_0 (k := 42) rfl
theorem dX7_partner_29 : decode cX7_partner 29 = .ok (.iload_n 1, 1) := dchk_at dall_X7_partner_40_pub04_0 (k := 43) rfl
theorem dX7_partner_30 : decode cX7_partner 30 = .ok (.iload_n 2, 1) := dchk_at dall_X7_partner_40_pub04_0 (k := 44) rfl
theorem dX7_partner_31 : decode cX7_partner 31 = .ok (.iload_n 3, 1) := dchk_at dall_X7_partner_40_pub04_0 (k := 45) rfl
theorem dX7_partner_32 : decode cX7_partner 32 = .ok (.invokevirtual 217, 3) := dchk_at dall_X7_partner_40_pub04_0 (k := 46) rfl
theorem dX7_partner_35 : decode cX7_partner 35 = .ok (.ifCond .eq 5, 3) := dchk_at dall_X7_partner_40_pub04_0 (k := 47) rfl
theorem dX7_partner_40 : decode cX7_partner 40 = .ok (.aload_n 0, 1) := dchk_at dall_X7_partner_40_pub04_0 (k := 48) rfl
theorem dX7_partner_41 : decode cX7_partner 41 = .ok (.getfield 39, 3) := dchk_at dall_X7_partner_40_pub04_0 (k := 49) rfl
def dl_X7_partner_40_pub04_1 : List (Nat × Instr × Nat) := [(44, .aload_n 0, 1), (45, .getfield 35, 3), (48, .invokevirtual 237, 3), (51, .aload_n 0, 1), (52, .getfield 39, 3), (55, .iload_n 1, 1), (56, .iload_n 2, 1), (57, .iload_n 3, 1), (58, .invokevirtual 247, 3), (61, .iconst 0, 1), (62, .istore 4, 2), (112, .iload 4, 2), (114, .ireturn, 1), (121, .iconst (-1), 1), (122, .ireturn, 1)]
set_option maxRecDepth 100000 in
theorem dall_X7_partner_40_pub04_1 : dchk cX7_partner dl_X7_partner_40_pub04_1 = true := by decide +kernel
theorem dX7_partner_44 : decode cX7_partner 44 = .ok (.aload_n 0, 1) := dchk_at dall_X7_partner_40_pub04_1 (k := 0) rfl
theorem dX7_partner_45 : decode cX7_partner 45 = .ok (.getfield 35, 3) := dchk_at dall_X7_partner_40_pub04_1 (k := 1) rfl
theorem dX7_partner_48 : decode cX7_partner 48 = .ok (.invokevirtual 237, 3) := dchk_at dall_X7_partner_40_pub04_1 (k := 2) rfl
theorem dX7_partner_51 : decode cX7_partner 51 = .ok (.aload_n 0, 1) := dchk_at dall_X7_partner_40_pub04_1 (k := 3) rfl
theorem dX7_partner_52 : decode cX7_partner 52 = .ok (.getfield 39, 3) := dchk_at dall_X7_partner_40_pub04_1 (k := 4) rfl
theorem dX7_partner_55 : decode cX7_partner 55 = .ok (.iload_n 1, 1) := dchk_at dall_X7_partner_40_pub04_1 (k := 5) rfl
theorem dX7_partner_56 : decode cX7_partner 56 = .ok (.iload_n 2, 1) := dchk_at dall_X7_partner_40_pub04_1 (k := 6) rfl
theorem dX7_partner_57 : decode cX7_partner 57 = .ok (.iload_n 3, 1) := dchk_at dall_X7_partner_40_pub04_1 (k := 7) rfl
theorem dX7_partner_58 : decode cX7_partner 58 = .ok (.invokevirtual 247, 3) := dchk_at dall_X7_partner_40_pub04_1 (k := 8) rfl
theorem dX7_partner_61 : decode cX7_partner 61 = .ok (.iconst 0, 1) := dchk_at dall_X7_partner_40_pub04_1 (k := 9) rfl
theorem dX7_partner_62 : decode cX7_partner 62 = .ok (.istore 4, 2) := dchk_at dall_X7_partner_40_pub04_1 (k := 10) rfl
theorem dX7_partner_112 : decode cX7_partner 112 = .ok (.iload 4, 2) := dchk_at dall_X7_partner_40_pub04_1 (k := 11) rfl
theorem dX7_partner_114 : decode cX7_partner 114 = .ok (.ireturn, 1) := dchk_at dall_X7_partner_40_pub04_1 (k := 12) rfl
theorem dX7_partner_121 : decode cX7_partner 121 = .ok (.iconst (-1), 1) := dchk_at dall_X7_partner_40_pub04_1 (k := 13) rfl
theorem dX7_partner_122 : decode cX7_partner 122 = .ok (.ireturn, 1) := dchk_at dall_X7_partner_40_pub04_1 (k := 14) rfl
def F_X7_log (p1 : Int32) (p2 : Int32) (c_now_row : Nat → Int32) (c_book_lines : Nat → Int32) : Option (Int32) :=
  if p1 < (0 : Int32) then some (-100000000 : Int32) else bd1 (F_X7_loggedActs c_now_row) (fun r_2 => if r_2 ≤ p1 then some (-100000000 : Int32) else if p2 < (0 : Int32) then some (-100000000 : Int32) else if p2 < (3 : Int32) then bd1 (F_X0_read (((c_now_row 16) - (1 : Int32)) - p1) p2 c_book_lines) (fun r_7 => some r_7) else some (-100000000 : Int32))
abbrev w_X7_log (E : EE) (a_ a_tape a_reader a_scripts a_now a_trial a_kept a_book a_keptBook a_history a_draws a_refused a_now_row a_now_partners a_now_share a_now_leftOver a_book_lines : Nat) (c_hasImage : Int32) (c_now_askedCount : Int32) (c_now_outcome : Int32) (c_now_row : Nat → Int32) (c_book_lines : Nat → Int32) : va_W := [(a_, .inr (8, [.ref a_tape, .ref a_reader, .ref a_scripts, .ref a_now, .ref a_trial, .ref a_kept, .ref a_book, .ref a_keptBook, .ref a_history, .ref a_draws, .ref a_refused, .int c_hasImage])), (a_now, .inr (6, [.ref a_now_row, .ref a_now_partners, .int c_now_askedCount, .int c_now_outcome, .ref a_now_share, .ref a_now_leftOver])), (a_now_row, .inl (E.2.1, 81, .inl c_now_row)), (a_book, .inr (1, [.ref a_book_lines])), (a_book_lines, .inl (E.2.1, 300, .inl c_book_lines))]
def v_f_X7_log : List Cond := .code yX7_log cX7_log 3 (some .int) :: ([.constant RX7 113 (-100000000), .fieldLink RX7 48 "HushWatch" "book" "LHushWatch$Book;", .fieldLink RX7 35 "HushWatch" "now" "LHushWatch$State;", .methodLink RX7 204 yX7_loggedActs, .instanceMethod yX7_loggedActs, .selects RX7 yX7_loggedActs yX7_loggedActs, .initialized RX7, .methodLink RX7 207 yX0_read, .instanceMethod yX0_read, .selects RX0 yX0_read yX0_read, .initialized RX0] ++ (v_f_X7_loggedActs ++ (wsX70 ++ (wsX50 ++ (v_f_X0_read ++ ([]))))))
theorem gw_f_X7_log : v_f_X7_log.all goodWord = true := by decide +kernel
theorem i_f_X7_log_X7 : ∀ w ∈ wsX70, w ∈ v_f_X7_log := fun _ h => List.mem_cons_of_mem _ (List.mem_append_right _ (List.mem_append_right _ (List.mem_append_left _ h)))
theorem i_f_X7_log_X5 : ∀ w ∈ wsX50, w ∈ v_f_X7_log := fun _ h => List.mem_cons_of_mem _ (List.mem_append_right _ (List.mem_append_right _ (List.mem_append_right _ (List.mem_append_left _ h))))
theorem g_f_X7_log_f_X7_loggedActs_204 : GoodIn v_f_X7_log (wsV RX7 204 RX7 yX7_loggedActs v_f_X7_loggedActs) := goodIn_app (goodIn_of _ (by decide +kernel)) (goodIn_sub (fun _ h => List.mem_cons_of_mem _ (List.mem_append_right _ (List.mem_append_left _ h))) gw_f_X7_loggedActs)
theorem g_f_X7_log_f_X0_read_207 : GoodIn v_f_X7_log (wsV RX7 207 RX0 yX0_read v_f_X0_read) := goodIn_app (goodIn_of _ (by decide +kernel)) (goodIn_sub (fun _ h => List.mem_cons_of_mem _ (List.mem_append_right _ (List.mem_append_right _ (List.mem_append_right _ (List.mem_append_right _ (List.mem_append_left _ h)))))) gw_f_X0_read)
theorem hd_X7_log : yX7_log.cls = RX7 ∧ yX7_log.cls ≠ "java/lang/invoke/MethodHandle" ∧ yX7_log.cls ≠ "java/lang/invoke/VarHandle" ∧ (parseMethodDescriptor yX7_log.desc).map (fun d => d.parameters.length) = some 2 := by decide +kernel
set_option maxHeartbeats 4000000 in
set_option maxRecDepth 100000 in
theorem f_X7_log (l : Launch) (E : EE) {a_ a_tape a_reader a_scripts a_now a_trial a_kept a_book a_keptBook a_history a_draws a_refused a_now_row a_now_partners a_now_share a_now_leftOver a_book_lines : Nat} {p1 : Int32} {p2 : Int32} {c_hasImage : Int32} {c_now_askedCount : Int32} {c_now_outcome : Int32} {c_now_row : Nat → Int32} {c_book_lines : Nat → Int32} {rr : Int32} (hF : F_X7_log p1 p2 c_now_row c_book_lines = some rr) : Met l yX7_log v_f_X7_log (({ frames := 2, cells := 0, slots := 0, locals := 44 } : Room)) (va_Pc [.ref a_, .int p1, .int p2] (pP E (w_X7_log E a_ a_tape a_reader a_scripts a_now a_trial a_kept a_book a_keptBook a_history a_draws a_refused a_now_row a_now_partners a_now_share a_now_leftOver a_book_lines c_hasImage c_now_askedCount c_now_outcome c_now_row c_book_lines))) (vp_Si (fun q : Int32 => q = rr)) 0 0 (fun _ => False) := by
  refine Met.ofW (cc := cX7_log) (maxL := 3) (ret := (some .int)) (by decide) rfl ?_
  intro p e s m args below meth c s₁ B hml hv
  obtain ⟨rfl, ⟨hK, hN⟩, hP⟩ := hv
  have hx := B.exec
  have hb := B.bytes
  have hr := B.returns
  have hts := atoms_spec (ws := v_f_X7_log) B.pre
  have hown : s.vm.findClass RX7 = some m.cls := own_of hd_X7_log.1 (findClass_of_methodNamed B.named)
  have hlocks : meth.locks = false := B.notSynchronized
  replace hP : va_P E.1 vwCl [(a_, .inr (8, [.ref a_tape, .ref a_reader, .ref a_scripts, .ref a_now, .ref a_trial, .ref a_kept, .ref a_book, .ref a_keptBook, .ref a_history, .ref a_draws, .ref a_refused, .int c_hasImage])), (a_now, .inr (6, [.ref a_now_row, .ref a_now_partners, .int c_now_askedCount, .int c_now_outcome, .ref a_now_share, .ref a_now_leftOver])), (a_now_row, .inl (E.2.1, 81, .inl c_now_row)), (a_book, .inr (1, [.ref a_book_lines])), (a_book_lines, .inl (E.2.1, 300, .inl c_book_lines))] s.heap := hP
  have hl := lv_entry ([.ref a_, .int p1, .int p2]) (n := 3) (Nat.le_of_ble_eq_true rfl)
  rw [lg_entry_eq]
  generalize (lg_sl ([.ref a_, .int p1, .int p2]) ++ List.replicate (3 - (lg_sl ([.ref a_, .int p1, .int p2])).length) Slot.unset).toArray = ls at hl ⊢
  have hl : lv_has ls 3 [(0, .ref a_), (1, .int p1), (2, .int p2)] := hl
  obtain ⟨Q, hQ⟩ : ∃ Q : State → Prop, Q = MQ below (vp_Si (fun q : Int32 => q = rr)) #[Value.ref a_, Value.int p1, Value.int p2] s 0 0 (fun _ => False) := ⟨_, rfl⟩
  rw [← hQ]
  change W p l e ({ frames := 2, cells := 0, slots := 0, locals := 44 } : Room) s m #[Value.ref a_, Value.int p1, Value.int p2] below meth c s.heap [] 0 0 Q (F0 m 0 ls [])
  unfold F_X7_log at hF
  refine lv_iload_n hx hb dX7_log_0 rfl (lv_at hl 1 rfl) ?_
  refine lv_if_lt (tgt := 21) hx hb dX7_log_1 (by decide) (fun c_1 => ?_) (fun c_1 => ?_)
  ·
    replace hF := ip c_1 hF
    refine lv_ldc (v := -100000000) hx hb hown (hts (.constant RX7 113 (-100000000)) (List.mem_of_getElem? (i := 1) rfl)) dX7_log_21 ?_
    rw [hQ]
    obtain e9_0 := inj1 hF
    exact W.iret (v := (-100000000 : Int32)) hx hb hr (fun tt ht hW => ⟨_, rfl, e9_0, ht⟩) (fun _ h => by cases h) dX7_log_23
  ·
    replace hF := inn c_1 hF
    refine lv_iload_n hx hb dX7_log_4 rfl (lv_at hl 1 rfl) ?_
    refine lv_aload_n hx hb dX7_log_5 rfl (lv_at hl 0 rfl) ?_
    replace hF := bd1_s hF
    obtain ⟨r_2, hc_3, hF⟩ := hF
    have hPc : va_P E.1 vwCl (w_X7_loggedActs E a_ a_tape a_reader a_scripts a_now a_trial a_kept a_book a_keptBook a_history a_draws a_refused a_now_row a_now_partners a_now_share a_now_leftOver c_hasImage c_now_askedCount c_now_outcome c_now_row) s.heap := hP.sub (ws' := [(a_, .inr (8, [.ref a_tape, .ref a_reader, .ref a_scripts, .ref a_now, .ref a_trial, .ref a_kept, .ref a_book, .ref a_keptBook, .ref a_history, .ref a_draws, .ref a_refused, .int c_hasImage])), (a_now, .inr (6, [.ref a_now_row, .ref a_now_partners, .int c_now_askedCount, .int c_now_outcome, .ref a_now_share, .ref a_now_leftOver])), (a_now_row, .inl (E.2.1, 81, .inl c_now_row))]) [0, 1, 2] rfl
    have hrc := va_recv hK hPc (ci := 8) (q0 := 0) rfl rfl
    refine pE_i (va_runV (As := []) (rest := [.int p1])  ⟨hx, hb, hml, hown, hts⟩ (f_X7_loggedActs l E (a_ := a_) (a_tape := a_tape) (a_reader := a_reader) (a_scripts := a_scripts) (a_now := a_now) (a_trial := a_trial) (a_kept := a_kept) (a_book := a_book) (a_keptBook := a_keptBook) (a_history := a_history) (a_draws := a_draws) (a_refused := a_refused) (a_now_row := a_now_row) (a_now_partners := a_now_partners) (a_now_share := a_now_share) (a_now_leftOver := a_now_leftOver) (c_hasImage := c_hasImage) (c_now_askedCount := c_now_askedCount) (c_now_outcome := c_now_outcome) (c_now_row := c_now_row) hc_3) (cwV 0 hts g_f_X7_log_f_X7_loggedActs_204 rfl rfl rfl hd_X7_loggedActs ⟨Nat.le_of_ble_eq_true rfl, Nat.le_of_ble_eq_true rfl⟩) ⟨pP.blind, hrc, (pP.pre ⟨hK, hN⟩ hPc)⟩ rfl rfl hl.1 rfl (lv_room (Nat.le_of_ble_eq_true rfl)) dX7_log_6 ⟨Nat.le_of_ble_eq_true rfl, Nat.le_of_ble_eq_true rfl⟩) ?_
    refine lv_icmp_ge (tgt := 21) hx hb dX7_log_9 (by decide) (fun c_4 => ?_) (fun c_4 => ?_)
    ·
      replace hF := ip c_4 hF
      refine lv_ldc (v := -100000000) hx hb hown (hts (.constant RX7 113 (-100000000)) (List.mem_of_getElem? (i := 1) rfl)) dX7_log_21 ?_
      rw [hQ]
      obtain e9_0 := inj1 hF
      exact W.iret (v := (-100000000 : Int32)) hx hb hr (fun tt ht hW => ⟨_, rfl, e9_0, ht⟩) (fun _ h => by cases h) dX7_log_23
    ·
      replace hF := inn c_4 hF
      refine lv_iload_n hx hb dX7_log_12 rfl (lv_at hl 2 rfl) ?_
      refine lv_if_lt (tgt := 21) hx hb dX7_log_13 (by decide) (fun c_5 => ?_) (fun c_5 => ?_)
      ·
        replace hF := ip c_5 hF
        refine lv_ldc (v := -100000000) hx hb hown (hts (.constant RX7 113 (-100000000)) (List.mem_of_getElem? (i := 1) rfl)) dX7_log_21 ?_
        rw [hQ]
        obtain e9_0 := inj1 hF
        exact W.iret (v := (-100000000 : Int32)) hx hb hr (fun tt ht hW => ⟨_, rfl, e9_0, ht⟩) (fun _ h => by cases h) dX7_log_23
      ·
        replace hF := inn c_5 hF
        refine lv_iload_n hx hb dX7_log_16 rfl (lv_at hl 2 rfl) ?_
        refine lv_iconst (v := 3) hx hb dX7_log_17 (by decide) ?_
        refine lv_icmp_lt (tgt := 24) hx hb dX7_log_18 (by decide) (fun c_6 => ?_) (fun c_6 => ?_)
        ·
          replace hF := ip c_6 hF
          refine lv_aload_n hx hb dX7_log_24 rfl (lv_at hl 0 rfl) ?_
          refine gt_X7_6 (v := .ref a_book) hx hb hts i_f_X7_log_X7 hown hK hP 0 rfl (hts (.fieldLink RX7 48 "HushWatch" "book" "LHushWatch$Book;") (List.mem_of_getElem? (i := 2) rfl)) rfl dX7_log_25 ?_
          refine lv_aload_n hx hb dX7_log_28 rfl (lv_at hl 0 rfl) ?_
          refine gt_X7_3 (v := .ref a_now) hx hb hts i_f_X7_log_X7 hown hK hP 0 rfl (hts (.fieldLink RX7 35 "HushWatch" "now" "LHushWatch$State;") (List.mem_of_getElem? (i := 3) rfl)) rfl dX7_log_29 ?_
          refine va_getN (D := E.1) (ci := 6) (v := .ref a_now_row) (C := RX5) (T := TX5) (N := 6) hx hb hts i_f_X7_log_X5 hown hK hP 1 rfl rfl 0 (by decide) (nx hN 12 rfl) (fun _ h9 => h9) rfl dX7_log_32 ?_
          refine lv_bipush (v := 16) hx hb dX7_log_35 (by decide) ?_
          refine va_iald hx hb hK hP 2 0 rfl rfl (vin rfl) dX7_log_37 ?_
          refine W.eq (g2 := F0 m 38 ls [.int (c_now_row 16), .ref a_book]) rfl ?_
          refine lv_iconst (v := 1) hx hb dX7_log_38 (by decide) ?_
          refine lv_isub hx hb dX7_log_39 ?_
          refine lv_iload_n hx hb dX7_log_40 rfl (lv_at hl 1 rfl) ?_
          refine lv_isub hx hb dX7_log_41 ?_
          refine lv_iload_n hx hb dX7_log_42 rfl (lv_at hl 2 rfl) ?_
          replace hF := bd1_s hF
          obtain ⟨r_7, hc_8, hF⟩ := hF
          have hPc : va_P E.1 vwCl (w_X0_read E a_book a_book_lines c_book_lines) s.heap := hP.sub (ws' := [(a_book, .inr (1, [.ref a_book_lines])), (a_book_lines, .inl (E.2.1, 300, .inl c_book_lines))]) [3, 4] rfl
          have hrc := va_recv hK hPc (ci := 1) (q0 := 0) rfl rfl
          refine pE_i (va_runV (As := [.int (((c_now_row 16) - (1 : Int32)) - p1), .int p2]) (rest := [])  ⟨hx, hb, hml, hown, hts⟩ (f_X0_read l E (a_ := a_book) (a_lines := a_book_lines) (p1 := ((c_now_row 16) - (1 : Int32)) - p1) (p2 := p2) (c_lines := c_book_lines) hc_8) (cwV 2 hts g_f_X7_log_f_X0_read_207 rfl rfl rfl hd_X0_read ⟨Nat.le_of_ble_eq_true rfl, Nat.le_of_ble_eq_true rfl⟩) ⟨pP.blind, hrc, (pP.pre ⟨hK, hN⟩ hPc)⟩ rfl rfl hl.1 rfl (lv_room (Nat.le_of_ble_eq_true rfl)) dX7_log_43 ⟨Nat.le_of_ble_eq_true rfl, Nat.le_of_ble_eq_true rfl⟩) ?_
          rw [hQ]
          obtain e9_0 := inj1 hF
          exact W.iret (v := r_7) hx hb hr (fun tt ht hW => ⟨_, rfl, e9_0, ht⟩) (fun _ h => by cases h) dX7_log_46
        ·
          replace hF := inn c_6 hF
          refine lv_ldc (v := -100000000) hx hb hown (hts (.constant RX7 113 (-100000000)) (List.mem_of_getElem? (i := 1) rfl)) dX7_log_21 ?_
          rw [hQ]
          obtain e9_0 := inj1 hF
          exact W.iret (v := (-100000000 : Int32)) hx hb hr (fun tt ht hW => ⟨_, rfl, e9_0, ht⟩) (fun _ h => by cases h) dX7_log_23

def F_X7_most (K : Nat) (p1 : Int32) (c_now_row : Nat → Int32) : Option (Int32) :=
  bd1 (F_X5_stands c_now_row) (fun r_1 => if r_1 = (0 : Int32) then some (-100000000 : Int32) else if p1 = (0 : Int32) then some (c_now_row 11) else if p1 = (1 : Int32) then some (c_now_row 12) else if p1 = (2 : Int32) then some (c_now_row 13) else if p1 = (3 : Int32) then some (c_now_row 14) else if p1 = (4 : Int32) then some (c_now_row 15) else if p1 = (5 : Int32) then some (c_now_row 6) else if p1 = (6 : Int32) then bd1 (F_X5_quietSites K c_now_row) (fun r_6 => some r_6) else if p1 = (7 : Int32) then bd1 (F_X5_slackSites K c_now_row) (fun r_8 => some r_8) else if p1 = (8 : Int32) then bd1 (F_X5_total K (4 : Int32) c_now_row) (fun r_10 => some r_10) else if p1 = (9 : Int32) then bd1 (F_X5_total K (5 : Int32) c_now_row) (fun r_12 => some r_12) else if p1 = (10 : Int32) then bd1 (F_X5_unmovedSites K c_now_row) (fun r_14 => some r_14) else if p1 = (11 : Int32) then some (c_now_row 7) else some (-100000000 : Int32))
abbrev w_X7_most (E : EE) (a_ a_tape a_reader a_scripts a_now a_trial a_kept a_book a_keptBook a_history a_draws a_refused a_now_row a_now_partners a_now_share a_now_leftOver : Nat) (c_hasImage : Int32) (c_now_askedCount : Int32) (c_now_outcome : Int32) (c_now_row : Nat → Int32) : va_W := [(a_, .inr (8, [.ref a_tape, .ref a_reader, .ref a_scripts, .ref a_now, .ref a_trial, .ref a_kept, .ref a_book, .ref a_keptBook, .ref a_history, .ref a_draws, .ref a_refused, .int c_hasImage])), (a_now, .inr (6, [.ref a_now_row, .ref a_now_partners, .int c_now_askedCount, .int c_now_outcome, .ref a_now_share, .ref a_now_leftOver])), (a_now_row, .inl (E.2.1, 81, .inl c_now_row))]
def v_f_X7_most : List Cond := .code yX7_most cX7_most 2 (some .int) :: ([.fieldLink RX7 35 "HushWatch" "now" "LHushWatch$State;", .constant RX7 113 (-100000000), .methodLink RX7 110 yX5_stands, .instanceMethod yX5_stands, .selects RX5 yX5_stands yX5_stands, .initialized RX5, .methodLink RX7 302 yX5_quietSites, .instanceMethod yX5_quietSites, .selects RX5 yX5_quietSites yX5_quietSites, .methodLink RX7 305 yX5_slackSites, .instanceMethod yX5_slackSites, .selects RX5 yX5_slackSites yX5_slackSites, .methodLink RX7 160 yX5_total, .instanceMethod yX5_total, .selects RX5 yX5_total yX5_total, .methodLink RX7 308 yX5_unmovedSites, .instanceMethod yX5_unmovedSites, .selects RX5 yX5_unmovedSites yX5_unmovedSites] ++ (wsX70 ++ (v_f_X5_stands ++ (wsX50 ++ (v_f_X5_quietSites ++ (v_f_X5_slackSites ++ (v_f_X5_total ++ (v_f_X5_unmovedSites ++ ([])))))))))
theorem gw_f_X7_most : v_f_X7_most.all goodWord = true := by decide +kernel
theorem i_f_X7_most_X7 : ∀ w ∈ wsX70, w ∈ v_f_X7_most := fun _ h => List.mem_cons_of_mem _ (List.mem_append_right _ (List.mem_append_left _ h))
theorem i_f_X7_most_X5 : ∀ w ∈ wsX50, w ∈ v_f_X7_most := fun _ h => List.mem_cons_of_mem _ (List.mem_append_right _ (List.mem_append_right _ (List.mem_append_right _ (List.mem_append_left _ h))))
theorem g_f_X7_most_f_X5_stands_110 : GoodIn v_f_X7_most (wsV RX7 110 RX5 yX5_stands v_f_X5_stands) := goodIn_app (goodIn_of _ (by decide +kernel)) (goodIn_sub (fun _ h => List.mem_cons_of_mem _ (List.mem_append_right _ (List.mem_append_right _ (List.mem_append_left _ h)))) gw_f_X5_stands)
theorem g_f_X7_most_f_X5_quietSites_302 : GoodIn v_f_X7_most (wsV RX7 302 RX5 yX5_quietSites v_f_X5_quietSites) := goodIn_app (goodIn_of _ (by decide +kernel)) (goodIn_sub (fun _ h => List.mem_cons_of_mem _ (List.mem_append_right _ (List.mem_append_right _ (List.mem_append_right _ (List.mem_append_right _ (List.mem_append_left _ h)))))) gw_f_X5_quietSites)
theorem g_f_X7_most_f_X5_slackSites_305 : GoodIn v_f_X7_most (wsV RX7 305 RX5 yX5_slackSites v_f_X5_slackSites) := goodIn_app (goodIn_of _ (by decide +kernel)) (goodIn_sub (fun _ h => List.mem_cons_of_mem _ (List.mem_append_right _ (List.mem_append_right _ (List.mem_append_right _ (List.mem_append_right _ (List.mem_append_right _ (List.mem_append_left _ h))))))) gw_f_X5_slackSites)
theorem g_f_X7_most_f_X5_total_160 : GoodIn v_f_X7_most (wsV RX7 160 RX5 yX5_total v_f_X5_total) := goodIn_app (goodIn_of _ (by decide +kernel)) (goodIn_sub (fun _ h => List.mem_cons_of_mem _ (List.mem_append_right _ (List.mem_append_right _ (List.mem_append_right _ (List.mem_append_right _ (List.mem_append_right _ (List.mem_append_right _ (List.mem_append_left _ h)))))))) gw_f_X5_total)
theorem g_f_X7_most_f_X5_unmovedSites_308 : GoodIn v_f_X7_most (wsV RX7 308 RX5 yX5_unmovedSites v_f_X5_unmovedSites) := goodIn_app (goodIn_of _ (by decide +kernel)) (goodIn_sub (fun _ h => List.mem_cons_of_mem _ (List.mem_append_right _ (List.mem_append_right _ (List.mem_append_right _ (List.mem_append_right _ (List.mem_append_right _ (List.mem_append_right _ (List.mem_append_right _ (List.mem_append_left _ h))))))))) gw_f_X5_unmovedSites)
theorem hd_X7_most : yX7_most.cls = RX7 ∧ yX7_most.cls ≠ "java/lang/invoke/MethodHandle" ∧ yX7_most.cls ≠ "java/lang/invoke/VarHandle" ∧ (parseMethodDescriptor yX7_most.desc).map (fun d => d.parameters.length) = some 1 := by decide +kernel
set_option maxHeartbeats 4000000 in
set_option maxRecDepth 100000 in
theorem f_X7_most (l : Launch) (E : EE) (K : Nat) {a_ a_tape a_reader a_scripts a_now a_trial a_kept a_book a_keptBook a_history a_draws a_refused a_now_row a_now_partners a_now_share a_now_leftOver : Nat} {p1 : Int32} {c_hasImage : Int32} {c_now_askedCount : Int32} {c_now_outcome : Int32} {c_now_row : Nat → Int32} {rr : Int32} (hF : F_X7_most K p1 c_now_row = some rr) : Met l yX7_most v_f_X7_most (({ frames := 4, cells := 0, slots := 0, locals := 93 } : Room)) (va_Pc [.ref a_, .int p1] (pP E (w_X7_most E a_ a_tape a_reader a_scripts a_now a_trial a_kept a_book a_keptBook a_history a_draws a_refused a_now_row a_now_partners a_now_share a_now_leftOver c_hasImage c_now_askedCount c_now_outcome c_now_row))) (vp_Si (fun q : Int32 => q = rr)) 0 0 (fun _ => False) := by
  refine Met.ofW (cc := cX7_most) (maxL := 2) (ret := (some .int)) (by decide) rfl ?_
  intro p e s m args below meth c s₁ B hml hv
  obtain ⟨rfl, ⟨hK, hN⟩, hP⟩ := hv
  have hx := B.exec
  have hb := B.bytes
  have hr := B.returns
  have hts := atoms_spec (ws := v_f_X7_most) B.pre
  have hown : s.vm.findClass RX7 = some m.cls := own_of hd_X7_most.1 (findClass_of_methodNamed B.named)
  have hlocks : meth.locks = false := B.notSynchronized
  replace hP : va_P E.1 vwCl [(a_, .inr (8, [.ref a_tape, .ref a_reader, .ref a_scripts, .ref a_now, .ref a_trial, .ref a_kept, .ref a_book, .ref a_keptBook, .ref a_history, .ref a_draws, .ref a_refused, .int c_hasImage])), (a_now, .inr (6, [.ref a_now_row, .ref a_now_partners, .int c_now_askedCount, .int c_now_outcome, .ref a_now_share, .ref a_now_leftOver])), (a_now_row, .inl (E.2.1, 81, .inl c_now_row))] s.heap := hP
  have hl := lv_entry ([.ref a_, .int p1]) (n := 2) (Nat.le_of_ble_eq_true rfl)
  rw [lg_entry_eq]
  generalize (lg_sl ([.ref a_, .int p1]) ++ List.replicate (2 - (lg_sl ([.ref a_, .int p1])).length) Slot.unset).toArray = ls at hl ⊢
  have hl : lv_has ls 2 [(0, .ref a_), (1, .int p1)] := hl
  obtain ⟨Q, hQ⟩ : ∃ Q : State → Prop, Q = MQ below (vp_Si (fun q : Int32 => q = rr)) #[Value.ref a_, Value.int p1] s 0 0 (fun _ => False) := ⟨_, rfl⟩
  rw [← hQ]
  change W p l e ({ frames := 4, cells := 0, slots := 0, locals := 93 } : Room) s m #[Value.ref a_, Value.int p1] below meth c s.heap [] 0 0 Q (F0 m 0 ls [])
  unfold F_X7_most at hF
  refine lv_aload_n hx hb dX7_most_0 rfl (lv_at hl 0 rfl) ?_
  refine gt_X7_3 (v := .ref a_now) hx hb hts i_f_X7_most_X7 hown hK hP 0 rfl (hts (.fieldLink RX7 35 "HushWatch" "now" "LHushWatch$State;") (List.mem_of_getElem? (i := 1) rfl)) rfl dX7_most_1 ?_
  replace hF := bd1_s hF
  obtain ⟨r_1, hc_2, hF⟩ := hF
  have hPc : va_P E.1 vwCl (w_X5_stands E a_now a_now_row a_now_partners a_now_share a_now_leftOver c_now_askedCount c_now_outcome c_now_row) s.heap := hP.sub (ws' := [(a_now, .inr (6, [.ref a_now_row, .ref a_now_partners, .int c_now_askedCount, .int c_now_outcome, .ref a_now_share, .ref a_now_leftOver])), (a_now_row, .inl (E.2.1, 81, .inl c_now_row))]) [1, 2] rfl
  have hrc := va_recv hK hPc (ci := 6) (q0 := 0) rfl rfl
  refine pE_z (va_runV (As := []) (rest := [])  ⟨hx, hb, hml, hown, hts⟩ (f_X5_stands l E (a_ := a_now) (a_row := a_now_row) (a_partners := a_now_partners) (a_share := a_now_share) (a_leftOver := a_now_leftOver) (c_askedCount := c_now_askedCount) (c_outcome := c_now_outcome) (c_row := c_now_row) hc_2) (cwV 0 hts g_f_X7_most_f_X5_stands_110 rfl rfl rfl hd_X5_stands ⟨Nat.le_of_ble_eq_true rfl, Nat.le_of_ble_eq_true rfl⟩) ⟨pP.blind, hrc, (pP.pre ⟨hK, hN⟩ hPc)⟩ rfl rfl hl.1 rfl (lv_room (Nat.le_of_ble_eq_true rfl)) dX7_most_4 ⟨Nat.le_of_ble_eq_true rfl, Nat.le_of_ble_eq_true rfl⟩) (fun hb_3 => ?_)
  refine lv_if_ne (tgt := 13) hx hb dX7_most_7 (by decide) (fun c_4 => ?_) (fun c_4 => ?_)
  ·
    replace hF := inn c_4 hF
    refine lv_iload_n hx hb dX7_most_13 rfl (lv_at hl 1 rfl) ?_
    rcases Classical.em (p1 = (0 : Int32)) with c_5_0 | c_5_0
    ·
      replace hF := ip c_5_0 hF
      refine lv_tableIn (off := 62) (tgt := 76) hx hb dX7_most_14 (by rw [c_5_0]; decide) (by rw [c_5_0]; decide) (by rw [c_5_0]; decide) (by decide) ?_
      refine lv_aload_n hx hb dX7_most_76 rfl (lv_at hl 0 rfl) ?_
      refine gt_X7_3 (v := .ref a_now) hx hb hts i_f_X7_most_X7 hown hK hP 0 rfl (hts (.fieldLink RX7 35 "HushWatch" "now" "LHushWatch$State;") (List.mem_of_getElem? (i := 1) rfl)) rfl dX7_most_77 ?_
      refine va_getN (D := E.1) (ci := 6) (v := .ref a_now_row) (C := RX5) (T := TX5) (N := 6) hx hb hts i_f_X7_most_X5 hown hK hP 1 rfl rfl 0 (by decide) (nx hN 12 rfl) (fun _ h9 => h9) rfl dX7_most_80 ?_
      refine lv_bipush (v := 11) hx hb dX7_most_83 (by decide) ?_
      refine va_iald hx hb hK hP 2 0 rfl rfl (vin rfl) dX7_most_85 ?_
      refine W.eq (g2 := F0 m 86 ls [.int (c_now_row 11)]) rfl ?_
      rw [hQ]
      obtain e9_0 := inj1 hF
      exact W.iret (v := c_now_row 11) hx hb hr (fun tt ht hW => ⟨_, rfl, e9_0, ht⟩) (fun _ h => by cases h) dX7_most_86
    replace hF := inn c_5_0 hF
    rcases Classical.em (p1 = (1 : Int32)) with c_5_1 | c_5_1
    ·
      replace hF := ip c_5_1 hF
      refine lv_tableIn (off := 73) (tgt := 87) hx hb dX7_most_14 (by rw [c_5_1]; decide) (by rw [c_5_1]; decide) (by rw [c_5_1]; decide) (by decide) ?_
      refine lv_aload_n hx hb dX7_most_87 rfl (lv_at hl 0 rfl) ?_
      refine gt_X7_3 (v := .ref a_now) hx hb hts i_f_X7_most_X7 hown hK hP 0 rfl (hts (.fieldLink RX7 35 "HushWatch" "now" "LHushWatch$State;") (List.mem_of_getElem? (i := 1) rfl)) rfl dX7_most_88 ?_
      refine va_getN (D := E.1) (ci := 6) (v := .ref a_now_row) (C := RX5) (T := TX5) (N := 6) hx hb hts i_f_X7_most_X5 hown hK hP 1 rfl rfl 0 (by decide) (nx hN 12 rfl) (fun _ h9 => h9) rfl dX7_most_91 ?_
      refine lv_bipush (v := 12) hx hb dX7_most_94 (by decide) ?_
      refine va_iald hx hb hK hP 2 0 rfl rfl (vin rfl) dX7_most_96 ?_
      refine W.eq (g2 := F0 m 97 ls [.int (c_now_row 12)]) rfl ?_
      rw [hQ]
      obtain e9_0 := inj1 hF
      exact W.iret (v := c_now_row 12) hx hb hr (fun tt ht hW => ⟨_, rfl, e9_0, ht⟩) (fun _ h => by cases h) dX7_most_97
    replace hF := inn c_5_1 hF
    rcases Classical.em (p1 = (2 : Int32)) with c_5_2 | c_5_2
    ·
      replace hF := ip c_5_2 hF
      refine lv_tableIn (off := 84) (tgt := 98) hx hb dX7_most_14 (by rw [c_5_2]; decide) (by rw [c_5_2]; decide) (by rw [c_5_2]; decide) (by decide) ?_
      refine lv_aload_n hx hb dX7_most_98 rfl (lv_at hl 0 rfl) ?_
      refine gt_X7_3 (v := .ref a_now) hx hb hts i_f_X7_most_X7 hown hK hP 0 rfl (hts (.fieldLink RX7 35 "HushWatch" "now" "LHushWatch$State;") (List.mem_of_getElem? (i := 1) rfl)) rfl dX7_most_99 ?_
      refine va_getN (D := E.1) (ci := 6) (v := .ref a_now_row) (C := RX5) (T := TX5) (N := 6) hx hb hts i_f_X7_most_X5 hown hK hP 1 rfl rfl 0 (by decide) (nx hN 12 rfl) (fun _ h9 => h9) rfl dX7_most_102 ?_
      refine lv_bipush (v := 13) hx hb dX7_most_105 (by decide) ?_
      refine va_iald hx hb hK hP 2 0 rfl rfl (vin rfl) dX7_most_107 ?_
      refine W.eq (g2 := F0 m 108 ls [.int (c_now_row 13)]) rfl ?_
      rw [hQ]
      obtain e9_0 := inj1 hF
      exact W.iret (v := c_now_row 13) hx hb hr (fun tt ht hW => ⟨_, rfl, e9_0, ht⟩) (fun _ h => by cases h) dX7_most_108
    replace hF := inn c_5_2 hF
    rcases Classical.em (p1 = (3 : Int32)) with c_5_3 | c_5_3
    ·
      replace hF := ip c_5_3 hF
      refine lv_tableIn (off := 95) (tgt := 109) hx hb dX7_most_14 (by rw [c_5_3]; decide) (by rw [c_5_3]; decide) (by rw [c_5_3]; decide) (by decide) ?_
      refine lv_aload_n hx hb dX7_most_109 rfl (lv_at hl 0 rfl) ?_
      refine gt_X7_3 (v := .ref a_now) hx hb hts i_f_X7_most_X7 hown hK hP 0 rfl (hts (.fieldLink RX7 35 "HushWatch" "now" "LHushWatch$State;") (List.mem_of_getElem? (i := 1) rfl)) rfl dX7_most_110 ?_
      refine va_getN (D := E.1) (ci := 6) (v := .ref a_now_row) (C := RX5) (T := TX5) (N := 6) hx hb hts i_f_X7_most_X5 hown hK hP 1 rfl rfl 0 (by decide) (nx hN 12 rfl) (fun _ h9 => h9) rfl dX7_most_113 ?_
      refine lv_bipush (v := 14) hx hb dX7_most_116 (by decide) ?_
      refine va_iald hx hb hK hP 2 0 rfl rfl (vin rfl) dX7_most_118 ?_
      refine W.eq (g2 := F0 m 119 ls [.int (c_now_row 14)]) rfl ?_
      rw [hQ]
      obtain e9_0 := inj1 hF
      exact W.iret (v := c_now_row 14) hx hb hr (fun tt ht hW => ⟨_, rfl, e9_0, ht⟩) (fun _ h => by cases h) dX7_most_119
    replace hF := inn c_5_3 hF
    rcases Classical.em (p1 = (4 : Int32)) with c_5_4 | c_5_4
    ·
      replace hF := ip c_5_4 hF
      refine lv_tableIn (off := 106) (tgt := 120) hx hb dX7_most_14 (by rw [c_5_4]; decide) (by rw [c_5_4]; decide) (by rw [c_5_4]; decide) (by decide) ?_
      refine lv_aload_n hx hb dX7_most_120 rfl (lv_at hl 0 rfl) ?_
      refine gt_X7_3 (v := .ref a_now) hx hb hts i_f_X7_most_X7 hown hK hP 0 rfl (hts (.fieldLink RX7 35 "HushWatch" "now" "LHushWatch$State;") (List.mem_of_getElem? (i := 1) rfl)) rfl dX7_most_121 ?_
      refine va_getN (D := E.1) (ci := 6) (v := .ref a_now_row) (C := RX5) (T := TX5) (N := 6) hx hb hts i_f_X7_most_X5 hown hK hP 1 rfl rfl 0 (by decide) (nx hN 12 rfl) (fun _ h9 => h9) rfl dX7_most_124 ?_
      refine lv_bipush (v := 15) hx hb dX7_most_127 (by decide) ?_
      refine va_iald hx hb hK hP 2 0 rfl rfl (vin rfl) dX7_most_129 ?_
      refine W.eq (g2 := F0 m 130 ls [.int (c_now_row 15)]) rfl ?_
      rw [hQ]
      obtain e9_0 := inj1 hF
      exact W.iret (v := c_now_row 15) hx hb hr (fun tt ht hW => ⟨_, rfl, e9_0, ht⟩) (fun _ h => by cases h) dX7_most_130
    replace hF := inn c_5_4 hF
    rcases Classical.em (p1 = (5 : Int32)) with c_5_5 | c_5_5
    ·
      replace hF := ip c_5_5 hF
      refine lv_tableIn (off := 117) (tgt := 131) hx hb dX7_most_14 (by rw [c_5_5]; decide) (by rw [c_5_5]; decide) (by rw [c_5_5]; decide) (by decide) ?_
      refine lv_aload_n hx hb dX7_most_131 rfl (lv_at hl 0 rfl) ?_
      refine gt_X7_3 (v := .ref a_now) hx hb hts i_f_X7_most_X7 hown hK hP 0 rfl (hts (.fieldLink RX7 35 "HushWatch" "now" "LHushWatch$State;") (List.mem_of_getElem? (i := 1) rfl)) rfl dX7_most_132 ?_
      refine va_getN (D := E.1) (ci := 6) (v := .ref a_now_row) (C := RX5) (T := TX5) (N := 6) hx hb hts i_f_X7_most_X5 hown hK hP 1 rfl rfl 0 (by decide) (nx hN 12 rfl) (fun _ h9 => h9) rfl dX7_most_135 ?_
      refine lv_bipush (v := 6) hx hb dX7_most_138 (by decide) ?_
      refine va_iald hx hb hK hP 2 0 rfl rfl (vin rfl) dX7_most_140 ?_
      refine W.eq (g2 := F0 m 141 ls [.int (c_now_row 6)]) rfl ?_
      rw [hQ]
      obtain e9_0 := inj1 hF
      exact W.iret (v := c_now_row 6) hx hb hr (fun tt ht hW => ⟨_, rfl, e9_0, ht⟩) (fun _ h => by cases h) dX7_most_141
    replace hF := inn c_5_5 hF
    rcases Classical.em (p1 = (6 : Int32)) with c_5_6 | c_5_6
    ·
      replace hF := ip c_5_6 hF
      refine lv_tableIn (off := 128) (tgt := 142) hx hb dX7_most_14 (by rw [c_5_6]; decide) (by rw [c_5_6]; decide) (by rw [c_5_6]; decide) (by decide) ?_
      refine lv_aload_n hx hb dX7_most_142 rfl (lv_at hl 0 rfl) ?_
      refine gt_X7_3 (v := .ref a_now) hx hb hts i_f_X7_most_X7 hown hK hP 0 rfl (hts (.fieldLink RX7 35 "HushWatch" "now" "LHushWatch$State;") (List.mem_of_getElem? (i := 1) rfl)) rfl dX7_most_143 ?_
      replace hF := bd1_s hF
      obtain ⟨r_6, hc_7, hF⟩ := hF
      have hPc : va_P E.1 vwCl (w_X5_quietSites E a_now a_now_row a_now_partners a_now_share a_now_leftOver c_now_askedCount c_now_outcome c_now_row) s.heap := hP.sub (ws' := [(a_now, .inr (6, [.ref a_now_row, .ref a_now_partners, .int c_now_askedCount, .int c_now_outcome, .ref a_now_share, .ref a_now_leftOver])), (a_now_row, .inl (E.2.1, 81, .inl c_now_row))]) [1, 2] rfl
      have hrc := va_recv hK hPc (ci := 6) (q0 := 0) rfl rfl
      refine pE_i (va_runV (As := []) (rest := [])  ⟨hx, hb, hml, hown, hts⟩ (f_X5_quietSites l E K (a_ := a_now) (a_row := a_now_row) (a_partners := a_now_partners) (a_share := a_now_share) (a_leftOver := a_now_leftOver) (c_askedCount := c_now_askedCount) (c_outcome := c_now_outcome) (c_row := c_now_row) hc_7) (cwV 0 hts g_f_X7_most_f_X5_quietSites_302 rfl rfl rfl hd_X5_quietSites ⟨Nat.le_of_ble_eq_true rfl, Nat.le_of_ble_eq_true rfl⟩) ⟨pP.blind, hrc, (pP.pre ⟨hK, hN⟩ hPc)⟩ rfl rfl hl.1 rfl (lv_room (Nat.le_of_ble_eq_true rfl)) dX7_most_146 ⟨Nat.le_of_ble_eq_true rfl, Nat.le_of_ble_eq_true rfl⟩) ?_
      rw [hQ]
      obtain e9_0 := inj1 hF
      exact W.iret (v := r_6) hx hb hr (fun tt ht hW => ⟨_, rfl, e9_0, ht⟩) (fun _ h => by cases h) dX7_most_149
    replace hF := inn c_5_6 hF
    rcases Classical.em (p1 = (7 : Int32)) with c_5_7 | c_5_7
    ·
      replace hF := ip c_5_7 hF
      refine lv_tableIn (off := 136) (tgt := 150) hx hb dX7_most_14 (by rw [c_5_7]; decide) (by rw [c_5_7]; decide) (by rw [c_5_7]; decide) (by decide) ?_
      refine lv_aload_n hx hb dX7_most_150 rfl (lv_at hl 0 rfl) ?_
      refine gt_X7_3 (v := .ref a_now) hx hb hts i_f_X7_most_X7 hown hK hP 0 rfl (hts (.fieldLink RX7 35 "HushWatch" "now" "LHushWatch$State;") (List.mem_of_getElem? (i := 1) rfl)) rfl dX7_most_151 ?_
      replace hF := bd1_s hF
      obtain ⟨r_8, hc_9, hF⟩ := hF
      have hPc : va_P E.1 vwCl (w_X5_slackSites E a_now a_now_row a_now_partners a_now_share a_now_leftOver c_now_askedCount c_now_outcome c_now_row) s.heap := hP.sub (ws' := [(a_now, .inr (6, [.ref a_now_row, .ref a_now_partners, .int c_now_askedCount, .int c_now_outcome, .ref a_now_share, .ref a_now_leftOver])), (a_now_row, .inl (E.2.1, 81, .inl c_now_row))]) [1, 2] rfl
      have hrc := va_recv hK hPc (ci := 6) (q0 := 0) rfl rfl
      refine pE_i (va_runV (As := []) (rest := [])  ⟨hx, hb, hml, hown, hts⟩ (f_X5_slackSites l E K (a_ := a_now) (a_row := a_now_row) (a_partners := a_now_partners) (a_share := a_now_share) (a_leftOver := a_now_leftOver) (c_askedCount := c_now_askedCount) (c_outcome := c_now_outcome) (c_row := c_now_row) hc_9) (cwV 0 hts g_f_X7_most_f_X5_slackSites_305 rfl rfl rfl hd_X5_slackSites ⟨Nat.le_of_ble_eq_true rfl, Nat.le_of_ble_eq_true rfl⟩) ⟨pP.blind, hrc, (pP.pre ⟨hK, hN⟩ hPc)⟩ rfl rfl hl.1 rfl (lv_room (Nat.le_of_ble_eq_true rfl)) dX7_most_154 ⟨Nat.le_of_ble_eq_true rfl, Nat.le_of_ble_eq_true rfl⟩) ?_
      rw [hQ]
      obtain e9_0 := inj1 hF
      exact W.iret (v := r_8) hx hb hr (fun tt ht hW => ⟨_, rfl, e9_0, ht⟩) (fun _ h => by cases h) dX7_most_157
    replace hF := inn c_5_7 hF
    rcases Classical.em (p1 = (8 : Int32)) with c_5_8 | c_5_8
    ·
      replace hF := ip c_5_8 hF
      refine lv_tableIn (off := 144) (tgt := 158) hx hb dX7_most_14 (by rw [c_5_8]; decide) (by rw [c_5_8]; decide) (by rw [c_5_8]; decide) (by decide) ?_
      refine lv_aload_n hx hb dX7_most_158 rfl (lv_at hl 0 rfl) ?_
      refine gt_X7_3 (v := .ref a_now) hx hb hts i_f_X7_most_X7 hown hK hP 0 rfl (hts (.fieldLink RX7 35 "HushWatch" "now" "LHushWatch$State;") (List.mem_of_getElem? (i := 1) rfl)) rfl dX7_most_159 ?_
      refine lv_iconst (v := 4) hx hb dX7_most_162 (by decide) ?_
      replace hF := bd1_s hF
      obtain ⟨r_10, hc_11, hF⟩ := hF
      have hPc : va_P E.1 vwCl (w_X5_total E a_now a_now_row a_now_partners a_now_share a_now_leftOver c_now_askedCount c_now_outcome c_now_row) s.heap := hP.sub (ws' := [(a_now, .inr (6, [.ref a_now_row, .ref a_now_partners, .int c_now_askedCount, .int c_now_outcome, .ref a_now_share, .ref a_now_leftOver])), (a_now_row, .inl (E.2.1, 81, .inl c_now_row))]) [1, 2] rfl
      have hrc := va_recv hK hPc (ci := 6) (q0 := 0) rfl rfl
      refine pE_i (va_runV (As := [.int (4 : Int32)]) (rest := [])  ⟨hx, hb, hml, hown, hts⟩ (f_X5_total l E K (a_ := a_now) (a_row := a_now_row) (a_partners := a_now_partners) (a_share := a_now_share) (a_leftOver := a_now_leftOver) (p1 := (4 : Int32)) (c_askedCount := c_now_askedCount) (c_outcome := c_now_outcome) (c_row := c_now_row) hc_11) (cwV 1 hts g_f_X7_most_f_X5_total_160 rfl rfl rfl hd_X5_total ⟨Nat.le_of_ble_eq_true rfl, Nat.le_of_ble_eq_true rfl⟩) ⟨pP.blind, hrc, (pP.pre ⟨hK, hN⟩ hPc)⟩ rfl rfl hl.1 rfl (lv_room (Nat.le_of_ble_eq_true rfl)) dX7_most_163 ⟨Nat.le_of_ble_eq_true rfl, Nat.le_of_ble_eq_true rfl⟩) ?_
      rw [hQ]
      obtain e9_0 := inj1 hF
      exact W.iret (v := r_10) hx hb hr (fun tt ht hW => ⟨_, rfl, e9_0, ht⟩) (fun _ h => by cases h) dX7_most_166
    replace hF := inn c_5_8 hF
    rcases Classical.em (p1 = (9 : Int32)) with c_5_9 | c_5_9
    ·
      replace hF := ip c_5_9 hF
      refine lv_tableIn (off := 153) (tgt := 167) hx hb dX7_most_14 (by rw [c_5_9]; decide) (by rw [c_5_9]; decide) (by rw [c_5_9]; decide) (by decide) ?_
      refine lv_aload_n hx hb dX7_most_167 rfl (lv_at hl 0 rfl) ?_
      refine gt_X7_3 (v := .ref a_now) hx hb hts i_f_X7_most_X7 hown hK hP 0 rfl (hts (.fieldLink RX7 35 "HushWatch" "now" "LHushWatch$State;") (List.mem_of_getElem? (i := 1) rfl)) rfl dX7_most_168 ?_
      refine lv_iconst (v := 5) hx hb dX7_most_171 (by decide) ?_
      replace hF := bd1_s hF
      obtain ⟨r_12, hc_13, hF⟩ := hF
      have hPc : va_P E.1 vwCl (w_X5_total E a_now a_now_row a_now_partners a_now_share a_now_leftOver c_now_askedCount c_now_outcome c_now_row) s.heap := hP.sub (ws' := [(a_now, .inr (6, [.ref a_now_row, .ref a_now_partners, .int c_now_askedCount, .int c_now_outcome, .ref a_now_share, .ref a_now_leftOver])), (a_now_row, .inl (E.2.1, 81, .inl c_now_row))]) [1, 2] rfl
      have hrc := va_recv hK hPc (ci := 6) (q0 := 0) rfl rfl
      refine pE_i (va_runV (As := [.int (5 : Int32)]) (rest := [])  ⟨hx, hb, hml, hown, hts⟩ (f_X5_total l E K (a_ := a_now) (a_row := a_now_row) (a_partners := a_now_partners) (a_share := a_now_share) (a_leftOver := a_now_leftOver) (p1 := (5 : Int32)) (c_askedCount := c_now_askedCount) (c_outcome := c_now_outcome) (c_row := c_now_row) hc_13) (cwV 1 hts g_f_X7_most_f_X5_total_160 rfl rfl rfl hd_X5_total ⟨Nat.le_of_ble_eq_true rfl, Nat.le_of_ble_eq_true rfl⟩) ⟨pP.blind, hrc, (pP.pre ⟨hK, hN⟩ hPc)⟩ rfl rfl hl.1 rfl (lv_room (Nat.le_of_ble_eq_true rfl)) dX7_most_172 ⟨Nat.le_of_ble_eq_true rfl, Nat.le_of_ble_eq_true rfl⟩) ?_
      rw [hQ]
      obtain e9_0 := inj1 hF
      exact W.iret (v := r_12) hx hb hr (fun tt ht hW => ⟨_, rfl, e9_0, ht⟩) (fun _ h => by cases h) dX7_most_175
    replace hF := inn c_5_9 hF
    rcases Classical.em (p1 = (10 : Int32)) with c_5_10 | c_5_10
    ·
      replace hF := ip c_5_10 hF
      refine lv_tableIn (off := 162) (tgt := 176) hx hb dX7_most_14 (by rw [c_5_10]; decide) (by rw [c_5_10]; decide) (by rw [c_5_10]; decide) (by decide) ?_
      refine lv_aload_n hx hb dX7_most_176 rfl (lv_at hl 0 rfl) ?_
      refine gt_X7_3 (v := .ref a_now) hx hb hts i_f_X7_most_X7 hown hK hP 0 rfl (hts (.fieldLink RX7 35 "HushWatch" "now" "LHushWatch$State;") (List.mem_of_getElem? (i := 1) rfl)) rfl dX7_most_177 ?_
      replace hF := bd1_s hF
      obtain ⟨r_14, hc_15, hF⟩ := hF
      have hPc : va_P E.1 vwCl (w_X5_unmovedSites E a_now a_now_row a_now_partners a_now_share a_now_leftOver c_now_askedCount c_now_outcome c_now_row) s.heap := hP.sub (ws' := [(a_now, .inr (6, [.ref a_now_row, .ref a_now_partners, .int c_now_askedCount, .int c_now_outcome, .ref a_now_share, .ref a_now_leftOver])), (a_now_row, .inl (E.2.1, 81, .inl c_now_row))]) [1, 2] rfl
      have hrc := va_recv hK hPc (ci := 6) (q0 := 0) rfl rfl
      refine pE_i (va_runV (As := []) (rest := [])  ⟨hx, hb, hml, hown, hts⟩ (f_X5_unmovedSites l E K (a_ := a_now) (a_row := a_now_row) (a_partners := a_now_partners) (a_share := a_now_share) (a_leftOver := a_now_leftOver) (c_askedCount := c_now_askedCount) (c_outcome := c_now_outcome) (c_row := c_now_row) hc_15) (cwV 0 hts g_f_X7_most_f_X5_unmovedSites_308 rfl rfl rfl hd_X5_unmovedSites ⟨Nat.le_of_ble_eq_true rfl, Nat.le_of_ble_eq_true rfl⟩) ⟨pP.blind, hrc, (pP.pre ⟨hK, hN⟩ hPc)⟩ rfl rfl hl.1 rfl (lv_room (Nat.le_of_ble_eq_true rfl)) dX7_most_180 ⟨Nat.le_of_ble_eq_true rfl, Nat.le_of_ble_eq_true rfl⟩) ?_
      rw [hQ]
      obtain e9_0 := inj1 hF
      exact W.iret (v := r_14) hx hb hr (fun tt ht hW => ⟨_, rfl, e9_0, ht⟩) (fun _ h => by cases h) dX7_most_183
    replace hF := inn c_5_10 hF
    rcases Classical.em (p1 = (11 : Int32)) with c_5_11 | c_5_11
    ·
      replace hF := ip c_5_11 hF
      refine lv_tableIn (off := 170) (tgt := 184) hx hb dX7_most_14 (by rw [c_5_11]; decide) (by rw [c_5_11]; decide) (by rw [c_5_11]; decide) (by decide) ?_
      refine lv_aload_n hx hb dX7_most_184 rfl (lv_at hl 0 rfl) ?_
      refine gt_X7_3 (v := .ref a_now) hx hb hts i_f_X7_most_X7 hown hK hP 0 rfl (hts (.fieldLink RX7 35 "HushWatch" "now" "LHushWatch$State;") (List.mem_of_getElem? (i := 1) rfl)) rfl dX7_most_185 ?_
      refine va_getN (D := E.1) (ci := 6) (v := .ref a_now_row) (C := RX5) (T := TX5) (N := 6) hx hb hts i_f_X7_most_X5 hown hK hP 1 rfl rfl 0 (by decide) (nx hN 12 rfl) (fun _ h9 => h9) rfl dX7_most_188 ?_
      refine lv_bipush (v := 7) hx hb dX7_most_191 (by decide) ?_
      refine va_iald hx hb hK hP 2 0 rfl rfl (vin rfl) dX7_most_193 ?_
      refine W.eq (g2 := F0 m 194 ls [.int (c_now_row 7)]) rfl ?_
      rw [hQ]
      obtain e9_0 := inj1 hF
      exact W.iret (v := c_now_row 7) hx hb hr (fun tt ht hW => ⟨_, rfl, e9_0, ht⟩) (fun _ h => by cases h) dX7_most_194
    replace hF := inn c_5_11 hF
    refine lv_tableOut (tgt := 195) hx hb dX7_most_14 (by have t0 : (0 : Int32).toInt = 0 := (by decide); have t1 : (1 : Int32).toInt = 1 := (by decide); have t2 : (2 : Int32).toInt = 2 := (by decide); have t3 : (3 : Int32).toInt = 3 := (by decide); have t4 : (4 : Int32).toInt = 4 := (by decide); have t5 : (5 : Int32).toInt = 5 := (by decide); have t6 : (6 : Int32).toInt = 6 := (by decide); have t7 : (7 : Int32).toInt = 7 := (by decide); have t8 : (8 : Int32).toInt = 8 := (by decide); have t9 : (9 : Int32).toInt = 9 := (by decide); have t10 : (10 : Int32).toInt = 10 := (by decide); have t11 : (11 : Int32).toInt = 11 := (by decide); simp only [← Int32.toInt_inj, t0, t1, t2, t3, t4, t5, t6, t7, t8, t9, t10, t11] at c_5_0 c_5_1 c_5_2 c_5_3 c_5_4 c_5_5 c_5_6 c_5_7 c_5_8 c_5_9 c_5_10 c_5_11; omega) (by decide) ?_
    refine lv_ldc (v := -100000000) hx hb hown (hts (.constant RX7 113 (-100000000)) (List.mem_of_getElem? (i := 2) rfl)) dX7_most_195 ?_
    rw [hQ]
    obtain e9_0 := inj1 hF
    exact W.iret (v := (-100000000 : Int32)) hx hb hr (fun tt ht hW => ⟨_, rfl, e9_0, ht⟩) (fun _ h => by cases h) dX7_most_197
  ·
    replace hF := ip c_4 hF
    refine lv_ldc (v := -100000000) hx hb hown (hts (.constant RX7 113 (-100000000)) (List.mem_of_getElem? (i := 2) rfl)) dX7_most_10 ?_
    rw [hQ]
    obtain e9_0 := inj1 hF
    exact W.iret (v := (-100000000 : Int32)) hx hb hr (fun tt ht hW => ⟨_, rfl, e9_0, ht⟩) (fun _ h => by cases h) dX7_most_12

def F_X7_move (K : Nat) (p1 : Int32) (p2 : Int32) (p3 : Int32) (c_now_row : Nat → Int32) (c_now_partners : Nat → Int32) (c_now_askedCount : Int32) (c_now_outcome : Int32) (c_now_share : Nat → Int32) (c_now_leftOver : Nat → Int32) (c_book_lines : Nat → Int32) (c_history_rows : Nat → Int32) (c_history_next : Int32) (c_history_held : Int32) (c_refused : Nat → Int32) : Option (Int32 × (Nat → Int32) × (Nat → Int32) × Int32 × Int32 × (Nat → Int32) × (Nat → Int32) × (Nat → Int32) × (Nat → Int32) × Int32 × Int32 × (Nat → Int32)) :=
  bd12 (F_X7_act K (0 : Int32) p1 p2 p3 (1 : Int32) c_now_row c_now_partners c_now_askedCount c_now_outcome c_now_share c_now_leftOver c_book_lines c_history_rows c_history_next c_history_held c_refused) (fun r_1 w_2 w_3 w_4 w_5 w_6 w_7 w_8 w_9 w_10 w_11 w_12 => some (r_1, w_2, w_3, w_4, w_5, w_6, w_7, w_8, w_9, w_10, w_11, w_12))
abbrev w_X7_move (E : EE) (a_ a_tape a_reader a_scripts a_now a_trial a_kept a_book a_keptBook a_history a_draws a_refused a_now_row a_now_partners a_now_share a_now_leftOver a_book_lines a_history_rows : Nat) (c_hasImage : Int32) (c_now_askedCount : Int32) (c_now_outcome : Int32) (c_now_row : Nat → Int32) (c_now_partners : Nat → Int32) (c_now_share : Nat → Int32) (c_now_leftOver : Nat → Int32) (c_book_lines : Nat → Int32) (c_history_next : Int32) (c_history_held : Int32) (c_history_rows : Nat → Int32) (c_refused : Nat → Int32) : va_W := [(a_, .inr (8, [.ref a_tape, .ref a_reader, .ref a_scripts, .ref a_now, .ref a_trial, .ref a_kept, .ref a_book, .ref a_keptBook, .ref a_history, .ref a_draws, .ref a_refused, .int c_hasImage])), (a_now, .inr (6, [.ref a_now_row, .ref a_now_partners, .int c_now_askedCount, .int c_now_outcome, .ref a_now_share, .ref a_now_leftOver])), (a_now_row, .inl (E.2.1, 81, .inl c_now_row)), (a_now_partners, .inl (E.2.1, 8, .inl c_now_partners)), (a_now_share, .inl (E.2.1, 2, .inl c_now_share)), (a_now_leftOver, .inl (E.2.1, 2, .inl c_now_leftOver)), (a_book, .inr (1, [.ref a_book_lines])), (a_book_lines, .inl (E.2.1, 300, .inl c_book_lines)), (a_history, .inr (3, [.ref a_history_rows, .int c_history_next, .int c_history_held])), (a_history_rows, .inl (E.2.1, 3240, .inl c_history_rows)), (a_refused, .inl (E.2.1, 3, .inl c_refused))]
def v_f_X7_move : List Cond := .code yX7_move cX7_move 4 (some .int) :: ([.methodLink RX7 163 yX7_act, .instanceMethod yX7_act, .selects RX7 yX7_act yX7_act, .initialized RX7] ++ (v_f_X7_act ++ ([])))
theorem gw_f_X7_move : v_f_X7_move.all goodWord = true := by decide +kernel
theorem g_f_X7_move_f_X7_act_163 : GoodIn v_f_X7_move (wsV RX7 163 RX7 yX7_act v_f_X7_act) := goodIn_app (goodIn_of _ (by decide +kernel)) (goodIn_sub (fun _ h => List.mem_cons_of_mem _ (List.mem_append_right _ (List.mem_append_left _ h))) gw_f_X7_act)
theorem hd_X7_move : yX7_move.cls = RX7 ∧ yX7_move.cls ≠ "java/lang/invoke/MethodHandle" ∧ yX7_move.cls ≠ "java/lang/invoke/VarHandle" ∧ (parseMethodDescriptor yX7_move.desc).map (fun d => d.parameters.length) = some 3 := by decide +kernel
set_option maxHeartbeats 4000000 in
set_option maxRecDepth 100000 in
theorem f_X7_move (l : Launch) (E : EE) (sz : Nat) (K : Nat) {a_ a_tape a_reader a_scripts a_now a_trial a_kept a_book a_keptBook a_history a_draws a_refused a_now_row a_now_partners a_now_share a_now_leftOver a_book_lines a_history_rows : Nat} {p1 : Int32} {p2 : Int32} {p3 : Int32} {c_hasImage : Int32} {c_now_askedCount : Int32} {c_now_outcome : Int32} {c_now_row : Nat → Int32} {c_now_partners : Nat → Int32} {c_now_share : Nat → Int32} {c_now_leftOver : Nat → Int32} {c_book_lines : Nat → Int32} {c_history_next : Int32} {c_history_held : Int32} {c_history_rows : Nat → Int32} {c_refused : Nat → Int32} {rr : Int32} {n_now_row : Nat → Int32} {n_now_partners : Nat → Int32} {n_now_askedCount : Int32} {n_now_outcome : Int32} {n_now_share : Nat → Int32} {n_now_leftOver : Nat → Int32} {n_book_lines : Nat → Int32} {n_history_rows : Nat → Int32} {n_history_next : Int32} {n_history_held : Int32} {n_refused : Nat → Int32} (hF : F_X7_move K p1 p2 p3 c_now_row c_now_partners c_now_askedCount c_now_outcome c_now_share c_now_leftOver c_book_lines c_history_rows c_history_next c_history_held c_refused = some (rr, n_now_row, n_now_partners, n_now_askedCount, n_now_outcome, n_now_share, n_now_leftOver, n_book_lines, n_history_rows, n_history_next, n_history_held, n_refused)) : Met l yX7_move v_f_X7_move (({ frames := 6, cells := 0, slots := 0, locals := 151 } : Room)) (va_Pc [.ref a_, .int p1, .int p2, .int p3] (pW E sz (w_X7_move E a_ a_tape a_reader a_scripts a_now a_trial a_kept a_book a_keptBook a_history a_draws a_refused a_now_row a_now_partners a_now_share a_now_leftOver a_book_lines a_history_rows c_hasImage c_now_askedCount c_now_outcome c_now_row c_now_partners c_now_share c_now_leftOver c_book_lines c_history_next c_history_held c_history_rows c_refused))) (va_Qi (fun (q : Int32) (_u : Unit) => q = rr) (fun (_u : Unit) tt => va_P E.1 vwCl (w_X7_move E a_ a_tape a_reader a_scripts a_now a_trial a_kept a_book a_keptBook a_history a_draws a_refused a_now_row a_now_partners a_now_share a_now_leftOver a_book_lines a_history_rows c_hasImage n_now_askedCount n_now_outcome n_now_row n_now_partners n_now_share n_now_leftOver n_book_lines n_history_next n_history_held n_history_rows n_refused) tt.heap ∧ va_D (va_A (w_X7_move E a_ a_tape a_reader a_scripts a_now a_trial a_kept a_book a_keptBook a_history a_draws a_refused a_now_row a_now_partners a_now_share a_now_leftOver a_book_lines a_history_rows c_hasImage c_now_askedCount c_now_outcome c_now_row c_now_partners c_now_share c_now_leftOver c_book_lines c_history_next c_history_held c_history_rows c_refused) sz) (w_X7_move E a_ a_tape a_reader a_scripts a_now a_trial a_kept a_book a_keptBook a_history a_draws a_refused a_now_row a_now_partners a_now_share a_now_leftOver a_book_lines a_history_rows c_hasImage n_now_askedCount n_now_outcome n_now_row n_now_partners n_now_share n_now_leftOver n_book_lines n_history_next n_history_held n_history_rows n_refused)) (va_A (w_X7_move E a_ a_tape a_reader a_scripts a_now a_trial a_kept a_book a_keptBook a_history a_draws a_refused a_now_row a_now_partners a_now_share a_now_leftOver a_book_lines a_history_rows c_hasImage c_now_askedCount c_now_outcome c_now_row c_now_partners c_now_share c_now_leftOver c_book_lines c_history_next c_history_held c_history_rows c_refused) sz)) 0 0 (va_A (w_X7_move E a_ a_tape a_reader a_scripts a_now a_trial a_kept a_book a_keptBook a_history a_draws a_refused a_now_row a_now_partners a_now_share a_now_leftOver a_book_lines a_history_rows c_hasImage c_now_askedCount c_now_outcome c_now_row c_now_partners c_now_share c_now_leftOver c_book_lines c_history_next c_history_held c_history_rows c_refused) sz) := by
  refine Met.ofW (cc := cX7_move) (maxL := 4) (ret := (some .int)) (by decide) rfl ?_
  intro p e s m args below meth c s₁ B hml hv
  obtain ⟨rfl, hsz, ⟨hK, hN⟩, hP, hD0⟩ := hv
  have hx := B.exec
  have hb := B.bytes
  have hr := B.returns
  have hts := atoms_spec (ws := v_f_X7_move) B.pre
  have hown : s.vm.findClass RX7 = some m.cls := own_of hd_X7_move.1 (findClass_of_methodNamed B.named)
  have hlocks : meth.locks = false := B.notSynchronized
  subst hsz
  have hD := hD0.self (sz := s.heap.size)
  generalize hAe : va_A (w_X7_move E a_ a_tape a_reader a_scripts a_now a_trial a_kept a_book a_keptBook a_history a_draws a_refused a_now_row a_now_partners a_now_share a_now_leftOver a_book_lines a_history_rows c_hasImage c_now_askedCount c_now_outcome c_now_row c_now_partners c_now_share c_now_leftOver c_book_lines c_history_next c_history_held c_history_rows c_refused) s.heap.size = A at hD ⊢
  have hA : ∀ q : Nat, s.heap.size ≤ q → A q := fun q h => by rw [← hAe]; exact Or.inr h
  have hS : va_S A s.heap s.heap [] := va_S.rf
  have hl := lv_entry ([.ref a_, .int p1, .int p2, .int p3]) (n := 4) (Nat.le_of_ble_eq_true rfl)
  rw [lg_entry_eq]
  generalize (lg_sl ([.ref a_, .int p1, .int p2, .int p3]) ++ List.replicate (4 - (lg_sl ([.ref a_, .int p1, .int p2, .int p3])).length) Slot.unset).toArray = ls at hl ⊢
  have hl : lv_has ls 4 [(0, .ref a_), (1, .int p1), (2, .int p2), (3, .int p3)] := hl
  obtain ⟨Q, hQ⟩ : ∃ Q : State → Prop, Q = MQ below (va_Qi (fun (q : Int32) (_u : Unit) => q = rr) (fun (_u : Unit) tt => va_P E.1 vwCl (w_X7_move E a_ a_tape a_reader a_scripts a_now a_trial a_kept a_book a_keptBook a_history a_draws a_refused a_now_row a_now_partners a_now_share a_now_leftOver a_book_lines a_history_rows c_hasImage n_now_askedCount n_now_outcome n_now_row n_now_partners n_now_share n_now_leftOver n_book_lines n_history_next n_history_held n_history_rows n_refused) tt.heap ∧ va_D A (w_X7_move E a_ a_tape a_reader a_scripts a_now a_trial a_kept a_book a_keptBook a_history a_draws a_refused a_now_row a_now_partners a_now_share a_now_leftOver a_book_lines a_history_rows c_hasImage n_now_askedCount n_now_outcome n_now_row n_now_partners n_now_share n_now_leftOver n_book_lines n_history_next n_history_held n_history_rows n_refused)) A) #[Value.ref a_, Value.int p1, Value.int p2, Value.int p3] s 0 0 A := ⟨_, rfl⟩
  rw [← hQ]
  change W p l e ({ frames := 6, cells := 0, slots := 0, locals := 151 } : Room) s m #[Value.ref a_, Value.int p1, Value.int p2, Value.int p3] below meth c s.heap [] 0 0 Q (F0 m 0 ls [])
  suffices hh9 : ∀ (H : Heap) (locs : List Loc), va_P E.1 vwCl (w_X7_move E a_ a_tape a_reader a_scripts a_now a_trial a_kept a_book a_keptBook a_history a_draws a_refused a_now_row a_now_partners a_now_share a_now_leftOver a_book_lines a_history_rows c_hasImage c_now_askedCount c_now_outcome c_now_row c_now_partners c_now_share c_now_leftOver c_book_lines c_history_next c_history_held c_history_rows c_refused) H → va_D A (w_X7_move E a_ a_tape a_reader a_scripts a_now a_trial a_kept a_book a_keptBook a_history a_draws a_refused a_now_row a_now_partners a_now_share a_now_leftOver a_book_lines a_history_rows c_hasImage c_now_askedCount c_now_outcome c_now_row c_now_partners c_now_share c_now_leftOver c_book_lines c_history_next c_history_held c_history_rows c_refused) → va_S A s.heap H locs → W p l e ({ frames := 6, cells := 0, slots := 0, locals := 151 } : Room) s m #[Value.ref a_, Value.int p1, Value.int p2, Value.int p3] below meth c H locs 0 0 Q (F0 m 0 ls []) from hh9 s.heap [] hP hD hS
  clear hP hD hS
  intro H locs hP hD hS
  replace hP : va_P E.1 vwCl [(a_, .inr (8, [.ref a_tape, .ref a_reader, .ref a_scripts, .ref a_now, .ref a_trial, .ref a_kept, .ref a_book, .ref a_keptBook, .ref a_history, .ref a_draws, .ref a_refused, .int c_hasImage])), (a_now, .inr (6, [.ref a_now_row, .ref a_now_partners, .int c_now_askedCount, .int c_now_outcome, .ref a_now_share, .ref a_now_leftOver])), (a_now_row, .inl (E.2.1, 81, .inl c_now_row)), (a_now_partners, .inl (E.2.1, 8, .inl c_now_partners)), (a_now_share, .inl (E.2.1, 2, .inl c_now_share)), (a_now_leftOver, .inl (E.2.1, 2, .inl c_now_leftOver)), (a_book, .inr (1, [.ref a_book_lines])), (a_book_lines, .inl (E.2.1, 300, .inl c_book_lines)), (a_history, .inr (3, [.ref a_history_rows, .int c_history_next, .int c_history_held])), (a_history_rows, .inl (E.2.1, 3240, .inl c_history_rows)), (a_refused, .inl (E.2.1, 3, .inl c_refused))] H := hP
  replace hD : va_D A [(a_, .inr (8, [.ref a_tape, .ref a_reader, .ref a_scripts, .ref a_now, .ref a_trial, .ref a_kept, .ref a_book, .ref a_keptBook, .ref a_history, .ref a_draws, .ref a_refused, .int c_hasImage])), (a_now, .inr (6, [.ref a_now_row, .ref a_now_partners, .int c_now_askedCount, .int c_now_outcome, .ref a_now_share, .ref a_now_leftOver])), (a_now_row, .inl (E.2.1, 81, .inl c_now_row)), (a_now_partners, .inl (E.2.1, 8, .inl c_now_partners)), (a_now_share, .inl (E.2.1, 2, .inl c_now_share)), (a_now_leftOver, .inl (E.2.1, 2, .inl c_now_leftOver)), (a_book, .inr (1, [.ref a_book_lines])), (a_book_lines, .inl (E.2.1, 300, .inl c_book_lines)), (a_history, .inr (3, [.ref a_history_rows, .int c_history_next, .int c_history_held])), (a_history_rows, .inl (E.2.1, 3240, .inl c_history_rows)), (a_refused, .inl (E.2.1, 3, .inl c_refused))] := hD
  unfold F_X7_move at hF
  refine lv_aload_n hx hb dX7_move_0 rfl (lv_at hl 0 rfl) ?_
  refine lv_iconst (v := 0) hx hb dX7_move_1 (by decide) ?_
  refine lv_iload_n hx hb dX7_move_2 rfl (lv_at hl 1 rfl) ?_
  refine lv_iload_n hx hb dX7_move_3 rfl (lv_at hl 2 rfl) ?_
  refine lv_iload_n hx hb dX7_move_4 rfl (lv_at hl 3 rfl) ?_
  refine lv_iconst (v := 1) hx hb dX7_move_5 (by decide) ?_
  replace hF := bd12_s hF
  obtain ⟨r_1, w_2, w_3, w_4, w_5, w_6, w_7, w_8, w_9, w_10, w_11, w_12, hc_13, hF⟩ := hF
  obtain ⟨hPc, hDc, hFc⟩ := wcut (wc := (w_X7_act E a_ a_tape a_reader a_scripts a_now a_trial a_kept a_book a_keptBook a_history a_draws a_refused a_now_row a_now_partners a_now_share a_now_leftOver a_book_lines a_history_rows c_hasImage c_now_askedCount c_now_outcome c_now_row c_now_partners c_now_share c_now_leftOver c_book_lines c_history_next c_history_held c_history_rows c_refused)) hP hD hS hA [0, 1, 2, 3, 4, 5, 6, 7, 8, 9, 10] (by decide) rfl
  have hrc := va_recv hK hPc (ci := 8) (q0 := 0) rfl rfl
  refine cE_i (wc := (w_X7_act E a_ a_tape a_reader a_scripts a_now a_trial a_kept a_book a_keptBook a_history a_draws a_refused a_now_row a_now_partners a_now_share a_now_leftOver a_book_lines a_history_rows c_hasImage c_now_askedCount c_now_outcome c_now_row c_now_partners c_now_share c_now_leftOver c_book_lines c_history_next c_history_held c_history_rows c_refused)) (wr := []) (w1 := (w_X7_act E a_ a_tape a_reader a_scripts a_now a_trial a_kept a_book a_keptBook a_history a_draws a_refused a_now_row a_now_partners a_now_share a_now_leftOver a_book_lines a_history_rows c_hasImage w_4 w_5 w_2 w_3 w_6 w_7 w_8 w_10 w_11 w_9 w_12)) (va_runV (As := [.int (0 : Int32), .int p1, .int p2, .int p3, .int (1 : Int32)]) (rest := [])  ⟨hx, hb, hml, hown, hts⟩ (f_X7_act l E H.size K (a_ := a_) (a_tape := a_tape) (a_reader := a_reader) (a_scripts := a_scripts) (a_now := a_now) (a_trial := a_trial) (a_kept := a_kept) (a_book := a_book) (a_keptBook := a_keptBook) (a_history := a_history) (a_draws := a_draws) (a_refused := a_refused) (a_now_row := a_now_row) (a_now_partners := a_now_partners) (a_now_share := a_now_share) (a_now_leftOver := a_now_leftOver) (a_book_lines := a_book_lines) (a_history_rows := a_history_rows) (p1 := (0 : Int32)) (p2 := p1) (p3 := p2) (p4 := p3) (p5 := (1 : Int32)) (c_hasImage := c_hasImage) (c_now_askedCount := c_now_askedCount) (c_now_outcome := c_now_outcome) (c_now_row := c_now_row) (c_now_partners := c_now_partners) (c_now_share := c_now_share) (c_now_leftOver := c_now_leftOver) (c_book_lines := c_book_lines) (c_history_next := c_history_next) (c_history_held := c_history_held) (c_history_rows := c_history_rows) (c_refused := c_refused) hc_13) (cwV 5 hts g_f_X7_move_f_X7_act_163 rfl rfl rfl hd_X7_act ⟨Nat.le_of_ble_eq_true rfl, Nat.le_of_ble_eq_true rfl⟩) ⟨pW.blind, hrc, (pW.pre ⟨hK, hN⟩ hPc hDc)⟩ rfl rfl hl.1 rfl (lv_room (Nat.le_of_ble_eq_true rfl)) dX7_move_6 ⟨Nat.le_of_ble_eq_true rfl, Nat.le_of_ble_eq_true rfl⟩) hS hFc hP hD [0, 1, 2, 3, 4, 5, 6, 7, 8, 9, 10] [] rfl rfl (by decide) (by decide) (fun H locs hP hD hS => ?_)
  replace hP : va_P E.1 vwCl [(a_, .inr (8, [.ref a_tape, .ref a_reader, .ref a_scripts, .ref a_now, .ref a_trial, .ref a_kept, .ref a_book, .ref a_keptBook, .ref a_history, .ref a_draws, .ref a_refused, .int c_hasImage])), (a_now, .inr (6, [.ref a_now_row, .ref a_now_partners, .int w_4, .int w_5, .ref a_now_share, .ref a_now_leftOver])), (a_now_row, .inl (E.2.1, 81, .inl w_2)), (a_now_partners, .inl (E.2.1, 8, .inl w_3)), (a_now_share, .inl (E.2.1, 2, .inl w_6)), (a_now_leftOver, .inl (E.2.1, 2, .inl w_7)), (a_book, .inr (1, [.ref a_book_lines])), (a_book_lines, .inl (E.2.1, 300, .inl w_8)), (a_history, .inr (3, [.ref a_history_rows, .int w_10, .int w_11])), (a_history_rows, .inl (E.2.1, 3240, .inl w_9)), (a_refused, .inl (E.2.1, 3, .inl w_12))] H := hP
  replace hD : va_D A [(a_, .inr (8, [.ref a_tape, .ref a_reader, .ref a_scripts, .ref a_now, .ref a_trial, .ref a_kept, .ref a_book, .ref a_keptBook, .ref a_history, .ref a_draws, .ref a_refused, .int c_hasImage])), (a_now, .inr (6, [.ref a_now_row, .ref a_now_partners, .int w_4, .int w_5, .ref a_now_share, .ref a_now_leftOver])), (a_now_row, .inl (E.2.1, 81, .inl w_2)), (a_now_partners, .inl (E.2.1, 8, .inl w_3)), (a_now_share, .inl (E.2.1, 2, .inl w_6)), (a_now_leftOver, .inl (E.2.1, 2, .inl w_7)), (a_book, .inr (1, [.ref a_book_lines])), (a_book_lines, .inl (E.2.1, 300, .inl w_8)), (a_history, .inr (3, [.ref a_history_rows, .int w_10, .int w_11])), (a_history_rows, .inl (E.2.1, 3240, .inl w_9)), (a_refused, .inl (E.2.1, 3, .inl w_12))] := hD
  rw [hQ]
  have h9 := fin9 (P := fun u9 : Int32 × (Nat → Int32) × (Nat → Int32) × Int32 × Int32 × (Nat → Int32) × (Nat → Int32) × (Nat → Int32) × (Nat → Int32) × Int32 × Int32 × (Nat → Int32) => r_1 = u9.1 ∧ va_P E.1 vwCl (w_X7_move E a_ a_tape a_reader a_scripts a_now a_trial a_kept a_book a_keptBook a_history a_draws a_refused a_now_row a_now_partners a_now_share a_now_leftOver a_book_lines a_history_rows c_hasImage u9.2.2.2.1 u9.2.2.2.2.1 u9.2.1 u9.2.2.1 u9.2.2.2.2.2.1 u9.2.2.2.2.2.2.1 u9.2.2.2.2.2.2.2.1 u9.2.2.2.2.2.2.2.2.2.1 u9.2.2.2.2.2.2.2.2.2.2.1 u9.2.2.2.2.2.2.2.2.1 u9.2.2.2.2.2.2.2.2.2.2.2) H ∧ va_D A (w_X7_move E a_ a_tape a_reader a_scripts a_now a_trial a_kept a_book a_keptBook a_history a_draws a_refused a_now_row a_now_partners a_now_share a_now_leftOver a_book_lines a_history_rows c_hasImage u9.2.2.2.1 u9.2.2.2.2.1 u9.2.1 u9.2.2.1 u9.2.2.2.2.2.1 u9.2.2.2.2.2.2.1 u9.2.2.2.2.2.2.2.1 u9.2.2.2.2.2.2.2.2.2.1 u9.2.2.2.2.2.2.2.2.2.2.1 u9.2.2.2.2.2.2.2.2.1 u9.2.2.2.2.2.2.2.2.2.2.2)) hF ⟨rfl, hP, hD⟩
  obtain ⟨e9_0, hP9, hD9⟩ := h9
  exact W.iret (v := r_1) hx hb hr (fun tt ht hW => ⟨⟨_, (), rfl, e9_0, ht ▸ hP9, hD9⟩, hS.F ht⟩) hS.2.2 dX7_move_9

def F_X7_needs (p1 : Int32) (p2 : Int32) (p3 : Int32) (c_now_row : Nat → Int32) : Option (Int64) :=
  bd1 (F_X5_refusal (0 : Int32) p1 p2 p3 c_now_row) (fun r_1 => if r_1 = (-1 : Int32) then bd1 (F_X5_pointValue p1 p2 p3 c_now_row) (fun r_4 => some (r_4 + (1 : Int64))) else some (-100000000 : Int64))
abbrev w_X7_needs (E : EE) (a_ a_tape a_reader a_scripts a_now a_trial a_kept a_book a_keptBook a_history a_draws a_refused a_now_row a_now_partners a_now_share a_now_leftOver : Nat) (c_hasImage : Int32) (c_now_askedCount : Int32) (c_now_outcome : Int32) (c_now_row : Nat → Int32) : va_W := [(a_, .inr (8, [.ref a_tape, .ref a_reader, .ref a_scripts, .ref a_now, .ref a_trial, .ref a_kept, .ref a_book, .ref a_keptBook, .ref a_history, .ref a_draws, .ref a_refused, .int c_hasImage])), (a_now, .inr (6, [.ref a_now_row, .ref a_now_partners, .int c_now_askedCount, .int c_now_outcome, .ref a_now_share, .ref a_now_leftOver])), (a_now_row, .inl (E.2.1, 81, .inl c_now_row))]
def v_f_X7_needs : List Cond := .code yX7_needs cX7_needs 4 (some .long) :: ([.fieldLink RX7 35 "HushWatch" "now" "LHushWatch$State;", .constantLong RX7 154 (-100000000), .methodLink RX7 220 yX5_refusal, .instanceMethod yX5_refusal, .selects RX5 yX5_refusal yX5_refusal, .initialized RX5, .methodLink RX7 254 yX5_pointValue, .instanceMethod yX5_pointValue, .selects RX5 yX5_pointValue yX5_pointValue] ++ (wsX70 ++ (v_f_X5_refusal ++ (v_f_X5_pointValue ++ ([])))))
theorem gw_f_X7_needs : v_f_X7_needs.all goodWord = true := by decide +kernel
theorem i_f_X7_needs_X7 : ∀ w ∈ wsX70, w ∈ v_f_X7_needs := fun _ h => List.mem_cons_of_mem _ (List.mem_append_right _ (List.mem_append_left _ h))
theorem g_f_X7_needs_f_X5_refusal_220 : GoodIn v_f_X7_needs (wsV RX7 220 RX5 yX5_refusal v_f_X5_refusal) := goodIn_app (goodIn_of _ (by decide +kernel)) (goodIn_sub (fun _ h => List.mem_cons_of_mem _ (List.mem_append_right _ (List.mem_append_right _ (List.mem_append_left _ h)))) gw_f_X5_refusal)
theorem g_f_X7_needs_f_X5_pointValue_254 : GoodIn v_f_X7_needs (wsV RX7 254 RX5 yX5_pointValue v_f_X5_pointValue) := goodIn_app (goodIn_of _ (by decide +kernel)) (goodIn_sub (fun _ h => List.mem_cons_of_mem _ (List.mem_append_right _ (List.mem_append_right _ (List.mem_append_right _ (List.mem_append_left _ h))))) gw_f_X5_pointValue)
theorem hd_X7_needs : yX7_needs.cls = RX7 ∧ yX7_needs.cls ≠ "java/lang/invoke/MethodHandle" ∧ yX7_needs.cls ≠ "java/lang/invoke/VarHandle" ∧ (parseMethodDescriptor yX7_needs.desc).map (fun d => d.parameters.length) = some 3 := by decide +kernel
set_option maxHeartbeats 4000000 in
set_option maxRecDepth 100000 in
theorem f_X7_needs (l : Launch) (E : EE) {a_ a_tape a_reader a_scripts a_now a_trial a_kept a_book a_keptBook a_history a_draws a_refused a_now_row a_now_partners a_now_share a_now_leftOver : Nat} {p1 : Int32} {p2 : Int32} {p3 : Int32} {c_hasImage : Int32} {c_now_askedCount : Int32} {c_now_outcome : Int32} {c_now_row : Nat → Int32} {rr : Int64} (hF : F_X7_needs p1 p2 p3 c_now_row = some rr) : Met l yX7_needs v_f_X7_needs (({ frames := 4, cells := 0, slots := 0, locals := 92 } : Room)) (va_Pc [.ref a_, .int p1, .int p2, .int p3] (pP E (w_X7_needs E a_ a_tape a_reader a_scripts a_now a_trial a_kept a_book a_keptBook a_history a_draws a_refused a_now_row a_now_partners a_now_share a_now_leftOver c_hasImage c_now_askedCount c_now_outcome c_now_row))) (vp_Sl (fun q : Int64 => q = rr)) 0 0 (fun _ => False) := by
  refine Met.ofW (cc := cX7_needs) (maxL := 4) (ret := (some .long)) (by decide) rfl ?_
  intro p e s m args below meth c s₁ B hml hv
  obtain ⟨rfl, ⟨hK, hN⟩, hP⟩ := hv
  have hx := B.exec
  have hb := B.bytes
  have hr := B.returns
  have hts := atoms_spec (ws := v_f_X7_needs) B.pre
  have hown : s.vm.findClass RX7 = some m.cls := own_of hd_X7_needs.1 (findClass_of_methodNamed B.named)
  have hlocks : meth.locks = false := B.notSynchronized
  replace hP : va_P E.1 vwCl [(a_, .inr (8, [.ref a_tape, .ref a_reader, .ref a_scripts, .ref a_now, .ref a_trial, .ref a_kept, .ref a_book, .ref a_keptBook, .ref a_history, .ref a_draws, .ref a_refused, .int c_hasImage])), (a_now, .inr (6, [.ref a_now_row, .ref a_now_partners, .int c_now_askedCount, .int c_now_outcome, .ref a_now_share, .ref a_now_leftOver])), (a_now_row, .inl (E.2.1, 81, .inl c_now_row))] s.heap := hP
  have hl := lv_entry ([.ref a_, .int p1, .int p2, .int p3]) (n := 4) (Nat.le_of_ble_eq_true rfl)
  rw [lg_entry_eq]
  generalize (lg_sl ([.ref a_, .int p1, .int p2, .int p3]) ++ List.replicate (4 - (lg_sl ([.ref a_, .int p1, .int p2, .int p3])).length) Slot.unset).toArray = ls at hl ⊢
  have hl : lv_has ls 4 [(0, .ref a_), (1, .int p1), (2, .int p2), (3, .int p3)] := hl
  obtain ⟨Q, hQ⟩ : ∃ Q : State → Prop, Q = MQ below (vp_Sl (fun q : Int64 => q = rr)) #[Value.ref a_, Value.int p1, Value.int p2, Value.int p3] s 0 0 (fun _ => False) := ⟨_, rfl⟩
  rw [← hQ]
  change W p l e ({ frames := 4, cells := 0, slots := 0, locals := 92 } : Room) s m #[Value.ref a_, Value.int p1, Value.int p2, Value.int p3] below meth c s.heap [] 0 0 Q (F0 m 0 ls [])
  unfold F_X7_needs at hF
  refine lv_aload_n hx hb dX7_needs_0 rfl (lv_at hl 0 rfl) ?_
  refine gt_X7_3 (v := .ref a_now) hx hb hts i_f_X7_needs_X7 hown hK hP 0 rfl (hts (.fieldLink RX7 35 "HushWatch" "now" "LHushWatch$State;") (List.mem_of_getElem? (i := 1) rfl)) rfl dX7_needs_1 ?_
  refine lv_iconst (v := 0) hx hb dX7_needs_4 (by decide) ?_
  refine lv_iload_n hx hb dX7_needs_5 rfl (lv_at hl 1 rfl) ?_
  refine lv_iload_n hx hb dX7_needs_6 rfl (lv_at hl 2 rfl) ?_
  refine lv_iload_n hx hb dX7_needs_7 rfl (lv_at hl 3 rfl) ?_
  replace hF := bd1_s hF
  obtain ⟨r_1, hc_2, hF⟩ := hF
  have hPc : va_P E.1 vwCl (w_X5_refusal E a_now a_now_row a_now_partners a_now_share a_now_leftOver c_now_askedCount c_now_outcome c_now_row) s.heap := hP.sub (ws' := [(a_now, .inr (6, [.ref a_now_row, .ref a_now_partners, .int c_now_askedCount, .int c_now_outcome, .ref a_now_share, .ref a_now_leftOver])), (a_now_row, .inl (E.2.1, 81, .inl c_now_row))]) [1, 2] rfl
  have hrc := va_recv hK hPc (ci := 6) (q0 := 0) rfl rfl
  refine pE_i (va_runV (As := [.int (0 : Int32), .int p1, .int p2, .int p3]) (rest := [])  ⟨hx, hb, hml, hown, hts⟩ (f_X5_refusal l E (a_ := a_now) (a_row := a_now_row) (a_partners := a_now_partners) (a_share := a_now_share) (a_leftOver := a_now_leftOver) (p1 := (0 : Int32)) (p2 := p1) (p3 := p2) (p4 := p3) (c_askedCount := c_now_askedCount) (c_outcome := c_now_outcome) (c_row := c_now_row) hc_2) (cwV 4 hts g_f_X7_needs_f_X5_refusal_220 rfl rfl rfl hd_X5_refusal ⟨Nat.le_of_ble_eq_true rfl, Nat.le_of_ble_eq_true rfl⟩) ⟨pP.blind, hrc, (pP.pre ⟨hK, hN⟩ hPc)⟩ rfl rfl hl.1 rfl (lv_room (Nat.le_of_ble_eq_true rfl)) dX7_needs_8 ⟨Nat.le_of_ble_eq_true rfl, Nat.le_of_ble_eq_true rfl⟩) ?_
  refine lv_iconst (v := -1) hx hb dX7_needs_11 (by decide) ?_
  refine lv_icmp_eq (tgt := 19) hx hb dX7_needs_12 (by decide) (fun c_3 => ?_) (fun c_3 => ?_)
  ·
    replace hF := ip c_3 hF
    refine lv_aload_n hx hb dX7_needs_19 rfl (lv_at hl 0 rfl) ?_
    refine gt_X7_3 (v := .ref a_now) hx hb hts i_f_X7_needs_X7 hown hK hP 0 rfl (hts (.fieldLink RX7 35 "HushWatch" "now" "LHushWatch$State;") (List.mem_of_getElem? (i := 1) rfl)) rfl dX7_needs_20 ?_
    refine lv_iload_n hx hb dX7_needs_23 rfl (lv_at hl 1 rfl) ?_
    refine lv_iload_n hx hb dX7_needs_24 rfl (lv_at hl 2 rfl) ?_
    refine lv_iload_n hx hb dX7_needs_25 rfl (lv_at hl 3 rfl) ?_
    replace hF := bd1_s hF
    obtain ⟨r_4, hc_5, hF⟩ := hF
    have hPc : va_P E.1 vwCl (w_X5_pointValue E a_now a_now_row a_now_partners a_now_share a_now_leftOver c_now_askedCount c_now_outcome c_now_row) s.heap := hP.sub (ws' := [(a_now, .inr (6, [.ref a_now_row, .ref a_now_partners, .int c_now_askedCount, .int c_now_outcome, .ref a_now_share, .ref a_now_leftOver])), (a_now_row, .inl (E.2.1, 81, .inl c_now_row))]) [1, 2] rfl
    have hrc := va_recv hK hPc (ci := 6) (q0 := 0) rfl rfl
    refine pE_l (va_runV (As := [.int p1, .int p2, .int p3]) (rest := [])  ⟨hx, hb, hml, hown, hts⟩ (f_X5_pointValue l E (a_ := a_now) (a_row := a_now_row) (a_partners := a_now_partners) (a_share := a_now_share) (a_leftOver := a_now_leftOver) (p1 := p1) (p2 := p2) (p3 := p3) (c_askedCount := c_now_askedCount) (c_outcome := c_now_outcome) (c_row := c_now_row) hc_5) (cwV 3 hts g_f_X7_needs_f_X5_pointValue_254 rfl rfl rfl hd_X5_pointValue ⟨Nat.le_of_ble_eq_true rfl, Nat.le_of_ble_eq_true rfl⟩) ⟨pP.blind, hrc, (pP.pre ⟨hK, hN⟩ hPc)⟩ rfl rfl hl.1 rfl (lv_room (Nat.le_of_ble_eq_true rfl)) dX7_needs_26 ⟨Nat.le_of_ble_eq_true rfl, Nat.le_of_ble_eq_true rfl⟩) ?_
    refine lv_lconst (v := 1) hx hb dX7_needs_29 (by decide) ?_
    refine lv_ladd hx hb dX7_needs_30 ?_
    rw [hQ]
    obtain e9_0 := inj1 hF
    exact W.lret (v := r_4 + (1 : Int64)) hx hb hr (fun tt ht hW => ⟨_, rfl, e9_0, ht⟩) (fun _ h => by cases h) dX7_needs_31
  ·
    replace hF := inn c_3 hF
    refine lv_ldc2 (v := -100000000) hx hb hown (hts (.constantLong RX7 154 (-100000000)) (List.mem_of_getElem? (i := 2) rfl)) dX7_needs_15 ?_
    rw [hQ]
    obtain e9_0 := inj1 hF
    exact W.lret (v := (-100000000 : Int64)) hx hb hr (fun tt ht hW => ⟨_, rfl, e9_0, ht⟩) (fun _ h => by cases h) dX7_needs_18

def B_X7_partner_64 (K : Nat) (p1 : Int32) (c_trial_row : Nat → Int32) (x4 : Int32) (c_trial_share : Nat → Int32) (c_trial_leftOver : Nat → Int32) : Option ((Int32 × (Nat → Int32) × (Nat → Int32)) ⊕ (Nat × Int32 × (Nat → Int32) × (Nat → Int32))) :=
  bd1 (F_X5_sites c_trial_row) (fun r_16 => if r_16 ≤ x4 then some (.inr (1, x4, c_trial_share, c_trial_leftOver)) else if x4 = p1 then some (.inl (x4 + (1 : Int32), c_trial_share, c_trial_leftOver)) else bd1 (F_X5_isFrozen x4 c_trial_row) (fun r_20 => if r_20 = (0 : Int32) then bd3 (F_X5_canShare K (((1 : Int32) <<< (p1 &&& (31 : Int32))) ||| ((1 : Int32) <<< (x4 &&& (31 : Int32)))) c_trial_row c_trial_share c_trial_leftOver) (fun r_24 w_25 w_26 => if r_24 = (0 : Int32) then some (.inl (x4 + (1 : Int32), w_25, w_26)) else some (.inr (0, x4, w_25, w_26))) else some (.inl (x4 + (1 : Int32), c_trial_share, c_trial_leftOver))))
def F_X7_partner (K : Nat) (p1 : Int32) (p2 : Int32) (p3 : Int32) (c_now_row : Nat → Int32) (c_trial_row : Nat → Int32) (c_trial_share : Nat → Int32) (c_trial_leftOver : Nat → Int32) : Option (Int32 × (Nat → Int32) × (Nat → Int32) × (Nat → Int32)) :=
  bd1 (F_X5_refusal (0 : Int32) p1 p2 p3 c_now_row) (fun r_1 => if r_1 = (-1 : Int32) then bd1 (F_X5_isAbove c_now_row) (fun r_4 => if r_4 = (0 : Int32) then bd1 (F_X5_isQuietWith p1 p2 p3 c_now_row) (fun r_8 => if r_8 = (0 : Int32) then bd1 (F_X5_copyFrom c_trial_row c_now_row) (fun w_12 => bd1 (F_X5_shift p1 p2 p3 w_12) (fun w_14 => bd4 (lpF (fun u9 : Int32 × (Nat → Int32) × (Nat → Int32) => B_X7_partner_64 K p1 w_14 u9.1 u9.2.1 u9.2.2) K ((0 : Int32), c_trial_share, c_trial_leftOver)) (fun t_30 x4_31 c_trial_share_32 c_trial_leftOver_33 => if t_30 = 0 then some (x4_31, w_14, c_trial_share_32, c_trial_leftOver_33) else if t_30 = 1 then some ((-1 : Int32), w_14, c_trial_share_32, c_trial_leftOver_33) else none))) else some ((-1 : Int32), c_trial_row, c_trial_share, c_trial_leftOver)) else some ((-1 : Int32), c_trial_row, c_trial_share, c_trial_leftOver)) else some ((-1 : Int32), c_trial_row, c_trial_share, c_trial_leftOver))
abbrev w_X7_partner (E : EE) (a_ a_tape a_reader a_scripts a_now a_trial a_kept a_book a_keptBook a_history a_draws a_refused a_now_row a_now_partners a_now_share a_now_leftOver a_trial_row a_trial_partners a_trial_share a_trial_leftOver : Nat) (c_hasImage : Int32) (c_now_askedCount : Int32) (c_now_outcome : Int32) (c_now_row : Nat → Int32) (c_trial_askedCount : Int32) (c_trial_outcome : Int32) (c_trial_row : Nat → Int32) (c_trial_share : Nat → Int32) (c_trial_leftOver : Nat → Int32) : va_W := [(a_, .inr (8, [.ref a_tape, .ref a_reader, .ref a_scripts, .ref a_now, .ref a_trial, .ref a_kept, .ref a_book, .ref a_keptBook, .ref a_history, .ref a_draws, .ref a_refused, .int c_hasImage])), (a_now, .inr (6, [.ref a_now_row, .ref a_now_partners, .int c_now_askedCount, .int c_now_outcome, .ref a_now_share, .ref a_now_leftOver])), (a_now_row, .inl (E.2.1, 81, .inl c_now_row)), (a_trial, .inr (6, [.ref a_trial_row, .ref a_trial_partners, .int c_trial_askedCount, .int c_trial_outcome, .ref a_trial_share, .ref a_trial_leftOver])), (a_trial_row, .inl (E.2.1, 81, .inl c_trial_row)), (a_trial_share, .inl (E.2.1, 2, .inl c_trial_share)), (a_trial_leftOver, .inl (E.2.1, 2, .inl c_trial_leftOver))]
def v_f_X7_partner : List Cond := .code yX7_partner cX7_partner 5 (some .int) :: ([.fieldLink RX7 35 "HushWatch" "now" "LHushWatch$State;", .fieldLink RX7 39 "HushWatch" "trial" "LHushWatch$State;", .methodLink RX7 220 yX5_refusal, .instanceMethod yX5_refusal, .selects RX5 yX5_refusal yX5_refusal, .initialized RX5, .methodLink RX7 244 yX5_isAbove, .instanceMethod yX5_isAbove, .selects RX5 yX5_isAbove yX5_isAbove, .methodLink RX7 217 yX5_isQuietWith, .instanceMethod yX5_isQuietWith, .selects RX5 yX5_isQuietWith yX5_isQuietWith, .methodLink RX7 237 yX5_copyFrom, .instanceMethod yX5_copyFrom, .selects RX5 yX5_copyFrom yX5_copyFrom, .methodLink RX7 247 yX5_shift, .instanceMethod yX5_shift, .selects RX5 yX5_shift yX5_shift, .methodLink RX7 117 yX5_sites, .instanceMethod yX5_sites, .selects RX5 yX5_sites yX5_sites, .methodLink RX7 143 yX5_isFrozen, .instanceMethod yX5_isFrozen, .selects RX5 yX5_isFrozen yX5_isFrozen, .methodLink RX7 251 yX5_canShare, .instanceMethod yX5_canShare, .selects RX5 yX5_canShare yX5_canShare] ++ (wsX70 ++ (v_f_X5_refusal ++ (v_f_X5_isAbove ++ (v_f_X5_isQuietWith ++ (v_f_X5_copyFrom ++ (v_f_X5_shift ++ (v_f_X5_sites ++ (v_f_X5_isFrozen ++ (v_f_X5_canShare ++ ([])))))))))))
theorem gw_f_X7_partner : v_f_X7_partner.all goodWord = true := by decide +kernel
theorem i_f_X7_partner_X7 : ∀ w ∈ wsX70, w ∈ v_f_X7_partner := fun _ h => List.mem_cons_of_mem _ (List.mem_append_right _ (List.mem_append_left _ h))
theorem g_f_X7_partner_f_X5_refusal_220 : GoodIn v_f_X7_partner (wsV RX7 220 RX5 yX5_refusal v_f_X5_refusal) := goodIn_app (goodIn_of _ (by decide +kernel)) (goodIn_sub (fun _ h => List.mem_cons_of_mem _ (List.mem_append_right _ (List.mem_append_right _ (List.mem_append_left _ h)))) gw_f_X5_refusal)
theorem g_f_X7_partner_f_X5_isAbove_244 : GoodIn v_f_X7_partner (wsV RX7 244 RX5 yX5_isAbove v_f_X5_isAbove) := goodIn_app (goodIn_of _ (by decide +kernel)) (goodIn_sub (fun _ h => List.mem_cons_of_mem _ (List.mem_append_right _ (List.mem_append_right _ (List.mem_append_right _ (List.mem_append_left _ h))))) gw_f_X5_isAbove)
theorem g_f_X7_partner_f_X5_isQuietWith_217 : GoodIn v_f_X7_partner (wsV RX7 217 RX5 yX5_isQuietWith v_f_X5_isQuietWith) := goodIn_app (goodIn_of _ (by decide +kernel)) (goodIn_sub (fun _ h => List.mem_cons_of_mem _ (List.mem_append_right _ (List.mem_append_right _ (List.mem_append_right _ (List.mem_append_right _ (List.mem_append_left _ h)))))) gw_f_X5_isQuietWith)
theorem g_f_X7_partner_f_X5_copyFrom_237 : GoodIn v_f_X7_partner (wsV RX7 237 RX5 yX5_copyFrom v_f_X5_copyFrom) := goodIn_app (goodIn_of _ (by decide +kernel)) (goodIn_sub (fun _ h => List.mem_cons_of_mem _ (List.mem_append_right _ (List.mem_append_right _ (List.mem_append_right _ (List.mem_append_right _ (List.mem_append_right _ (List.mem_append_left _ h))))))) gw_f_X5_copyFrom)
theorem g_f_X7_partner_f_X5_shift_247 : GoodIn v_f_X7_partner (wsV RX7 247 RX5 yX5_shift v_f_X5_shift) := goodIn_app (goodIn_of _ (by decide +kernel)) (goodIn_sub (fun _ h => List.mem_cons_of_mem _ (List.mem_append_right _ (List.mem_append_right _ (List.mem_append_right _ (List.mem_append_right _ (List.mem_append_right _ (List.mem_append_right _ (List.mem_append_left _ h)))))))) gw_f_X5_shift)
theorem g_f_X7_partner_f_X5_sites_117 : GoodIn v_f_X7_partner (wsV RX7 117 RX5 yX5_sites v_f_X5_sites) := goodIn_app (goodIn_of _ (by decide +kernel)) (goodIn_sub (fun _ h => List.mem_cons_of_mem _ (List.mem_append_right _ (List.mem_append_right _ (List.mem_append_right _ (List.mem_append_right _ (List.mem_append_right _ (List.mem_append_right _ (List.mem_append_right _ (List.mem_append_left _ h))))))))) gw_f_X5_sites)
theorem g_f_X7_partner_f_X5_isFrozen_143 : GoodIn v_f_X7_partner (wsV RX7 143 RX5 yX5_isFrozen v_f_X5_isFrozen) := goodIn_app (goodIn_of _ (by decide +kernel)) (goodIn_sub (fun _ h => List.mem_cons_of_mem _ (List.mem_append_right _ (List.mem_append_right _ (List.mem_append_right _ (List.mem_append_right _ (List.mem_append_right _ (List.mem_append_right _ (List.mem_append_right _ (List.mem_append_right _ (List.mem_append_left _ h)))))))))) gw_f_X5_isFrozen)
theorem g_f_X7_partner_f_X5_canShare_251 : GoodIn v_f_X7_partner (wsV RX7 251 RX5 yX5_canShare v_f_X5_canShare) := goodIn_app (goodIn_of _ (by decide +kernel)) (goodIn_sub (fun _ h => List.mem_cons_of_mem _ (List.mem_append_right _ (List.mem_append_right _ (List.mem_append_right _ (List.mem_append_right _ (List.mem_append_right _ (List.mem_append_right _ (List.mem_append_right _ (List.mem_append_right _ (List.mem_append_right _ (List.mem_append_left _ h))))))))))) gw_f_X5_canShare)
theorem hd_X7_partner : yX7_partner.cls = RX7 ∧ yX7_partner.cls ≠ "java/lang/invoke/MethodHandle" ∧ yX7_partner.cls ≠ "java/lang/invoke/VarHandle" ∧ (parseMethodDescriptor yX7_partner.desc).map (fun d => d.parameters.length) = some 3 := by decide +kernel
set_option maxHeartbeats 4000000 in
set_option maxRecDepth 100000 in
theorem wb_X7_partner_64 {p : Program} (l : Launch) {e : Env} {s : State} {m : MethodId} {below : List Frame} {meth : Method} {c : Code} {Q : State → Prop} (E : EE) (K : Nat) {a_ a_tape a_reader a_scripts a_now a_trial a_kept a_book a_keptBook a_history a_draws a_refused a_now_row a_now_partners a_now_share a_now_leftOver a_trial_row a_trial_partners a_trial_share a_trial_leftOver : Nat} {p1 : Int32} {p2 : Int32} {p3 : Int32} {c_hasImage : Int32} {c_now_askedCount : Int32} {c_now_outcome : Int32} {c_now_row : Nat → Int32} {c_trial_askedCount : Int32} {c_trial_outcome : Int32} {x4 : Int32} {c_trial_row : Nat → Int32} {c_trial_share : Nat → Int32} {c_trial_leftOver : Nat → Int32} (hx : p.tables.exec = Jvm.exec) (hb : c.code = cX7_partner) (hml : c.maxLocals = 5) (hown : s.vm.findClass RX7 = some m.cls) (hts : ∀ w ∈ v_f_X7_partner, w.before #[Value.ref a_, Value.int p1, Value.int p2, Value.int p3] s = true) (hK : va_K E.1 vwCl (TY E) s) (hN : NX s) {A : Nat → Prop} (hA : ∀ q : Nat, s.heap.size ≤ q → A q) {xx : (Int32 × (Nat → Int32) × (Nat → Int32)) ⊕ (Nat × Int32 × (Nat → Int32) × (Nat → Int32))} (hC : ∀ (x4 : Int32), ∀ (c_trial_share : Nat → Int32), ∀ (c_trial_leftOver : Nat → Int32), xx = .inl (x4, c_trial_share, c_trial_leftOver) → ∀ (H : Heap) (locs : List Loc) (ls : Array Slot), va_P E.1 vwCl (w_X7_partner E a_ a_tape a_reader a_scripts a_now a_trial a_kept a_book a_keptBook a_history a_draws a_refused a_now_row a_now_partners a_now_share a_now_leftOver a_trial_row a_trial_partners a_trial_share a_trial_leftOver c_hasImage c_now_askedCount c_now_outcome c_now_row c_trial_askedCount c_trial_outcome c_trial_row c_trial_share c_trial_leftOver) H → va_D A (w_X7_partner E a_ a_tape a_reader a_scripts a_now a_trial a_kept a_book a_keptBook a_history a_draws a_refused a_now_row a_now_partners a_now_share a_now_leftOver a_trial_row a_trial_partners a_trial_share a_trial_leftOver c_hasImage c_now_askedCount c_now_outcome c_now_row c_trial_askedCount c_trial_outcome c_trial_row c_trial_share c_trial_leftOver) → va_S A s.heap H locs → lv_has ls 5 [(0, .ref a_), (1, .int p1), (4, .int x4)] → W p l e ({ frames := 4, cells := 0, slots := 0, locals := 92 } : Room) s m #[Value.ref a_, Value.int p1, Value.int p2, Value.int p3] below meth c H locs 0 0 Q (F0 m 64 ls [])) (hE : ∀ (t9 : Nat), ∀ (x4 : Int32), ∀ (c_trial_share : Nat → Int32), ∀ (c_trial_leftOver : Nat → Int32), xx = .inr (t9, x4, c_trial_share, c_trial_leftOver) → ((t9 = 0 → ∀ (H : Heap) (locs : List Loc) (ls : Array Slot), va_P E.1 vwCl (w_X7_partner E a_ a_tape a_reader a_scripts a_now a_trial a_kept a_book a_keptBook a_history a_draws a_refused a_now_row a_now_partners a_now_share a_now_leftOver a_trial_row a_trial_partners a_trial_share a_trial_leftOver c_hasImage c_now_askedCount c_now_outcome c_now_row c_trial_askedCount c_trial_outcome c_trial_row c_trial_share c_trial_leftOver) H → va_D A (w_X7_partner E a_ a_tape a_reader a_scripts a_now a_trial a_kept a_book a_keptBook a_history a_draws a_refused a_now_row a_now_partners a_now_share a_now_leftOver a_trial_row a_trial_partners a_trial_share a_trial_leftOver c_hasImage c_now_askedCount c_now_outcome c_now_row c_trial_askedCount c_trial_outcome c_trial_row c_trial_share c_trial_leftOver) → va_S A s.heap H locs → lv_has ls 5 [(4, .int x4)] → W p l e ({ frames := 4, cells := 0, slots := 0, locals := 92 } : Room) s m #[Value.ref a_, Value.int p1, Value.int p2, Value.int p3] below meth c H locs 0 0 Q (F0 m 112 ls [])) ∧ (t9 = 1 → ∀ (H : Heap) (locs : List Loc) (ls : Array Slot), va_P E.1 vwCl (w_X7_partner E a_ a_tape a_reader a_scripts a_now a_trial a_kept a_book a_keptBook a_history a_draws a_refused a_now_row a_now_partners a_now_share a_now_leftOver a_trial_row a_trial_partners a_trial_share a_trial_leftOver c_hasImage c_now_askedCount c_now_outcome c_now_row c_trial_askedCount c_trial_outcome c_trial_row c_trial_share c_trial_leftOver) H → va_D A (w_X7_partner E a_ a_tape a_reader a_scripts a_now a_trial a_kept a_book a_keptBook a_history a_draws a_refused a_now_row a_now_partners a_now_share a_now_leftOver a_trial_row a_trial_partners a_trial_share a_trial_leftOver c_hasImage c_now_askedCount c_now_outcome c_now_row c_trial_askedCount c_trial_outcome c_trial_row c_trial_share c_trial_leftOver) → va_S A s.heap H locs → lv_has ls 5 [] → W p l e ({ frames := 4, cells := 0, slots := 0, locals := 92 } : Room) s m #[Value.ref a_, Value.int p1, Value.int p2, Value.int p3] below meth c H locs 0 0 Q (F0 m 121 ls [])))) (hF : B_X7_partner_64 K p1 c_trial_row x4 c_trial_share c_trial_leftOver = some xx) : ∀ (H : Heap) (locs : List Loc) (ls : Array Slot), va_P E.1 vwCl (w_X7_partner E a_ a_tape a_reader a_scripts a_now a_trial a_kept a_book a_keptBook a_history a_draws a_refused a_now_row a_now_partners a_now_share a_now_leftOver a_trial_row a_trial_partners a_trial_share a_trial_leftOver c_hasImage c_now_askedCount c_now_outcome c_now_row c_trial_askedCount c_trial_outcome c_trial_row c_trial_share c_trial_leftOver) H → va_D A (w_X7_partner E a_ a_tape a_reader a_scripts a_now a_trial a_kept a_book a_keptBook a_history a_draws a_refused a_now_row a_now_partners a_now_share a_now_leftOver a_trial_row a_trial_partners a_trial_share a_trial_leftOver c_hasImage c_now_askedCount c_now_outcome c_now_row c_trial_askedCount c_trial_outcome c_trial_row c_trial_share c_trial_leftOver) → va_S A s.heap H locs → lv_has ls 5 [(0, .ref a_), (1, .int p1), (4, .int x4)] → W p l e ({ frames := 4, cells := 0, slots := 0, locals := 92 } : Room) s m #[Value.ref a_, Value.int p1, Value.int p2, Value.int p3] below meth c H locs 0 0 Q (F0 m 64 ls []) := by
  unfold B_X7_partner_64 at hF
  intro H locs ls hP hD hS hl
  replace hP : va_P E.1 vwCl [(a_, .inr (8, [.ref a_tape, .ref a_reader, .ref a_scripts, .ref a_now, .ref a_trial, .ref a_kept, .ref a_book, .ref a_keptBook, .ref a_history, .ref a_draws, .ref a_refused, .int c_hasImage])), (a_now, .inr (6, [.ref a_now_row, .ref a_now_partners, .int c_now_askedCount, .int c_now_outcome, .ref a_now_share, .ref a_now_leftOver])), (a_now_row, .inl (E.2.1, 81, .inl c_now_row)), (a_trial, .inr (6, [.ref a_trial_row, .ref a_trial_partners, .int c_trial_askedCount, .int c_trial_outcome, .ref a_trial_share, .ref a_trial_leftOver])), (a_trial_row, .inl (E.2.1, 81, .inl c_trial_row)), (a_trial_share, .inl (E.2.1, 2, .inl c_trial_share)), (a_trial_leftOver, .inl (E.2.1, 2, .inl c_trial_leftOver))] H := hP
  replace hD : va_D A [(a_, .inr (8, [.ref a_tape, .ref a_reader, .ref a_scripts, .ref a_now, .ref a_trial, .ref a_kept, .ref a_book, .ref a_keptBook, .ref a_history, .ref a_draws, .ref a_refused, .int c_hasImage])), (a_now, .inr (6, [.ref a_now_row, .ref a_now_partners, .int c_now_askedCount, .int c_now_outcome, .ref a_now_share, .ref a_now_leftOver])), (a_now_row, .inl (E.2.1, 81, .inl c_now_row)), (a_trial, .inr (6, [.ref a_trial_row, .ref a_trial_partners, .int c_trial_askedCount, .int c_trial_outcome, .ref a_trial_share, .ref a_trial_leftOver])), (a_trial_row, .inl (E.2.1, 81, .inl c_trial_row)), (a_trial_share, .inl (E.2.1, 2, .inl c_trial_share)), (a_trial_leftOver, .inl (E.2.1, 2, .inl c_trial_leftOver))] := hD
  refine lv_iload hx hb dX7_partner_64 (lv_at hl 2 rfl) ?_
  refine lv_aload_n hx hb dX7_partner_66 rfl (lv_at hl 0 rfl) ?_
  refine gt_X7_4 (v := .ref a_trial) hx hb hts i_f_X7_partner_X7 hown hK hP 0 rfl (hts (.fieldLink RX7 39 "HushWatch" "trial" "LHushWatch$State;") (List.mem_of_getElem? (i := 2) rfl)) rfl dX7_partner_67 ?_
  replace hF := bd1_s hF
  obtain ⟨r_16, hc_17, hF⟩ := hF
  have hPc : va_P E.1 vwCl (w_X5_sites E a_trial a_trial_row a_trial_partners a_trial_share a_trial_leftOver c_trial_askedCount c_trial_outcome c_trial_row) H := hP.sub (ws' := [(a_trial, .inr (6, [.ref a_trial_row, .ref a_trial_partners, .int c_trial_askedCount, .int c_trial_outcome, .ref a_trial_share, .ref a_trial_leftOver])), (a_trial_row, .inl (E.2.1, 81, .inl c_trial_row))]) [3, 4] rfl
  have hrc := va_recv hK hPc (ci := 6) (q0 := 0) rfl rfl
  refine pE_i (va_runV (As := []) (rest := [.int x4])  ⟨hx, hb, hml, hown, hts⟩ (f_X5_sites l E (a_ := a_trial) (a_row := a_trial_row) (a_partners := a_trial_partners) (a_share := a_trial_share) (a_leftOver := a_trial_leftOver) (c_askedCount := c_trial_askedCount) (c_outcome := c_trial_outcome) (c_row := c_trial_row) hc_17) (cwV 0 hts g_f_X7_partner_f_X5_sites_117 rfl rfl rfl hd_X5_sites ⟨Nat.le_of_ble_eq_true rfl, Nat.le_of_ble_eq_true rfl⟩) ⟨pP.blind, hrc, (pP.pre ⟨hK, hN⟩ hPc)⟩ rfl rfl hl.1 rfl (lv_room (Nat.le_of_ble_eq_true rfl)) dX7_partner_70 ⟨Nat.le_of_ble_eq_true rfl, Nat.le_of_ble_eq_true rfl⟩) ?_
  refine lv_icmp_ge (tgt := 121) hx hb dX7_partner_73 (by decide) (fun c_18 => ?_) (fun c_18 => ?_)
  ·
    replace hF := ip c_18 hF
    cases hF
    exact (hE 1 x4 c_trial_share c_trial_leftOver rfl).2 rfl H locs ls (hP.sub [0, 1, 2, 3, 4, 5, 6] rfl) (hD.sub [0, 1, 2, 3, 4, 5, 6] (by decide) rfl) hS (lv_sub hl [] rfl)
  ·
    replace hF := inn c_18 hF
    refine lv_iload hx hb dX7_partner_76 (lv_at hl 2 rfl) ?_
    refine lv_iload_n hx hb dX7_partner_78 rfl (lv_at hl 1 rfl) ?_
    refine lv_icmp_eq (tgt := 115) hx hb dX7_partner_79 (by decide) (fun c_19 => ?_) (fun c_19 => ?_)
    ·
      replace hF := ip c_19 hF
      refine lv_iinc (v := x4 + (1 : Int32)) (lv' := [(4, .int (x4 + (1 : Int32))), (0, .ref a_), (1, .int p1)]) hx hb dX7_partner_115 hl (k := 2) rfl (rfl) (by decide) rfl (fun ls hl => ?_)
      refine lv_goto (tgt := 64) hx hb dX7_partner_118 (by decide) ?_
      cases hF
      exact hC (x4 + (1 : Int32)) c_trial_share c_trial_leftOver rfl H locs ls (hP.sub [0, 1, 2, 3, 4, 5, 6] rfl) (hD.sub [0, 1, 2, 3, 4, 5, 6] (by decide) rfl) hS (lv_sub hl [1, 2, 0] rfl)
    ·
      replace hF := inn c_19 hF
      refine lv_aload_n hx hb dX7_partner_82 rfl (lv_at hl 0 rfl) ?_
      refine gt_X7_4 (v := .ref a_trial) hx hb hts i_f_X7_partner_X7 hown hK hP 0 rfl (hts (.fieldLink RX7 39 "HushWatch" "trial" "LHushWatch$State;") (List.mem_of_getElem? (i := 2) rfl)) rfl dX7_partner_83 ?_
      refine lv_iload hx hb dX7_partner_86 (lv_at hl 2 rfl) ?_
      replace hF := bd1_s hF
      obtain ⟨r_20, hc_21, hF⟩ := hF
      have hPc : va_P E.1 vwCl (w_X5_isFrozen E a_trial a_trial_row a_trial_partners a_trial_share a_trial_leftOver c_trial_askedCount c_trial_outcome c_trial_row) H := hP.sub (ws' := [(a_trial, .inr (6, [.ref a_trial_row, .ref a_trial_partners, .int c_trial_askedCount, .int c_trial_outcome, .ref a_trial_share, .ref a_trial_leftOver])), (a_trial_row, .inl (E.2.1, 81, .inl c_trial_row))]) [3, 4] rfl
      have hrc := va_recv hK hPc (ci := 6) (q0 := 0) rfl rfl
      refine pE_z (va_runV (As := [.int x4]) (rest := [])  ⟨hx, hb, hml, hown, hts⟩ (f_X5_isFrozen l E (a_ := a_trial) (a_row := a_trial_row) (a_partners := a_trial_partners) (a_share := a_trial_share) (a_leftOver := a_trial_leftOver) (p1 := x4) (c_askedCount := c_trial_askedCount) (c_outcome := c_trial_outcome) (c_row := c_trial_row) hc_21) (cwV 1 hts g_f_X7_partner_f_X5_isFrozen_143 rfl rfl rfl hd_X5_isFrozen ⟨Nat.le_of_ble_eq_true rfl, Nat.le_of_ble_eq_true rfl⟩) ⟨pP.blind, hrc, (pP.pre ⟨hK, hN⟩ hPc)⟩ rfl rfl hl.1 rfl (lv_room (Nat.le_of_ble_eq_true rfl)) dX7_partner_88 ⟨Nat.le_of_ble_eq_true rfl, Nat.le_of_ble_eq_true rfl⟩) (fun hb_22 => ?_)
      refine lv_if_ne (tgt := 115) hx hb dX7_partner_91 (by decide) (fun c_23 => ?_) (fun c_23 => ?_)
      ·
        replace hF := inn c_23 hF
        refine lv_iinc (v := x4 + (1 : Int32)) (lv' := [(4, .int (x4 + (1 : Int32))), (0, .ref a_), (1, .int p1)]) hx hb dX7_partner_115 hl (k := 2) rfl (rfl) (by decide) rfl (fun ls hl => ?_)
        refine lv_goto (tgt := 64) hx hb dX7_partner_118 (by decide) ?_
        cases hF
        exact hC (x4 + (1 : Int32)) c_trial_share c_trial_leftOver rfl H locs ls (hP.sub [0, 1, 2, 3, 4, 5, 6] rfl) (hD.sub [0, 1, 2, 3, 4, 5, 6] (by decide) rfl) hS (lv_sub hl [1, 2, 0] rfl)
      ·
        replace hF := ip c_23 hF
        refine lv_aload_n hx hb dX7_partner_94 rfl (lv_at hl 0 rfl) ?_
        refine gt_X7_4 (v := .ref a_trial) hx hb hts i_f_X7_partner_X7 hown hK hP 0 rfl (hts (.fieldLink RX7 39 "HushWatch" "trial" "LHushWatch$State;") (List.mem_of_getElem? (i := 2) rfl)) rfl dX7_partner_95 ?_
        refine lv_iconst (v := 1) hx hb dX7_partner_98 (by decide) ?_
        refine lv_iload_n hx hb dX7_partner_99 rfl (lv_at hl 1 rfl) ?_
        refine lv_ishl hx hb dX7_partner_100 ?_
        refine lv_iconst (v := 1) hx hb dX7_partner_101 (by decide) ?_
        refine lv_iload hx hb dX7_partner_102 (lv_at hl 2 rfl) ?_
        refine lv_ishl hx hb dX7_partner_104 ?_
        refine lv_ior hx hb dX7_partner_105 ?_
        replace hF := bd3_s hF
        obtain ⟨r_24, w_25, w_26, hc_27, hF⟩ := hF
        obtain ⟨hPc, hDc, hFc⟩ := wcut (wc := (w_X5_canShare E a_trial a_trial_row a_trial_partners a_trial_share a_trial_leftOver c_trial_askedCount c_trial_outcome c_trial_row c_trial_share c_trial_leftOver)) hP hD hS hA [3, 4, 5, 6] (by decide) rfl
        have hrc := va_recv hK hPc (ci := 6) (q0 := 0) rfl rfl
        refine cE_z (wc := (w_X5_canShare E a_trial a_trial_row a_trial_partners a_trial_share a_trial_leftOver c_trial_askedCount c_trial_outcome c_trial_row c_trial_share c_trial_leftOver)) (wr := [(a_, .inr (8, [.ref a_tape, .ref a_reader, .ref a_scripts, .ref a_now, .ref a_trial, .ref a_kept, .ref a_book, .ref a_keptBook, .ref a_history, .ref a_draws, .ref a_refused, .int c_hasImage])), (a_now, .inr (6, [.ref a_now_row, .ref a_now_partners, .int c_now_askedCount, .int c_now_outcome, .ref a_now_share, .ref a_now_leftOver])), (a_now_row, .inl (E.2.1, 81, .inl c_now_row))]) (w1 := (w_X5_canShare E a_trial a_trial_row a_trial_partners a_trial_share a_trial_leftOver c_trial_askedCount c_trial_outcome c_trial_row w_25 w_26)) (va_runV (As := [.int (((1 : Int32) <<< (p1 &&& (31 : Int32))) ||| ((1 : Int32) <<< (x4 &&& (31 : Int32))))]) (rest := [])  ⟨hx, hb, hml, hown, hts⟩ (f_X5_canShare l E H.size K (a_ := a_trial) (a_row := a_trial_row) (a_partners := a_trial_partners) (a_share := a_trial_share) (a_leftOver := a_trial_leftOver) (p1 := ((1 : Int32) <<< (p1 &&& (31 : Int32))) ||| ((1 : Int32) <<< (x4 &&& (31 : Int32)))) (c_askedCount := c_trial_askedCount) (c_outcome := c_trial_outcome) (c_row := c_trial_row) (c_share := c_trial_share) (c_leftOver := c_trial_leftOver) hc_27) (cwV 1 hts g_f_X7_partner_f_X5_canShare_251 rfl rfl rfl hd_X5_canShare ⟨Nat.le_of_ble_eq_true rfl, Nat.le_of_ble_eq_true rfl⟩) ⟨pW.blind, hrc, (pW.pre ⟨hK, hN⟩ hPc hDc)⟩ rfl rfl hl.1 rfl (lv_room (Nat.le_of_ble_eq_true rfl)) dX7_partner_106 ⟨Nat.le_of_ble_eq_true rfl, Nat.le_of_ble_eq_true rfl⟩) hS hFc hP hD [3, 4, 5, 6] [0, 1, 2] rfl rfl (by decide) (by decide) (fun hb_28 H locs hP hD hS => ?_)
        replace hP : va_P E.1 vwCl [(a_, .inr (8, [.ref a_tape, .ref a_reader, .ref a_scripts, .ref a_now, .ref a_trial, .ref a_kept, .ref a_book, .ref a_keptBook, .ref a_history, .ref a_draws, .ref a_refused, .int c_hasImage])), (a_now, .inr (6, [.ref a_now_row, .ref a_now_partners, .int c_now_askedCount, .int c_now_outcome, .ref a_now_share, .ref a_now_leftOver])), (a_now_row, .inl (E.2.1, 81, .inl c_now_row)), (a_trial, .inr (6, [.ref a_trial_row, .ref a_trial_partners, .int c_trial_askedCount, .int c_trial_outcome, .ref a_trial_share, .ref a_trial_leftOver])), (a_trial_row, .inl (E.2.1, 81, .inl c_trial_row)), (a_trial_share, .inl (E.2.1, 2, .inl w_25)), (a_trial_leftOver, .inl (E.2.1, 2, .inl w_26))] H := hP
        replace hD : va_D A [(a_, .inr (8, [.ref a_tape, .ref a_reader, .ref a_scripts, .ref a_now, .ref a_trial, .ref a_kept, .ref a_book, .ref a_keptBook, .ref a_history, .ref a_draws, .ref a_refused, .int c_hasImage])), (a_now, .inr (6, [.ref a_now_row, .ref a_now_partners, .int c_now_askedCount, .int c_now_outcome, .ref a_now_share, .ref a_now_leftOver])), (a_now_row, .inl (E.2.1, 81, .inl c_now_row)), (a_trial, .inr (6, [.ref a_trial_row, .ref a_trial_partners, .int c_trial_askedCount, .int c_trial_outcome, .ref a_trial_share, .ref a_trial_leftOver])), (a_trial_row, .inl (E.2.1, 81, .inl c_trial_row)), (a_trial_share, .inl (E.2.1, 2, .inl w_25)), (a_trial_leftOver, .inl (E.2.1, 2, .inl w_26))] := hD
        refine lv_if_eq (tgt := 115) hx hb dX7_partner_109 (by decide) (fun c_29 => ?_) (fun c_29 => ?_)
        ·
          replace hF := ip c_29 hF
          refine lv_iinc (v := x4 + (1 : Int32)) (lv' := [(4, .int (x4 + (1 : Int32))), (0, .ref a_), (1, .int p1)]) hx hb dX7_partner_115 hl (k := 2) rfl (rfl) (by decide) rfl (fun ls hl => ?_)
          refine lv_goto (tgt := 64) hx hb dX7_partner_118 (by decide) ?_
          cases hF
          exact hC (x4 + (1 : Int32)) w_25 w_26 rfl H locs ls (hP.sub [0, 1, 2, 3, 4, 5, 6] rfl) (hD.sub [0, 1, 2, 3, 4, 5, 6] (by decide) rfl) hS (lv_sub hl [1, 2, 0] rfl)
        ·
          replace hF := inn c_29 hF
          cases hF
          exact (hE 0 x4 w_25 w_26 rfl).1 rfl H locs ls (hP.sub [0, 1, 2, 3, 4, 5, 6] rfl) (hD.sub [0, 1, 2, 3, 4, 5, 6] (by decide) rfl) hS (lv_sub hl [2] rfl)

set_option maxHeartbeats 4000000 in
set_option maxRecDepth 100000 in
theorem lw_X7_partner_64 {p : Program} (l : Launch) {e : Env} {s : State} {m : MethodId} {below : List Frame} {meth : Method} {c : Code} {Q : State → Prop} (E : EE) (K : Nat) {a_ a_tape a_reader a_scripts a_now a_trial a_kept a_book a_keptBook a_history a_draws a_refused a_now_row a_now_partners a_now_share a_now_leftOver a_trial_row a_trial_partners a_trial_share a_trial_leftOver : Nat} {p1 : Int32} {p2 : Int32} {p3 : Int32} {c_hasImage : Int32} {c_now_askedCount : Int32} {c_now_outcome : Int32} {c_now_row : Nat → Int32} {c_trial_askedCount : Int32} {c_trial_outcome : Int32} {c_trial_row : Nat → Int32} (hx : p.tables.exec = Jvm.exec) (hb : c.code = cX7_partner) (hml : c.maxLocals = 5) (hown : s.vm.findClass RX7 = some m.cls) (hts : ∀ w ∈ v_f_X7_partner, w.before #[Value.ref a_, Value.int p1, Value.int p2, Value.int p3] s = true) (hK : va_K E.1 vwCl (TY E) s) (hN : NX s) {A : Nat → Prop} (hA : ∀ q : Nat, s.heap.size ≤ q → A q) (j9 : Nat) (x4 : Int32) (c_trial_share : Nat → Int32) (c_trial_leftOver : Nat → Int32) (t9' : Nat) (x4' : Int32) (c_trial_share' : Nat → Int32) (c_trial_leftOver' : Nat → Int32) (hL : lpF (fun u9 : Int32 × (Nat → Int32) × (Nat → Int32) => B_X7_partner_64 K p1 c_trial_row u9.1 u9.2.1 u9.2.2) j9 (x4, c_trial_share, c_trial_leftOver) = some (t9', x4', c_trial_share', c_trial_leftOver')) (hX : (t9' = 0 → ∀ (H : Heap) (locs : List Loc) (ls : Array Slot), va_P E.1 vwCl (w_X7_partner E a_ a_tape a_reader a_scripts a_now a_trial a_kept a_book a_keptBook a_history a_draws a_refused a_now_row a_now_partners a_now_share a_now_leftOver a_trial_row a_trial_partners a_trial_share a_trial_leftOver c_hasImage c_now_askedCount c_now_outcome c_now_row c_trial_askedCount c_trial_outcome c_trial_row c_trial_share' c_trial_leftOver') H → va_D A (w_X7_partner E a_ a_tape a_reader a_scripts a_now a_trial a_kept a_book a_keptBook a_history a_draws a_refused a_now_row a_now_partners a_now_share a_now_leftOver a_trial_row a_trial_partners a_trial_share a_trial_leftOver c_hasImage c_now_askedCount c_now_outcome c_now_row c_trial_askedCount c_trial_outcome c_trial_row c_trial_share' c_trial_leftOver') → va_S A s.heap H locs → lv_has ls 5 [(4, .int x4')] → W p l e ({ frames := 4, cells := 0, slots := 0, locals := 92 } : Room) s m #[Value.ref a_, Value.int p1, Value.int p2, Value.int p3] below meth c H locs 0 0 Q (F0 m 112 ls [])) ∧ (t9' = 1 → ∀ (H : Heap) (locs : List Loc) (ls : Array Slot), va_P E.1 vwCl (w_X7_partner E a_ a_tape a_reader a_scripts a_now a_trial a_kept a_book a_keptBook a_history a_draws a_refused a_now_row a_now_partners a_now_share a_now_leftOver a_trial_row a_trial_partners a_trial_share a_trial_leftOver c_hasImage c_now_askedCount c_now_outcome c_now_row c_trial_askedCount c_trial_outcome c_trial_row c_trial_share' c_trial_leftOver') H → va_D A (w_X7_partner E a_ a_tape a_reader a_scripts a_now a_trial a_kept a_book a_keptBook a_history a_draws a_refused a_now_row a_now_partners a_now_share a_now_leftOver a_trial_row a_trial_partners a_trial_share a_trial_leftOver c_hasImage c_now_askedCount c_now_outcome c_now_row c_trial_askedCount c_trial_outcome c_trial_row c_trial_share' c_trial_leftOver') → va_S A s.heap H locs → lv_has ls 5 [] → W p l e ({ frames := 4, cells := 0, slots := 0, locals := 92 } : Room) s m #[Value.ref a_, Value.int p1, Value.int p2, Value.int p3] below meth c H locs 0 0 Q (F0 m 121 ls []))) : ∀ (H : Heap) (locs : List Loc) (ls : Array Slot), va_P E.1 vwCl (w_X7_partner E a_ a_tape a_reader a_scripts a_now a_trial a_kept a_book a_keptBook a_history a_draws a_refused a_now_row a_now_partners a_now_share a_now_leftOver a_trial_row a_trial_partners a_trial_share a_trial_leftOver c_hasImage c_now_askedCount c_now_outcome c_now_row c_trial_askedCount c_trial_outcome c_trial_row c_trial_share c_trial_leftOver) H → va_D A (w_X7_partner E a_ a_tape a_reader a_scripts a_now a_trial a_kept a_book a_keptBook a_history a_draws a_refused a_now_row a_now_partners a_now_share a_now_leftOver a_trial_row a_trial_partners a_trial_share a_trial_leftOver c_hasImage c_now_askedCount c_now_outcome c_now_row c_trial_askedCount c_trial_outcome c_trial_row c_trial_share c_trial_leftOver) → va_S A s.heap H locs → lv_has ls 5 [(0, .ref a_), (1, .int p1), (4, .int x4)] → W p l e ({ frames := 4, cells := 0, slots := 0, locals := 92 } : Room) s m #[Value.ref a_, Value.int p1, Value.int p2, Value.int p3] below meth c H locs 0 0 Q (F0 m 64 ls []) := by
  exact lp_rule (P := (fun u9 : Int32 × (Nat → Int32) × (Nat → Int32) => ∀ (H : Heap) (locs : List Loc) (ls : Array Slot), va_P E.1 vwCl (w_X7_partner E a_ a_tape a_reader a_scripts a_now a_trial a_kept a_book a_keptBook a_history a_draws a_refused a_now_row a_now_partners a_now_share a_now_leftOver a_trial_row a_trial_partners a_trial_share a_trial_leftOver c_hasImage c_now_askedCount c_now_outcome c_now_row c_trial_askedCount c_trial_outcome c_trial_row u9.2.1 u9.2.2) H → va_D A (w_X7_partner E a_ a_tape a_reader a_scripts a_now a_trial a_kept a_book a_keptBook a_history a_draws a_refused a_now_row a_now_partners a_now_share a_now_leftOver a_trial_row a_trial_partners a_trial_share a_trial_leftOver c_hasImage c_now_askedCount c_now_outcome c_now_row c_trial_askedCount c_trial_outcome c_trial_row u9.2.1 u9.2.2) → va_S A s.heap H locs → lv_has ls 5 [(0, .ref a_), (1, .int p1), (4, .int u9.1)] → W p l e ({ frames := 4, cells := 0, slots := 0, locals := 92 } : Room) s m #[Value.ref a_, Value.int p1, Value.int p2, Value.int p3] below meth c H locs 0 0 Q (F0 m 64 ls []))) (R := (fun r9 : Nat × Int32 × (Nat → Int32) × (Nat → Int32) => (r9.1 = 0 → ∀ (H : Heap) (locs : List Loc) (ls : Array Slot), va_P E.1 vwCl (w_X7_partner E a_ a_tape a_reader a_scripts a_now a_trial a_kept a_book a_keptBook a_history a_draws a_refused a_now_row a_now_partners a_now_share a_now_leftOver a_trial_row a_trial_partners a_trial_share a_trial_leftOver c_hasImage c_now_askedCount c_now_outcome c_now_row c_trial_askedCount c_trial_outcome c_trial_row r9.2.2.1 r9.2.2.2) H → va_D A (w_X7_partner E a_ a_tape a_reader a_scripts a_now a_trial a_kept a_book a_keptBook a_history a_draws a_refused a_now_row a_now_partners a_now_share a_now_leftOver a_trial_row a_trial_partners a_trial_share a_trial_leftOver c_hasImage c_now_askedCount c_now_outcome c_now_row c_trial_askedCount c_trial_outcome c_trial_row r9.2.2.1 r9.2.2.2) → va_S A s.heap H locs → lv_has ls 5 [(4, .int r9.2.1)] → W p l e ({ frames := 4, cells := 0, slots := 0, locals := 92 } : Room) s m #[Value.ref a_, Value.int p1, Value.int p2, Value.int p3] below meth c H locs 0 0 Q (F0 m 112 ls [])) ∧ (r9.1 = 1 → ∀ (H : Heap) (locs : List Loc) (ls : Array Slot), va_P E.1 vwCl (w_X7_partner E a_ a_tape a_reader a_scripts a_now a_trial a_kept a_book a_keptBook a_history a_draws a_refused a_now_row a_now_partners a_now_share a_now_leftOver a_trial_row a_trial_partners a_trial_share a_trial_leftOver c_hasImage c_now_askedCount c_now_outcome c_now_row c_trial_askedCount c_trial_outcome c_trial_row r9.2.2.1 r9.2.2.2) H → va_D A (w_X7_partner E a_ a_tape a_reader a_scripts a_now a_trial a_kept a_book a_keptBook a_history a_draws a_refused a_now_row a_now_partners a_now_share a_now_leftOver a_trial_row a_trial_partners a_trial_share a_trial_leftOver c_hasImage c_now_askedCount c_now_outcome c_now_row c_trial_askedCount c_trial_outcome c_trial_row r9.2.2.1 r9.2.2.2) → va_S A s.heap H locs → lv_has ls 5 [] → W p l e ({ frames := 4, cells := 0, slots := 0, locals := 92 } : Room) s m #[Value.ref a_, Value.int p1, Value.int p2, Value.int p3] below meth c H locs 0 0 Q (F0 m 121 ls [])))) (fun u9 xx hF hC hE => wb_X7_partner_64 l E K (p1 := p1) (p2 := p2) (p3 := p3) (c_hasImage := c_hasImage) (c_now_askedCount := c_now_askedCount) (c_now_outcome := c_now_outcome) (c_now_row := c_now_row) (c_trial_askedCount := c_trial_askedCount) (c_trial_outcome := c_trial_outcome) (x4 := u9.1) (c_trial_row := c_trial_row) (c_trial_share := u9.2.1) (c_trial_leftOver := u9.2.2) hx hb hml hown hts hK hN hA (fun x4 c_trial_share c_trial_leftOver q9 => hC _ q9) (fun t9 x4 c_trial_share c_trial_leftOver q9 => hE _ q9) hF) j9 (x4, c_trial_share, c_trial_leftOver) (t9', x4', c_trial_share', c_trial_leftOver') hL hX

set_option maxHeartbeats 4000000 in
set_option maxRecDepth 100000 in
theorem f_X7_partner (l : Launch) (E : EE) (sz : Nat) (K : Nat) {a_ a_tape a_reader a_scripts a_now a_trial a_kept a_book a_keptBook a_history a_draws a_refused a_now_row a_now_partners a_now_share a_now_leftOver a_trial_row a_trial_partners a_trial_share a_trial_leftOver : Nat} {p1 : Int32} {p2 : Int32} {p3 : Int32} {c_hasImage : Int32} {c_now_askedCount : Int32} {c_now_outcome : Int32} {c_now_row : Nat → Int32} {c_trial_askedCount : Int32} {c_trial_outcome : Int32} {c_trial_row : Nat → Int32} {c_trial_share : Nat → Int32} {c_trial_leftOver : Nat → Int32} {rr : Int32} {n_trial_row : Nat → Int32} {n_trial_share : Nat → Int32} {n_trial_leftOver : Nat → Int32} (hF : F_X7_partner K p1 p2 p3 c_now_row c_trial_row c_trial_share c_trial_leftOver = some (rr, n_trial_row, n_trial_share, n_trial_leftOver)) : Met l yX7_partner v_f_X7_partner (({ frames := 4, cells := 0, slots := 0, locals := 92 } : Room)) (va_Pc [.ref a_, .int p1, .int p2, .int p3] (pW E sz (w_X7_partner E a_ a_tape a_reader a_scripts a_now a_trial a_kept a_book a_keptBook a_history a_draws a_refused a_now_row a_now_partners a_now_share a_now_leftOver a_trial_row a_trial_partners a_trial_share a_trial_leftOver c_hasImage c_now_askedCount c_now_outcome c_now_row c_trial_askedCount c_trial_outcome c_trial_row c_trial_share c_trial_leftOver))) (va_Qi (fun (q : Int32) (_u : Unit) => q = rr) (fun (_u : Unit) tt => va_P E.1 vwCl (w_X7_partner E a_ a_tape a_reader a_scripts a_now a_trial a_kept a_book a_keptBook a_history a_draws a_refused a_now_row a_now_partners a_now_share a_now_leftOver a_trial_row a_trial_partners a_trial_share a_trial_leftOver c_hasImage c_now_askedCount c_now_outcome c_now_row c_trial_askedCount c_trial_outcome n_trial_row n_trial_share n_trial_leftOver) tt.heap ∧ va_D (va_A (w_X7_partner E a_ a_tape a_reader a_scripts a_now a_trial a_kept a_book a_keptBook a_history a_draws a_refused a_now_row a_now_partners a_now_share a_now_leftOver a_trial_row a_trial_partners a_trial_share a_trial_leftOver c_hasImage c_now_askedCount c_now_outcome c_now_row c_trial_askedCount c_trial_outcome c_trial_row c_trial_share c_trial_leftOver) sz) (w_X7_partner E a_ a_tape a_reader a_scripts a_now a_trial a_kept a_book a_keptBook a_history a_draws a_refused a_now_row a_now_partners a_now_share a_now_leftOver a_trial_row a_trial_partners a_trial_share a_trial_leftOver c_hasImage c_now_askedCount c_now_outcome c_now_row c_trial_askedCount c_trial_outcome n_trial_row n_trial_share n_trial_leftOver)) (va_A (w_X7_partner E a_ a_tape a_reader a_scripts a_now a_trial a_kept a_book a_keptBook a_history a_draws a_refused a_now_row a_now_partners a_now_share a_now_leftOver a_trial_row a_trial_partners a_trial_share a_trial_leftOver c_hasImage c_now_askedCount c_now_outcome c_now_row c_trial_askedCount c_trial_outcome c_trial_row c_trial_share c_trial_leftOver) sz)) 0 0 (va_A (w_X7_partner E a_ a_tape a_reader a_scripts a_now a_trial a_kept a_book a_keptBook a_history a_draws a_refused a_now_row a_now_partners a_now_share a_now_leftOver a_trial_row a_trial_partners a_trial_share a_trial_leftOver c_hasImage c_now_askedCount c_now_outcome c_now_row c_trial_askedCount c_trial_outcome c_trial_row c_trial_share c_trial_leftOver) sz) := by
  refine Met.ofW (cc := cX7_partner) (maxL := 5) (ret := (some .int)) (by decide) rfl ?_
  intro p e s m args below meth c s₁ B hml hv
  obtain ⟨rfl, hsz, ⟨hK, hN⟩, hP, hD0⟩ := hv
  have hx := B.exec
  have hb := B.bytes
  have hr := B.returns
  have hts := atoms_spec (ws := v_f_X7_partner) B.pre
  have hown : s.vm.findClass RX7 = some m.cls := own_of hd_X7_partner.1 (findClass_of_methodNamed B.named)
  have hlocks : meth.locks = false := B.notSynchronized
  subst hsz
  have hD := hD0.self (sz := s.heap.size)
  generalize hAe : va_A (w_X7_partner E a_ a_tape a_reader a_scripts a_now a_trial a_kept a_book a_keptBook a_history a_draws a_refused a_now_row a_now_partners a_now_share a_now_leftOver a_trial_row a_trial_partners a_trial_share a_trial_leftOver c_hasImage c_now_askedCount c_now_outcome c_now_row c_trial_askedCount c_trial_outcome c_trial_row c_trial_share c_trial_leftOver) s.heap.size = A at hD ⊢
  have hA : ∀ q : Nat, s.heap.size ≤ q → A q := fun q h => by rw [← hAe]; exact Or.inr h
  have hS : va_S A s.heap s.heap [] := va_S.rf
  have hl := lv_entry ([.ref a_, .int p1, .int p2, .int p3]) (n := 5) (Nat.le_of_ble_eq_true rfl)
  rw [lg_entry_eq]
  generalize (lg_sl ([.ref a_, .int p1, .int p2, .int p3]) ++ List.replicate (5 - (lg_sl ([.ref a_, .int p1, .int p2, .int p3])).length) Slot.unset).toArray = ls at hl ⊢
  have hl : lv_has ls 5 [(0, .ref a_), (1, .int p1), (2, .int p2), (3, .int p3)] := hl
  obtain ⟨Q, hQ⟩ : ∃ Q : State → Prop, Q = MQ below (va_Qi (fun (q : Int32) (_u : Unit) => q = rr) (fun (_u : Unit) tt => va_P E.1 vwCl (w_X7_partner E a_ a_tape a_reader a_scripts a_now a_trial a_kept a_book a_keptBook a_history a_draws a_refused a_now_row a_now_partners a_now_share a_now_leftOver a_trial_row a_trial_partners a_trial_share a_trial_leftOver c_hasImage c_now_askedCount c_now_outcome c_now_row c_trial_askedCount c_trial_outcome n_trial_row n_trial_share n_trial_leftOver) tt.heap ∧ va_D A (w_X7_partner E a_ a_tape a_reader a_scripts a_now a_trial a_kept a_book a_keptBook a_history a_draws a_refused a_now_row a_now_partners a_now_share a_now_leftOver a_trial_row a_trial_partners a_trial_share a_trial_leftOver c_hasImage c_now_askedCount c_now_outcome c_now_row c_trial_askedCount c_trial_outcome n_trial_row n_trial_share n_trial_leftOver)) A) #[Value.ref a_, Value.int p1, Value.int p2, Value.int p3] s 0 0 A := ⟨_, rfl⟩
  rw [← hQ]
  change W p l e ({ frames := 4, cells := 0, slots := 0, locals := 92 } : Room) s m #[Value.ref a_, Value.int p1, Value.int p2, Value.int p3] below meth c s.heap [] 0 0 Q (F0 m 0 ls [])
  suffices hh9 : ∀ (H : Heap) (locs : List Loc), va_P E.1 vwCl (w_X7_partner E a_ a_tape a_reader a_scripts a_now a_trial a_kept a_book a_keptBook a_history a_draws a_refused a_now_row a_now_partners a_now_share a_now_leftOver a_trial_row a_trial_partners a_trial_share a_trial_leftOver c_hasImage c_now_askedCount c_now_outcome c_now_row c_trial_askedCount c_trial_outcome c_trial_row c_trial_share c_trial_leftOver) H → va_D A (w_X7_partner E a_ a_tape a_reader a_scripts a_now a_trial a_kept a_book a_keptBook a_history a_draws a_refused a_now_row a_now_partners a_now_share a_now_leftOver a_trial_row a_trial_partners a_trial_share a_trial_leftOver c_hasImage c_now_askedCount c_now_outcome c_now_row c_trial_askedCount c_trial_outcome c_trial_row c_trial_share c_trial_leftOver) → va_S A s.heap H locs → W p l e ({ frames := 4, cells := 0, slots := 0, locals := 92 } : Room) s m #[Value.ref a_, Value.int p1, Value.int p2, Value.int p3] below meth c H locs 0 0 Q (F0 m 0 ls []) from hh9 s.heap [] hP hD hS
  clear hP hD hS
  intro H locs hP hD hS
  replace hP : va_P E.1 vwCl [(a_, .inr (8, [.ref a_tape, .ref a_reader, .ref a_scripts, .ref a_now, .ref a_trial, .ref a_kept, .ref a_book, .ref a_keptBook, .ref a_history, .ref a_draws, .ref a_refused, .int c_hasImage])), (a_now, .inr (6, [.ref a_now_row, .ref a_now_partners, .int c_now_askedCount, .int c_now_outcome, .ref a_now_share, .ref a_now_leftOver])), (a_now_row, .inl (E.2.1, 81, .inl c_now_row)), (a_trial, .inr (6, [.ref a_trial_row, .ref a_trial_partners, .int c_trial_askedCount, .int c_trial_outcome, .ref a_trial_share, .ref a_trial_leftOver])), (a_trial_row, .inl (E.2.1, 81, .inl c_trial_row)), (a_trial_share, .inl (E.2.1, 2, .inl c_trial_share)), (a_trial_leftOver, .inl (E.2.1, 2, .inl c_trial_leftOver))] H := hP
  replace hD : va_D A [(a_, .inr (8, [.ref a_tape, .ref a_reader, .ref a_scripts, .ref a_now, .ref a_trial, .ref a_kept, .ref a_book, .ref a_keptBook, .ref a_history, .ref a_draws, .ref a_refused, .int c_hasImage])), (a_now, .inr (6, [.ref a_now_row, .ref a_now_partners, .int c_now_askedCount, .int c_now_outcome, .ref a_now_share, .ref a_now_leftOver])), (a_now_row, .inl (E.2.1, 81, .inl c_now_row)), (a_trial, .inr (6, [.ref a_trial_row, .ref a_trial_partners, .int c_trial_askedCount, .int c_trial_outcome, .ref a_trial_share, .ref a_trial_leftOver])), (a_trial_row, .inl (E.2.1, 81, .inl c_trial_row)), (a_trial_share, .inl (E.2.1, 2, .inl c_trial_share)), (a_trial_leftOver, .inl (E.2.1, 2, .inl c_trial_leftOver))] := hD
  unfold F_X7_partner at hF
  refine lv_aload_n hx hb dX7_partner_0 rfl (lv_at hl 0 rfl) ?_
  refine gt_X7_3 (v := .ref a_now) hx hb hts i_f_X7_partner_X7 hown hK hP 0 rfl (hts (.fieldLink RX7 35 "HushWatch" "now" "LHushWatch$State;") (List.mem_of_getElem? (i := 1) rfl)) rfl dX7_partner_1 ?_
  refine lv_iconst (v := 0) hx hb dX7_partner_4 (by decide) ?_
  refine lv_iload_n hx hb dX7_partner_5 rfl (lv_at hl 1 rfl) ?_
  refine lv_iload_n hx hb dX7_partner_6 rfl (lv_at hl 2 rfl) ?_
  refine lv_iload_n hx hb dX7_partner_7 rfl (lv_at hl 3 rfl) ?_
  replace hF := bd1_s hF
  obtain ⟨r_1, hc_2, hF⟩ := hF
  have hPc : va_P E.1 vwCl (w_X5_refusal E a_now a_now_row a_now_partners a_now_share a_now_leftOver c_now_askedCount c_now_outcome c_now_row) H := hP.sub (ws' := [(a_now, .inr (6, [.ref a_now_row, .ref a_now_partners, .int c_now_askedCount, .int c_now_outcome, .ref a_now_share, .ref a_now_leftOver])), (a_now_row, .inl (E.2.1, 81, .inl c_now_row))]) [1, 2] rfl
  have hrc := va_recv hK hPc (ci := 6) (q0 := 0) rfl rfl
  refine pE_i (va_runV (As := [.int (0 : Int32), .int p1, .int p2, .int p3]) (rest := [])  ⟨hx, hb, hml, hown, hts⟩ (f_X5_refusal l E (a_ := a_now) (a_row := a_now_row) (a_partners := a_now_partners) (a_share := a_now_share) (a_leftOver := a_now_leftOver) (p1 := (0 : Int32)) (p2 := p1) (p3 := p2) (p4 := p3) (c_askedCount := c_now_askedCount) (c_outcome := c_now_outcome) (c_row := c_now_row) hc_2) (cwV 4 hts g_f_X7_partner_f_X5_refusal_220 rfl rfl rfl hd_X5_refusal ⟨Nat.le_of_ble_eq_true rfl, Nat.le_of_ble_eq_true rfl⟩) ⟨pP.blind, hrc, (pP.pre ⟨hK, hN⟩ hPc)⟩ rfl rfl hl.1 rfl (lv_room (Nat.le_of_ble_eq_true rfl)) dX7_partner_8 ⟨Nat.le_of_ble_eq_true rfl, Nat.le_of_ble_eq_true rfl⟩) ?_
  refine lv_iconst (v := -1) hx hb dX7_partner_11 (by decide) ?_
  refine lv_icmp_ne (tgt := 38) hx hb dX7_partner_12 (by decide) (fun c_3 => ?_) (fun c_3 => ?_)
  ·
    replace hF := inn c_3 hF
    refine lv_iconst (v := -1) hx hb dX7_partner_38 (by decide) ?_
    rw [hQ]
    have h9 := fin9 (P := fun u9 : Int32 × (Nat → Int32) × (Nat → Int32) × (Nat → Int32) => (-1 : Int32) = u9.1 ∧ va_P E.1 vwCl (w_X7_partner E a_ a_tape a_reader a_scripts a_now a_trial a_kept a_book a_keptBook a_history a_draws a_refused a_now_row a_now_partners a_now_share a_now_leftOver a_trial_row a_trial_partners a_trial_share a_trial_leftOver c_hasImage c_now_askedCount c_now_outcome c_now_row c_trial_askedCount c_trial_outcome u9.2.1 u9.2.2.1 u9.2.2.2) H ∧ va_D A (w_X7_partner E a_ a_tape a_reader a_scripts a_now a_trial a_kept a_book a_keptBook a_history a_draws a_refused a_now_row a_now_partners a_now_share a_now_leftOver a_trial_row a_trial_partners a_trial_share a_trial_leftOver c_hasImage c_now_askedCount c_now_outcome c_now_row c_trial_askedCount c_trial_outcome u9.2.1 u9.2.2.1 u9.2.2.2)) hF ⟨rfl, hP, hD⟩
    obtain ⟨e9_0, hP9, hD9⟩ := h9
    exact W.iret (v := (-1 : Int32)) hx hb hr (fun tt ht hW => ⟨⟨_, (), rfl, e9_0, ht ▸ hP9, hD9⟩, hS.F ht⟩) hS.2.2 dX7_partner_39
  ·
    replace hF := ip c_3 hF
    refine lv_aload_n hx hb dX7_partner_15 rfl (lv_at hl 0 rfl) ?_
    refine gt_X7_3 (v := .ref a_now) hx hb hts i_f_X7_partner_X7 hown hK hP 0 rfl (hts (.fieldLink RX7 35 "HushWatch" "now" "LHushWatch$State;") (List.mem_of_getElem? (i := 1) rfl)) rfl dX7_partner_16 ?_
    replace hF := bd1_s hF
    obtain ⟨r_4, hc_5, hF⟩ := hF
    have hPc : va_P E.1 vwCl (w_X5_isAbove E a_now a_now_row a_now_partners a_now_share a_now_leftOver c_now_askedCount c_now_outcome c_now_row) H := hP.sub (ws' := [(a_now, .inr (6, [.ref a_now_row, .ref a_now_partners, .int c_now_askedCount, .int c_now_outcome, .ref a_now_share, .ref a_now_leftOver])), (a_now_row, .inl (E.2.1, 81, .inl c_now_row))]) [1, 2] rfl
    have hrc := va_recv hK hPc (ci := 6) (q0 := 0) rfl rfl
    refine pE_z (va_runV (As := []) (rest := [])  ⟨hx, hb, hml, hown, hts⟩ (f_X5_isAbove l E (a_ := a_now) (a_row := a_now_row) (a_partners := a_now_partners) (a_share := a_now_share) (a_leftOver := a_now_leftOver) (c_askedCount := c_now_askedCount) (c_outcome := c_now_outcome) (c_row := c_now_row) hc_5) (cwV 0 hts g_f_X7_partner_f_X5_isAbove_244 rfl rfl rfl hd_X5_isAbove ⟨Nat.le_of_ble_eq_true rfl, Nat.le_of_ble_eq_true rfl⟩) ⟨pP.blind, hrc, (pP.pre ⟨hK, hN⟩ hPc)⟩ rfl rfl hl.1 rfl (lv_room (Nat.le_of_ble_eq_true rfl)) dX7_partner_19 ⟨Nat.le_of_ble_eq_true rfl, Nat.le_of_ble_eq_true rfl⟩) (fun hb_6 => ?_)
    refine lv_if_ne (tgt := 38) hx hb dX7_partner_22 (by decide) (fun c_7 => ?_) (fun c_7 => ?_)
    ·
      replace hF := inn c_7 hF
      refine lv_iconst (v := -1) hx hb dX7_partner_38 (by decide) ?_
      rw [hQ]
      have h9 := fin9 (P := fun u9 : Int32 × (Nat → Int32) × (Nat → Int32) × (Nat → Int32) => (-1 : Int32) = u9.1 ∧ va_P E.1 vwCl (w_X7_partner E a_ a_tape a_reader a_scripts a_now a_trial a_kept a_book a_keptBook a_history a_draws a_refused a_now_row a_now_partners a_now_share a_now_leftOver a_trial_row a_trial_partners a_trial_share a_trial_leftOver c_hasImage c_now_askedCount c_now_outcome c_now_row c_trial_askedCount c_trial_outcome u9.2.1 u9.2.2.1 u9.2.2.2) H ∧ va_D A (w_X7_partner E a_ a_tape a_reader a_scripts a_now a_trial a_kept a_book a_keptBook a_history a_draws a_refused a_now_row a_now_partners a_now_share a_now_leftOver a_trial_row a_trial_partners a_trial_share a_trial_leftOver c_hasImage c_now_askedCount c_now_outcome c_now_row c_trial_askedCount c_trial_outcome u9.2.1 u9.2.2.1 u9.2.2.2)) hF ⟨rfl, hP, hD⟩
      obtain ⟨e9_0, hP9, hD9⟩ := h9
      exact W.iret (v := (-1 : Int32)) hx hb hr (fun tt ht hW => ⟨⟨_, (), rfl, e9_0, ht ▸ hP9, hD9⟩, hS.F ht⟩) hS.2.2 dX7_partner_39
    ·
      replace hF := ip c_7 hF
      refine lv_aload_n hx hb dX7_partner_25 rfl (lv_at hl 0 rfl) ?_
      refine gt_X7_3 (v := .ref a_now) hx hb hts i_f_X7_partner_X7 hown hK hP 0 rfl (hts (.fieldLink RX7 35 "HushWatch" "now" "LHushWatch$State;") (List.mem_of_getElem? (i := 1) rfl)) rfl dX7_partner_26 ?_
      refine lv_iload_n hx hb dX7_partner_29 rfl (lv_at hl 1 rfl) ?_
      refine lv_iload_n hx hb dX7_partner_30 rfl (lv_at hl 2 rfl) ?_
      refine lv_iload_n hx hb dX7_partner_31 rfl (lv_at hl 3 rfl) ?_
      replace hF := bd1_s hF
      obtain ⟨r_8, hc_9, hF⟩ := hF
      have hPc : va_P E.1 vwCl (w_X5_isQuietWith E a_now a_now_row a_now_partners a_now_share a_now_leftOver c_now_askedCount c_now_outcome c_now_row) H := hP.sub (ws' := [(a_now, .inr (6, [.ref a_now_row, .ref a_now_partners, .int c_now_askedCount, .int c_now_outcome, .ref a_now_share, .ref a_now_leftOver])), (a_now_row, .inl (E.2.1, 81, .inl c_now_row))]) [1, 2] rfl
      have hrc := va_recv hK hPc (ci := 6) (q0 := 0) rfl rfl
      refine pE_z (va_runV (As := [.int p1, .int p2, .int p3]) (rest := [])  ⟨hx, hb, hml, hown, hts⟩ (f_X5_isQuietWith l E (a_ := a_now) (a_row := a_now_row) (a_partners := a_now_partners) (a_share := a_now_share) (a_leftOver := a_now_leftOver) (p1 := p1) (p2 := p2) (p3 := p3) (c_askedCount := c_now_askedCount) (c_outcome := c_now_outcome) (c_row := c_now_row) hc_9) (cwV 3 hts g_f_X7_partner_f_X5_isQuietWith_217 rfl rfl rfl hd_X5_isQuietWith ⟨Nat.le_of_ble_eq_true rfl, Nat.le_of_ble_eq_true rfl⟩) ⟨pP.blind, hrc, (pP.pre ⟨hK, hN⟩ hPc)⟩ rfl rfl hl.1 rfl (lv_room (Nat.le_of_ble_eq_true rfl)) dX7_partner_32 ⟨Nat.le_of_ble_eq_true rfl, Nat.le_of_ble_eq_true rfl⟩) (fun hb_10 => ?_)
      refine lv_if_eq (tgt := 40) hx hb dX7_partner_35 (by decide) (fun c_11 => ?_) (fun c_11 => ?_)
      ·
        replace hF := ip c_11 hF
        refine lv_aload_n hx hb dX7_partner_40 rfl (lv_at hl 0 rfl) ?_
        refine gt_X7_4 (v := .ref a_trial) hx hb hts i_f_X7_partner_X7 hown hK hP 0 rfl (hts (.fieldLink RX7 39 "HushWatch" "trial" "LHushWatch$State;") (List.mem_of_getElem? (i := 2) rfl)) rfl dX7_partner_41 ?_
        refine lv_aload_n hx hb dX7_partner_44 rfl (lv_at hl 0 rfl) ?_
        refine gt_X7_3 (v := .ref a_now) hx hb hts i_f_X7_partner_X7 hown hK hP 0 rfl (hts (.fieldLink RX7 35 "HushWatch" "now" "LHushWatch$State;") (List.mem_of_getElem? (i := 1) rfl)) rfl dX7_partner_45 ?_
        replace hF := bd1_s hF
        obtain ⟨w_12, hc_13, hF⟩ := hF
        obtain ⟨hPc, hDc, hFc⟩ := wcut (wc := (w_X5_copyFrom E a_trial a_trial_row a_trial_partners a_trial_share a_trial_leftOver a_now a_now_row a_now_partners a_now_share a_now_leftOver c_trial_askedCount c_trial_outcome c_trial_row c_now_askedCount c_now_outcome c_now_row)) hP hD hS hA [3, 4, 1, 2] (by decide) rfl
        have hrc := va_recv hK hPc (ci := 6) (q0 := 0) rfl rfl
        refine cE_v (wc := (w_X5_copyFrom E a_trial a_trial_row a_trial_partners a_trial_share a_trial_leftOver a_now a_now_row a_now_partners a_now_share a_now_leftOver c_trial_askedCount c_trial_outcome c_trial_row c_now_askedCount c_now_outcome c_now_row)) (wr := [(a_, .inr (8, [.ref a_tape, .ref a_reader, .ref a_scripts, .ref a_now, .ref a_trial, .ref a_kept, .ref a_book, .ref a_keptBook, .ref a_history, .ref a_draws, .ref a_refused, .int c_hasImage])), (a_trial_share, .inl (E.2.1, 2, .inl c_trial_share)), (a_trial_leftOver, .inl (E.2.1, 2, .inl c_trial_leftOver))]) (w1 := (w_X5_copyFrom E a_trial a_trial_row a_trial_partners a_trial_share a_trial_leftOver a_now a_now_row a_now_partners a_now_share a_now_leftOver c_trial_askedCount c_trial_outcome w_12 c_now_askedCount c_now_outcome c_now_row)) (va_runV (As := [.ref a_now]) (rest := [])  ⟨hx, hb, hml, hown, hts⟩ (f_X5_copyFrom l E H.size (a_ := a_trial) (a_row := a_trial_row) (a_partners := a_trial_partners) (a_share := a_trial_share) (a_leftOver := a_trial_leftOver) (a_o1 := a_now) (a_o1_row := a_now_row) (a_o1_partners := a_now_partners) (a_o1_share := a_now_share) (a_o1_leftOver := a_now_leftOver) (c_askedCount := c_trial_askedCount) (c_outcome := c_trial_outcome) (c_row := c_trial_row) (c_o1_askedCount := c_now_askedCount) (c_o1_outcome := c_now_outcome) (c_o1_row := c_now_row) hc_13) (cwV 1 hts g_f_X7_partner_f_X5_copyFrom_237 rfl rfl rfl hd_X5_copyFrom ⟨Nat.le_of_ble_eq_true rfl, Nat.le_of_ble_eq_true rfl⟩) ⟨pW.blind, hrc, (pW.pre ⟨hK, hN⟩ hPc hDc)⟩ rfl rfl hl.1 rfl (lv_room (Nat.le_of_ble_eq_true rfl)) dX7_partner_48 ⟨Nat.le_of_ble_eq_true rfl, Nat.le_of_ble_eq_true rfl⟩) hS hFc hP hD [3, 4, 1, 2] [0, 5, 6] rfl rfl (by decide) (by decide) (fun H locs hP hD hS => ?_)
        replace hP : va_P E.1 vwCl [(a_, .inr (8, [.ref a_tape, .ref a_reader, .ref a_scripts, .ref a_now, .ref a_trial, .ref a_kept, .ref a_book, .ref a_keptBook, .ref a_history, .ref a_draws, .ref a_refused, .int c_hasImage])), (a_trial_share, .inl (E.2.1, 2, .inl c_trial_share)), (a_trial_leftOver, .inl (E.2.1, 2, .inl c_trial_leftOver)), (a_trial, .inr (6, [.ref a_trial_row, .ref a_trial_partners, .int c_trial_askedCount, .int c_trial_outcome, .ref a_trial_share, .ref a_trial_leftOver])), (a_trial_row, .inl (E.2.1, 81, .inl w_12)), (a_now, .inr (6, [.ref a_now_row, .ref a_now_partners, .int c_now_askedCount, .int c_now_outcome, .ref a_now_share, .ref a_now_leftOver])), (a_now_row, .inl (E.2.1, 81, .inl c_now_row))] H := hP
        replace hD : va_D A [(a_, .inr (8, [.ref a_tape, .ref a_reader, .ref a_scripts, .ref a_now, .ref a_trial, .ref a_kept, .ref a_book, .ref a_keptBook, .ref a_history, .ref a_draws, .ref a_refused, .int c_hasImage])), (a_trial_share, .inl (E.2.1, 2, .inl c_trial_share)), (a_trial_leftOver, .inl (E.2.1, 2, .inl c_trial_leftOver)), (a_trial, .inr (6, [.ref a_trial_row, .ref a_trial_partners, .int c_trial_askedCount, .int c_trial_outcome, .ref a_trial_share, .ref a_trial_leftOver])), (a_trial_row, .inl (E.2.1, 81, .inl w_12)), (a_now, .inr (6, [.ref a_now_row, .ref a_now_partners, .int c_now_askedCount, .int c_now_outcome, .ref a_now_share, .ref a_now_leftOver])), (a_now_row, .inl (E.2.1, 81, .inl c_now_row))] := hD
        refine lv_aload_n hx hb dX7_partner_51 rfl (lv_at hl 0 rfl) ?_
        refine gt_X7_4 (v := .ref a_trial) hx hb hts i_f_X7_partner_X7 hown hK hP 0 rfl (hts (.fieldLink RX7 39 "HushWatch" "trial" "LHushWatch$State;") (List.mem_of_getElem? (i := 2) rfl)) rfl dX7_partner_52 ?_
        refine lv_iload_n hx hb dX7_partner_55 rfl (lv_at hl 1 rfl) ?_
        refine lv_iload_n hx hb dX7_partner_56 rfl (lv_at hl 2 rfl) ?_
        refine lv_iload_n hx hb dX7_partner_57 rfl (lv_at hl 3 rfl) ?_
        replace hF := bd1_s hF
        obtain ⟨w_14, hc_15, hF⟩ := hF
        obtain ⟨hPc, hDc, hFc⟩ := wcut (wc := (w_X5_shift E a_trial a_trial_row a_trial_partners a_trial_share a_trial_leftOver c_trial_askedCount c_trial_outcome w_12)) hP hD hS hA [3, 4] (by decide) rfl
        have hrc := va_recv hK hPc (ci := 6) (q0 := 0) rfl rfl
        refine cE_v (wc := (w_X5_shift E a_trial a_trial_row a_trial_partners a_trial_share a_trial_leftOver c_trial_askedCount c_trial_outcome w_12)) (wr := [(a_, .inr (8, [.ref a_tape, .ref a_reader, .ref a_scripts, .ref a_now, .ref a_trial, .ref a_kept, .ref a_book, .ref a_keptBook, .ref a_history, .ref a_draws, .ref a_refused, .int c_hasImage])), (a_trial_share, .inl (E.2.1, 2, .inl c_trial_share)), (a_trial_leftOver, .inl (E.2.1, 2, .inl c_trial_leftOver)), (a_now, .inr (6, [.ref a_now_row, .ref a_now_partners, .int c_now_askedCount, .int c_now_outcome, .ref a_now_share, .ref a_now_leftOver])), (a_now_row, .inl (E.2.1, 81, .inl c_now_row))]) (w1 := (w_X5_shift E a_trial a_trial_row a_trial_partners a_trial_share a_trial_leftOver c_trial_askedCount c_trial_outcome w_14)) (va_runV (As := [.int p1, .int p2, .int p3]) (rest := [])  ⟨hx, hb, hml, hown, hts⟩ (f_X5_shift l E H.size (a_ := a_trial) (a_row := a_trial_row) (a_partners := a_trial_partners) (a_share := a_trial_share) (a_leftOver := a_trial_leftOver) (p1 := p1) (p2 := p2) (p3 := p3) (c_askedCount := c_trial_askedCount) (c_outcome := c_trial_outcome) (c_row := w_12) hc_15) (cwV 3 hts g_f_X7_partner_f_X5_shift_247 rfl rfl rfl hd_X5_shift ⟨Nat.le_of_ble_eq_true rfl, Nat.le_of_ble_eq_true rfl⟩) ⟨pW.blind, hrc, (pW.pre ⟨hK, hN⟩ hPc hDc)⟩ rfl rfl hl.1 rfl (lv_room (Nat.le_of_ble_eq_true rfl)) dX7_partner_58 ⟨Nat.le_of_ble_eq_true rfl, Nat.le_of_ble_eq_true rfl⟩) hS hFc hP hD [3, 4] [0, 1, 2, 5, 6] rfl rfl (by decide) (by decide) (fun H locs hP hD hS => ?_)
        replace hP : va_P E.1 vwCl [(a_, .inr (8, [.ref a_tape, .ref a_reader, .ref a_scripts, .ref a_now, .ref a_trial, .ref a_kept, .ref a_book, .ref a_keptBook, .ref a_history, .ref a_draws, .ref a_refused, .int c_hasImage])), (a_trial_share, .inl (E.2.1, 2, .inl c_trial_share)), (a_trial_leftOver, .inl (E.2.1, 2, .inl c_trial_leftOver)), (a_now, .inr (6, [.ref a_now_row, .ref a_now_partners, .int c_now_askedCount, .int c_now_outcome, .ref a_now_share, .ref a_now_leftOver])), (a_now_row, .inl (E.2.1, 81, .inl c_now_row)), (a_trial, .inr (6, [.ref a_trial_row, .ref a_trial_partners, .int c_trial_askedCount, .int c_trial_outcome, .ref a_trial_share, .ref a_trial_leftOver])), (a_trial_row, .inl (E.2.1, 81, .inl w_14))] H := hP
        replace hD : va_D A [(a_, .inr (8, [.ref a_tape, .ref a_reader, .ref a_scripts, .ref a_now, .ref a_trial, .ref a_kept, .ref a_book, .ref a_keptBook, .ref a_history, .ref a_draws, .ref a_refused, .int c_hasImage])), (a_trial_share, .inl (E.2.1, 2, .inl c_trial_share)), (a_trial_leftOver, .inl (E.2.1, 2, .inl c_trial_leftOver)), (a_now, .inr (6, [.ref a_now_row, .ref a_now_partners, .int c_now_askedCount, .int c_now_outcome, .ref a_now_share, .ref a_now_leftOver])), (a_now_row, .inl (E.2.1, 81, .inl c_now_row)), (a_trial, .inr (6, [.ref a_trial_row, .ref a_trial_partners, .int c_trial_askedCount, .int c_trial_outcome, .ref a_trial_share, .ref a_trial_leftOver])), (a_trial_row, .inl (E.2.1, 81, .inl w_14))] := hD
        refine lv_iconst (v := 0) hx hb dX7_partner_61 (by decide) ?_
        refine lv_istore (lv' := [(4, .int (0 : Int32)), (0, .ref a_), (1, .int p1), (2, .int p2), (3, .int p3)]) hx hb dX7_partner_62 hl (by decide) rfl (fun ls hl => ?_)
        replace hF := bd4_s hF
        obtain ⟨t_30, x4_31, c_trial_share_32, c_trial_leftOver_33, hL_34, hF⟩ := hF
        refine lw_X7_partner_64 l E K (p1 := p1) (p2 := p2) (p3 := p3) (c_hasImage := c_hasImage) (c_now_askedCount := c_now_askedCount) (c_now_outcome := c_now_outcome) (c_now_row := c_now_row) (c_trial_askedCount := c_trial_askedCount) (c_trial_outcome := c_trial_outcome) (c_trial_row := w_14) hx hb hml hown hts hK hN hA K (0 : Int32) c_trial_share c_trial_leftOver t_30 x4_31 c_trial_share_32 c_trial_leftOver_33 hL_34 ⟨?_, ?_⟩ H locs ls (hP.sub [0, 3, 4, 5, 6, 1, 2] rfl) (hD.sub [0, 3, 4, 5, 6, 1, 2] (by decide) rfl) hS (lv_sub hl [1, 2, 0] rfl)
        ·
          intro t9
          replace hF := ip t9 hF
          intro H locs ls hP hD hS hl
          replace hP : va_P E.1 vwCl [(a_, .inr (8, [.ref a_tape, .ref a_reader, .ref a_scripts, .ref a_now, .ref a_trial, .ref a_kept, .ref a_book, .ref a_keptBook, .ref a_history, .ref a_draws, .ref a_refused, .int c_hasImage])), (a_now, .inr (6, [.ref a_now_row, .ref a_now_partners, .int c_now_askedCount, .int c_now_outcome, .ref a_now_share, .ref a_now_leftOver])), (a_now_row, .inl (E.2.1, 81, .inl c_now_row)), (a_trial, .inr (6, [.ref a_trial_row, .ref a_trial_partners, .int c_trial_askedCount, .int c_trial_outcome, .ref a_trial_share, .ref a_trial_leftOver])), (a_trial_row, .inl (E.2.1, 81, .inl w_14)), (a_trial_share, .inl (E.2.1, 2, .inl c_trial_share_32)), (a_trial_leftOver, .inl (E.2.1, 2, .inl c_trial_leftOver_33))] H := hP
          replace hD : va_D A [(a_, .inr (8, [.ref a_tape, .ref a_reader, .ref a_scripts, .ref a_now, .ref a_trial, .ref a_kept, .ref a_book, .ref a_keptBook, .ref a_history, .ref a_draws, .ref a_refused, .int c_hasImage])), (a_now, .inr (6, [.ref a_now_row, .ref a_now_partners, .int c_now_askedCount, .int c_now_outcome, .ref a_now_share, .ref a_now_leftOver])), (a_now_row, .inl (E.2.1, 81, .inl c_now_row)), (a_trial, .inr (6, [.ref a_trial_row, .ref a_trial_partners, .int c_trial_askedCount, .int c_trial_outcome, .ref a_trial_share, .ref a_trial_leftOver])), (a_trial_row, .inl (E.2.1, 81, .inl w_14)), (a_trial_share, .inl (E.2.1, 2, .inl c_trial_share_32)), (a_trial_leftOver, .inl (E.2.1, 2, .inl c_trial_leftOver_33))] := hD
          refine lv_iload hx hb dX7_partner_112 (lv_at hl 0 rfl) ?_
          rw [hQ]
          have h9 := fin9 (P := fun u9 : Int32 × (Nat → Int32) × (Nat → Int32) × (Nat → Int32) => x4_31 = u9.1 ∧ va_P E.1 vwCl (w_X7_partner E a_ a_tape a_reader a_scripts a_now a_trial a_kept a_book a_keptBook a_history a_draws a_refused a_now_row a_now_partners a_now_share a_now_leftOver a_trial_row a_trial_partners a_trial_share a_trial_leftOver c_hasImage c_now_askedCount c_now_outcome c_now_row c_trial_askedCount c_trial_outcome u9.2.1 u9.2.2.1 u9.2.2.2) H ∧ va_D A (w_X7_partner E a_ a_tape a_reader a_scripts a_now a_trial a_kept a_book a_keptBook a_history a_draws a_refused a_now_row a_now_partners a_now_share a_now_leftOver a_trial_row a_trial_partners a_trial_share a_trial_leftOver c_hasImage c_now_askedCount c_now_outcome c_now_row c_trial_askedCount c_trial_outcome u9.2.1 u9.2.2.1 u9.2.2.2)) hF ⟨rfl, hP, hD⟩
          obtain ⟨e9_0, hP9, hD9⟩ := h9
          exact W.iret (v := x4_31) hx hb hr (fun tt ht hW => ⟨⟨_, (), rfl, e9_0, ht ▸ hP9, hD9⟩, hS.F ht⟩) hS.2.2 dX7_partner_114
        ·
          intro t9
          replace hF := inn (show ¬ t_30 = 0 by omega) hF
          replace hF := ip t9 hF
          intro H locs ls hP hD hS hl
          replace hP : va_P E.1 vwCl [(a_, .inr (8, [.ref a_tape, .ref a_reader, .ref a_scripts, .ref a_now, .ref a_trial, .ref a_kept, .ref a_book, .ref a_keptBook, .ref a_history, .ref a_draws, .ref a_refused, .int c_hasImage])), (a_now, .inr (6, [.ref a_now_row, .ref a_now_partners, .int c_now_askedCount, .int c_now_outcome, .ref a_now_share, .ref a_now_leftOver])), (a_now_row, .inl (E.2.1, 81, .inl c_now_row)), (a_trial, .inr (6, [.ref a_trial_row, .ref a_trial_partners, .int c_trial_askedCount, .int c_trial_outcome, .ref a_trial_share, .ref a_trial_leftOver])), (a_trial_row, .inl (E.2.1, 81, .inl w_14)), (a_trial_share, .inl (E.2.1, 2, .inl c_trial_share_32)), (a_trial_leftOver, .inl (E.2.1, 2, .inl c_trial_leftOver_33))] H := hP
          replace hD : va_D A [(a_, .inr (8, [.ref a_tape, .ref a_reader, .ref a_scripts, .ref a_now, .ref a_trial, .ref a_kept, .ref a_book, .ref a_keptBook, .ref a_history, .ref a_draws, .ref a_refused, .int c_hasImage])), (a_now, .inr (6, [.ref a_now_row, .ref a_now_partners, .int c_now_askedCount, .int c_now_outcome, .ref a_now_share, .ref a_now_leftOver])), (a_now_row, .inl (E.2.1, 81, .inl c_now_row)), (a_trial, .inr (6, [.ref a_trial_row, .ref a_trial_partners, .int c_trial_askedCount, .int c_trial_outcome, .ref a_trial_share, .ref a_trial_leftOver])), (a_trial_row, .inl (E.2.1, 81, .inl w_14)), (a_trial_share, .inl (E.2.1, 2, .inl c_trial_share_32)), (a_trial_leftOver, .inl (E.2.1, 2, .inl c_trial_leftOver_33))] := hD
          refine lv_iconst (v := -1) hx hb dX7_partner_121 (by decide) ?_
          rw [hQ]
          have h9 := fin9 (P := fun u9 : Int32 × (Nat → Int32) × (Nat → Int32) × (Nat → Int32) => (-1 : Int32) = u9.1 ∧ va_P E.1 vwCl (w_X7_partner E a_ a_tape a_reader a_scripts a_now a_trial a_kept a_book a_keptBook a_history a_draws a_refused a_now_row a_now_partners a_now_share a_now_leftOver a_trial_row a_trial_partners a_trial_share a_trial_leftOver c_hasImage c_now_askedCount c_now_outcome c_now_row c_trial_askedCount c_trial_outcome u9.2.1 u9.2.2.1 u9.2.2.2) H ∧ va_D A (w_X7_partner E a_ a_tape a_reader a_scripts a_now a_trial a_kept a_book a_keptBook a_history a_draws a_refused a_now_row a_now_partners a_now_share a_now_leftOver a_trial_row a_trial_partners a_trial_share a_trial_leftOver c_hasImage c_now_askedCount c_now_outcome c_now_row c_trial_askedCount c_trial_outcome u9.2.1 u9.2.2.1 u9.2.2.2)) hF ⟨rfl, hP, hD⟩
          obtain ⟨e9_0, hP9, hD9⟩ := h9
          exact W.iret (v := (-1 : Int32)) hx hb hr (fun tt ht hW => ⟨⟨_, (), rfl, e9_0, ht ▸ hP9, hD9⟩, hS.F ht⟩) hS.2.2 dX7_partner_122
      ·
        replace hF := inn c_11 hF
        refine lv_iconst (v := -1) hx hb dX7_partner_38 (by decide) ?_
        rw [hQ]
        have h9 := fin9 (P := fun u9 : Int32 × (Nat → Int32) × (Nat → Int32) × (Nat → Int32) => (-1 : Int32) = u9.1 ∧ va_P E.1 vwCl (w_X7_partner E a_ a_tape a_reader a_scripts a_now a_trial a_kept a_book a_keptBook a_history a_draws a_refused a_now_row a_now_partners a_now_share a_now_leftOver a_trial_row a_trial_partners a_trial_share a_trial_leftOver c_hasImage c_now_askedCount c_now_outcome c_now_row c_trial_askedCount c_trial_outcome u9.2.1 u9.2.2.1 u9.2.2.2) H ∧ va_D A (w_X7_partner E a_ a_tape a_reader a_scripts a_now a_trial a_kept a_book a_keptBook a_history a_draws a_refused a_now_row a_now_partners a_now_share a_now_leftOver a_trial_row a_trial_partners a_trial_share a_trial_leftOver c_hasImage c_now_askedCount c_now_outcome c_now_row c_trial_askedCount c_trial_outcome u9.2.1 u9.2.2.1 u9.2.2.2)) hF ⟨rfl, hP, hD⟩
        obtain ⟨e9_0, hP9, hD9⟩ := h9
        exact W.iret (v := (-1 : Int32)) hx hb hr (fun tt ht hW => ⟨⟨_, (), rfl, e9_0, ht ▸ hP9, hD9⟩, hS.F ht⟩) hS.2.2 dX7_partner_39
end
-- 40.pub05
section
def dl_X7_perform_40_pub05_0 : List (Nat × Instr × Nat) := [(34, .iload_n 3, 1), (35, .iload_n 2, 1), (36, .if_icmp .ge 63, 3), (39, .aload_n 0, 1), (40, .aload_n 0, 1), (41, .getfield 28, 3), (44, .iload_n 1, 1), (45, .iload_n 3, 1), (46, .invokevirtual 299, 3), (49, .aload_n 0, 1), (50, .getfield 28, 3), (53, .iload_n 1, 1), (54, .iload_n 3, 1), (55, .iconst 1, 1), (56, .invokevirtual 288, 3), (59, .aload_n 0, 1), (60, .getfield 28, 3), (63, .iload_n 1, 1), (64, .iload_n 3, 1), (65, .iconst 2, 1), (66, .invokevirtual 288, 3), (69, .aload_n 0, 1), (70, .getfield 28, 3), (73, .iload_n 1, 1), (74, .iload_n 3, 1), (75, .iconst 3, 1), (76, .invokevirtual 288, 3), (79, .iconst 0, 1), (80, .invokevirtual 163, 3), (83, .istore 4, 2), (85, .iload 4, 2), (87, .iconst (-1), 1), (88, .if_icmp .ne 5, 3), (93, .iinc 3 1, 3), (96, .goto (-62), 3), (0, .aload_n 0, 1), (1, .getfield 28, 3), (4, .iload_n 1, 1), (5, .invokevirtual 290, 3), (8, .ifCond .eq 13, 3), (21, .iconst (-1), 1), (22, .ireturn, 1), (11, .aload_n 0, 1), (12, .getfield 35, 3), (15, .invokevirtual 110, 3), (18, .ifCond .ne 5, 3), (23, .aload_n 0, 1), (24, .getfield 28, 3), (27, .iload_n 1, 1), (28, .invokevirtual 293, 3)]
set_option maxRecDepth 100000 in
theorem dall_X7_perform_40_pub05_0 : dchk cX7_perform dl_X7_perform_40_pub05_0 = true := by decide +kernel
theorem dX7_perform_34 : decode cX7_perform 34 = .ok (.iload_n 3, 1) := dchk_at dall_X7_perform_40_pub05_0 (k := 0) rfl
theorem dX7_perform_35 : decode cX7_perform 35 = .ok (.iload_n 2, 1) := dchk_at dall_X7_perform_40_pub05_0 (k := 1) rfl
theorem dX7_perform_36 : decode cX7_perform 36 = .ok (.if_icmp .ge 63, 3) := dchk_at dall_X7_perform_40_pub05_0 (k := 2) rfl
theorem dX7_perform_39 : decode cX7_perform 39 = .ok (.aload_n 0, 1) := dchk_at dall_X7_perform_40_pub05_0 (k := 3) rfl
theorem dX7_perform_40 : decode cX7_perform 40 = .ok (.aload_n 0, 1) := dchk_at dall_X7_perform_40_pub05_0 (k := 4) rfl
theorem dX7_perform_41 : decode cX7_perform 41 = .ok (.getfield 28, 3) := dchk_at dall_X7_perform_40_pub05_0 (k := 5) rfl
theorem dX7_perform_44 : decode cX7_perform 44 = .ok (.iload_n 1, 1) := dchk_at dall_X7_perform_40_pub05_0 (k := 6) rfl
theorem dX7_perform_45 : decode cX7_perform 45 = .ok (.iload_n 3, 1) := dchk_at dall_X7_perform_40_pub05_0 (k := 7) rfl
theorem dX7_perform_46 : decode cX7_perform 46 = .ok (.invokevirtual 299, 3) := dchk_at dall_X7_perform_40_pub05_0 (k := 8) rfl
theorem dX7_perform_49 : decode cX7_perform 49 = .ok (.aload_n 0, 1) := dchk_at dall_X7_perform_40_pub05_0 (k := 9) rfl
theorem dX7_perform_50 : decode cX7_perform 50 = .ok (.getfield 28, 3) := dchk_at dall_X7_perform_40_pub05_0 (k := 10) rfl
theorem dX7_perform_53 : decode cX7_perform 53 = .ok (.iload_n 1, 1) := dchk_at dall_X7_perform_40_pub05_0 (k := 11) rfl
theorem dX7_perform_54 : decode cX7_perform 54 = .ok (.iload_n 3, 1) := dchk_at dall_X7_perform_40_pub05_0 (k := 12) rfl
theorem dX7_perform_55 : decode cX7_perform 55 = .ok (.iconst 1, 1) := dchk_at dall_X7_perform_40_pub05_0 (k := 13) rfl
theorem dX7_perform_56 : decode cX7_perform 56 = .ok (.invokevirtual 288, 3) := dchk_at dall_X7_perform_40_pub05_0 (k := 14) rfl
theorem dX7_perform_59 : decode cX7_perform 59 = .ok (.aload_n 0, 1) := dchk_at dall_X7_perform_40_pub05_0 (k := 15) rfl
theorem dX7_perform_60 : decode cX7_perform 60 = .ok (.getfield 28, 3) := dchk_at dall_X7_perform_40_pub05_0 (k := 16) rfl
theorem dX7_perform_63 : decode cX7_perform 63 = .ok (.iload_n 1, 1) := dchk_at dall_X7_perform_40_pub05_0 (k := 17) rfl
theorem dX7_perform_64 : decode cX7_perform 64 = .ok (.iload_n 3, 1) := dchk_at dall_X7_perform_40_pub05_0 (k := 18) rfl
theorem dX7_perform_65 : decode cX7_perform 65 = .ok (.iconst 2, 1) := dchk_at dall_X7_perform_40_pub05_0 (k := 19) rfl
theorem dX7_perform_66 : decode cX7_perform 66 = .ok (.invokevirtual 288, 3) := dchk_at dall_X7_perform_40_pub05_0 (k := 20) rfl
theorem dX7_perform_69 : decode cX7_perform 69 = .ok (.aload_n 0, 1) := dchk_at dall_X7_perform_40_pub05_0 (k := 21) rfl
theorem dX7_perform_70 : decode cX7_perform 70 = .ok (.getfield 28, 3) := dchk_at dall_X7_perform_40_pub05_0 (k := 22) rfl
theorem dX7_perform_73 : decode cX7_perform 73 = .ok (.iload_n 1, 1) := dchk_at dall_X7_perform_40_pub05_0 (k := 23) rfl
theorem dX7_perform_74 : decode cX7_perform 74 = .ok (.iload_n 3, 1) := dchk_at dall_X7_perform_40_pub05_0 (k := 24) rfl
theorem dX7_perform_75 : decode cX7_perform 75 = .ok (.iconst 3, 1) := dchk_at dall_X7_perform_40_pub05_0 (k := 25) rfl
theorem dX7_perform_76 : decode cX7_perform 76 = .ok (.invokevirtual 288, 3) := dchk_at dall_X7_perform_40_pub05_0 (k := 26) rfl
theorem dX7_perform_79 : decode cX7_perform 79 = .ok (.iconst 0, 1) := dchk_at dall_X7_perform_40_pub05_0 (k := 27) rfl
theorem dX7_perform_80 : decode cX7_perform 80 = .ok (.invokevirtual 163, 3) := dchk_at dall_X7_perform_40_pub05_0 (k := 28) rfl
theorem dX7_perform_83 : decode cX7_perform 83 = .ok (.istore 4, 2) := dchk_at dall_X7_perform_40_pub05_0 (k := 29) rfl
theorem dX7_perform_85 : decode cX7_perform 85 = .ok (.iload 4, 2) := dchk_at dall_X7_perform_40_pub05_0 (k := 30) rfl
theorem dX7_perform_87 : decode cX7_perform 87 = .ok (.iconst (-1), 1) := dchk_at dall_X7_perform_40_pub05_0 (k := 31) rfl
theorem dX7_perform_88 : decode cX7_perform 88 = .ok (.if_icmp .ne 5, 3) := dchk_at dall_X7_perform_40_pub05_0 (k := 32) rfl
theorem dX7_perform_93 : decode cX7_perform 93 = .ok (.iinc 3 1, 3) := dchk_at dall_X7_perform_40_pub05_0 (k := 33) rfl
theorem dX7_perform_96 : decode cX7_perform 96 = .ok (.goto (-62), 3) := dchk_at dall_X7_perform_40_pub05_0 (k := 34) rfl
theorem dX7_perform_0 : decode cX7_perform 0 = .ok (.aload_n 0, 1) := dchk_at dall_X7_perform_40_pub05_0 (k := 35) rfl
theorem dX7_perform_1 : decode cX7_perform 1 = .ok (.getfield 28, 3) := dchk_at dall_X7_perform_40_pub05_0 (k := 36) rfl
theorem dX7_perform_4 : decode cX7_perform 4 = .ok (.iload_n 1, 1) := dchk_at dall_X7_perform_40_pub05_0 (k := 37) rfl
theorem dX7_perform_5 : decode cX7_perform 5 = .ok (.invokevirtual 290, 3) := dchk_at dall_X7_perform_40_pub05_0 (k := 38) rfl
theorem dX7_perform_8 : decode cX7_perform 8 = .ok (.ifCond .eq 13, 3) := dchk_at dall_X7_perform_40_pub05_0 (k := 39) rfl
theorem dX7_perform_21 : decode cX7_perform 21 = .ok (.iconst (-1), 1) := dchk_at dall_X7_perform_40_pub05_0 (k := 40) rfl
theorem dX7_perform_22 : decode cX7_perform 22 = .ok (.ireturn, 1) := dchk_at dall_X7_perform_40_pub05_0 (k := 41) rfl
theorem dX7_perform_11 : decode cX7_perform 11 = .ok (.aload_n 0, 1) := dchk_at dall_X7_perform_40_pub05_0 (k := 42) rfl
theorem dX7_perform_12 : decode cX7_perform 12 = .ok (.getfield 35, 3) := dchk_at dall_X7_perform_40_pub05_0 (k := 43) rfl
theorem dX7_perform_15 : decode cX7_perform 15 = .ok (.invokevirtual 110, 3) := dchk_at dall_X7_perform_40_pub05_0 (k := 44) rfl
theorem dX7_perform_18 : decode cX7_perform 18 = .ok (.ifCond .ne 5, 3) := dchk_at dall_X7_perform_40_pub05_0 (k := 45) rfl
theorem dX7_perform_23 : decode cX7_perform 23 = .ok (.aload_n 0, 1) := dchk_at dall_X7_perform_40_pub05_0 (k := 46) rfl
theorem dX7_perform_24 : decode cX7_perform 24 = .ok (.getfield 28, 3) := dchk_at dall_X7_perform_40_pub05_0 (k := 47) rfl
theorem dX7_perform_27 : decode cX7_perform 27 = .ok (.iload_n 1, 1) := dchk_at dall_X7_perform_40_pub05_0 (k := 48) rfl
theorem dX7_perform_28 : decode cX7_perform 28 = .ok (.invokevirtual 293, 3) := dchk_at dall_X7_perform_40_pub05_0 (k := 49) rfl
def dl_X7_perform_40_pub05_1 : List (Nat × Instr × Nat) := [(31, .istore_n 2, 1), (32, .iconst 0, 1), (33, .istore_n 3, 1), (91, .iload_n 3, 1), (92, .ireturn, 1), (99, .iload_n 2, 1), (100, .ireturn, 1)]
set_option maxRecDepth 100000 in
theorem dall_X7_perform_40_pub05_1 : dchk cX7_perform dl_X7_perform_40_pub05_1 = true := by decide +kernel
theorem dX7_perform_31 : decode cX7_perform 31 = .ok (.istore_n 2, 1) := dchk_at dall_X7_perform_40_pub05_1 (k := 0) rfl
theorem dX7_perform_32 : decode cX7_perform 32 = .ok (.iconst 0, 1) := dchk_at dall_X7_perform_40_pub05_1 (k := 1) rfl
theorem dX7_perform_33 : decode cX7_perform 33 = .ok (.istore_n 3, 1) := dchk_at dall_X7_perform_40_pub05_1 (k := 2) rfl
theorem dX7_perform_91 : decode cX7_perform 91 = .ok (.iload_n 3, 1) := dchk_at dall_X7_perform_40_pub05_1 (k := 3) rfl
theorem dX7_perform_92 : decode cX7_perform 92 = .ok (.ireturn, 1) := dchk_at dall_X7_perform_40_pub05_1 (k := 4) rfl
theorem dX7_perform_99 : decode cX7_perform 99 = .ok (.iload_n 2, 1) := dchk_at dall_X7_perform_40_pub05_1 (k := 5) rfl
theorem dX7_perform_100 : decode cX7_perform 100 = .ok (.ireturn, 1) := dchk_at dall_X7_perform_40_pub05_1 (k := 6) rfl
def dl_X7_race_40_pub05_0 : List (Nat × Instr × Nat) := [(46, .iload 6, 2), (48, .aload_n 0, 1), (49, .getfield 35, 3), (52, .invokevirtual 117, 3), (55, .if_icmp .ge 81, 3), (58, .aload_n 0, 1), (59, .getfield 35, 3), (62, .iload 6, 2), (64, .invokevirtual 143, 3), (67, .ifCond .eq 6, 3), (73, .aload_n 0, 1), (74, .getfield 35, 3), (77, .iload 6, 2), (79, .iload 5, 2), (81, .iload_n 1, 1), (82, .imul, 1), (83, .iload 5, 2), (85, .iload_n 2, 1), (86, .imul, 1), (87, .invokevirtual 213, 3), (90, .ifCond .ne 5, 3), (95, .iinc 4 1, 3), (98, .aload_n 0, 1), (99, .getfield 35, 3), (102, .iload 6, 2), (104, .iload 5, 2), (106, .iload_n 1, 1), (107, .imul, 1), (108, .iload 5, 2), (110, .iload_n 2, 1), (111, .imul, 1), (112, .invokevirtual 217, 3), (115, .ifCond .ne 15, 3), (130, .iinc 6 1, 3), (133, .goto (-87), 3), (70, .goto 60, 3), (35, .iload 5, 2), (37, .sipush 200, 3), (40, .if_icmp .gt 102, 3), (43, .iconst 0, 1), (44, .istore 6, 2), (136, .iinc 5 1, 3), (139, .goto (-104), 3), (0, .aload_n 0, 1), (1, .getfield 35, 3), (4, .invokevirtual 110, 3), (7, .ifCond .eq 20, 3), (27, .iconst (-1), 1), (28, .ireturn, 1), (10, .iload_n 1, 1)]
set_option maxRecDepth 100000 in
theorem dall_X7_race_40_pub05_0 : dchk cX7_race dl_X7_race_40_pub05_0 = true := by decide +kernel
theorem dX7_race_46 : decode cX7_race 46 = .ok (.iload 6, 2) := dchk_at dall_X7_race_40_pub05_0 (k := 0) rfl
theorem dX7_race_48 : decode cX7_race 48 = .ok (.aload_n 0, 1) := dchk_at dall_X7_race_40_pub05_0 (k := 1) rfl
theorem dX7_race_49 : decode cX7_race 49 = .ok (.getfield 35, 3) := dchk_at dall_X7_race_40_pub05_0 (k := 2) rfl
theorem dX7_race_52 : decode cX7_race 52 = .ok (.invokevirtual 117, 3) := dchk_at dall_X7_race_40_pub05_0 (k := 3) rfl
theorem dX7_race_55 : decode cX7_race 55 = .ok (.if_icmp .ge 81, 3) := dchk_at dall_X7_race_40_pub05_0 (k := 4) rfl
theorem dX7_race_58 : decode cX7_race 58 = .ok (.aload_n 0, 1) := dchk_at dall_X7_race_40_pub05_0 (k := 5) rfl
theorem dX7_race_59 : decode cX7_race 59 = .ok (.getfield 35, 3) := dchk_at dall_X7_race_40_pub05_0 (k := 6) rfl
theorem dX7_race_62 : decode cX7_race 62 = .ok (.iload 6, 2) := dchk_at dall_X7_race_40_pub05_0 (k := 7) rfl
theorem dX7_race_64 : decode cX7_race 64 = .ok (.invokevirtual 143, 3) := dchk_at dall_X7_race_40_pub05_0 (k := 8) rfl
theorem dX7_race_67 : decode cX7_race 67 = .ok (.ifCond .eq 6, 3) := dchk_at dall_X7_race_40_pub05_0 (k := 9) rfl
theorem dX7_race_73 : decode cX7_race 73 = .ok (.aload_n 0, 1) := dchk_at dall_X7_race_40_pub05_0 (k := 10) rfl
theorem dX7_race_74 : decode cX7_race 74 = .ok (.getfield 35, 3) := dchk_at dall_X7_race_40_pub05_0 (k := 11) rfl
theorem dX7_race_77 : decode cX7_race 77 = .ok (.iload 6, 2) := dchk_at dall_X7_race_40_pub05_0 (k := 12) rfl
theorem dX7_race_79 : decode cX7_race 79 = .ok (.iload 5, 2) := dchk_at dall_X7_race_40_pub05_0 (k := 13) rfl
theorem dX7_race_81 : decode cX7_race 81 = .ok (.iload_n 1, 1) := dchk_at dall_X7_race_40_pub05_0 (k := 14) rfl
theorem dX7_race_82 : decode cX7_race 82 = .ok (.imul, 1) := dchk_at dall_X7_race_40_pub05_0 (k := 15) rfl
theorem dX7_race_83 : decode cX7_race 83 = .ok (.iload 5, 2) := dchk_at dall_X7_race_40_pub05_0 (k := 16) rfl
theorem dX7_race_85 : decode cX7_race 85 = .ok (.iload_n 2, 1) := dchk_at dall_X7_race_40_pub05_0 (k := 17) rfl
theorem dX7_race_86 : decode cX7_race 86 = .ok (.imul, 1) := dchk_at dall_X7_race_40_pub05_0 (k := 18) rfl
theorem dX7_race_87 : decode cX7_race 87 = .ok (.invokevirtual 213, 3) := dchk_at dall_X7_race_40_pub05_0 (k := 19) rfl
theorem dX7_race_90 : decode cX7_race 90 = .ok (.ifCond .ne 5, 3) := dchk_at dall_X7_race_40_pub05_0 (k := 20) rfl
theorem dX7_race_95 : decode cX7_race 95 = .ok (.iinc 4 1, 3) := dchk_at dall_X7_race_40_pub05_0 (k := 21) rfl
theorem dX7_race_98 : decode cX7_race 98 = .ok (.aload_n 0, 1) := dchk_at dall_X7_race_40_pub05_0 (k := 22) rfl
theorem dX7_race_99 : decode cX7_race 99 = .ok (.getfield 35, 3) := dchk_at dall_X7_race_40_pub05_0 (k := 23) rfl
theorem dX7_race_102 : decode cX7_race 102 = .ok (.iload 6, 2) := dchk_at dall_X7_race_40_pub05_0 (k := 24) rfl
theorem dX7_race_104 : decode cX7_race 104 = .ok (.iload 5, 2) := dchk_at dall_X7_race_40_pub05_0 (k := 25) rfl
theorem dX7_race_106 : decode cX7_race 106 = .ok (.iload_n 1, 1) := dchk_at dall_X7_race_40_pub05_0 (k := 26) rfl
theorem dX7_race_107 : decode cX7_race 107 = .ok (.imul, 1) := dchk_at dall_X7_race_40_pub05_0 (k := 27) rfl
theorem dX7_race_108 : decode cX7_race 108 = .ok (.iload 5, 2) := dchk_at dall_X7_race_40_pub05_0 (k := 28) rfl
theorem dX7_race_110 : decode cX7_race 110 = .ok (.iload_n 2, 1) := dchk_at dall_X7_race_40_pub05_0 (k := 29) rfl
theorem dX7_race_111 : decode cX7_race 111 = .ok (.imul, 1) := dchk_at dall_X7_race_40_pub05_0 (k := 30) rfl
theorem dX7_race_112 : decode cX7_race 112 = .ok (.invokevirtual 217, 3) := dchk_at dall_X7_race_40_pub05_0 (k := 31) rfl
theorem dX7_race_115 : decode cX7_race 115 = .ok (.ifCond .ne 15, 3) := dchk_at dall_X7_race_40_pub05_0 (k := 32) rfl
theorem dX7_race_130 : decode cX7_race 130 = .ok (.iinc 6 1, 3) := dchk_at dall_X7_race_40_pub05_0 (k := 33) rfl
theorem dX7_race_133 : decode cX7_race 133 = .ok (.goto (-87), 3) := dchk_at dall_X7_race_40_pub05_0 (k := 34) rfl
theorem dX7_race_70 : decode cX7_race 70 = .ok (.goto 60, 3) := dchk_at dall_X7_race_40_pub05_0 (k := 35) rfl
theorem dX7_race_35 : decode cX7_race 35 = .ok (.iload 5, 2) := dchk_at dall_X7_race_40_pub05_0 (k := 36) rfl
theorem dX7_race_37 : decode cX7_race 37 = .ok (.sipush 200, 3) := dchk_at dall_X7_race_40_pub05_0 (k := 37) rfl
theorem dX7_race_40 : decode cX7_race 40 = .ok (.if_icmp .gt 102, 3) := dchk_at dall_X7_race_40_pub05_0 (k := 38) rfl
theorem dX7_race_43 : decode cX7_race 43 = .ok (.iconst 0, 1) := dchk_at dall_X7_race_40_pub05_0 (k := 39) rfl
theorem dX7_race_44 : decode cX7_race 44 = .ok (.istore 6, 2) := dchk_at dall_X7_race_40_pub05_0 (k := 40) rfl
theorem dX7_race_136 : decode cX7_race 136 = .ok (.iinc 5 1, 3) := dchk_at dall_X7_race_40_pub05_0 (k := 41) rfl
theorem dX7_race_139 : decode cX7_race 139 = .ok (.goto (-104), 3) := dchk_at dall_X7_race_40_pub05_0 (k := 42) rfl
theorem dX7_race_0 : decode cX7_race 0 = .ok (.aload_n 0, 1) := dchk_at dall_X7_race_40_pub05_0 (k := 43) rfl
theorem dX7_race_1 : decode cX7_race 1 = .ok (.getfield 35, 3) := dchk_at dall_X7_race_40_pub05_0 (k := 44) rfl
theorem dX7_race_4 : decode cX7_race 4 = .ok (.invokevirtual 110, 3) := dchk_at dall_X7_race_40_pub05_0 (k := 45) rfl
theorem dX7_race_7 : decode cX7_race 7 = .ok (.ifCond .eq 20, 3) := dchk_at dall_X7_race_40_pub05_0 (k := 46) rfl
theorem dX7_race_27 : decode cX7_race 27 = .ok (.iconst (-1), 1) := dchk_at dall_X7_race_40_pub05_0 (k := 47) rfl
theorem dX7_race_28 : decode cX7_race 28 = .ok (.ireturn, 1) := dchk_at dall_X7_race_40_pub05_0 (k := 48) rfl
theorem dX7_race_10 : decode cX7_race 10 = .ok (.iload_n 1, 1) := dchk_at dall_X7_race_40_pub05_0 (k := 49) rfl
def dl_X7_race_40_pub05_1 : List (Nat × Instr × Nat) := [(11, .iload_n 2, 1), (12, .invokestatic 210, 3), (15, .ifCond .eq 12, 3), (18, .iload_n 3, 1), (19, .ifCond .lt 8, 3), (22, .iload_n 3, 1), (23, .iconst 1, 1), (24, .if_icmp .le 5, 3), (29, .iconst 0, 1), (30, .istore 4, 2), (32, .iconst 1, 1), (33, .istore 5, 2), (93, .iconst (-1), 1), (94, .ireturn, 1), (118, .iload_n 3, 1), (119, .ifCond .ne 8, 3), (127, .iload 4, 2), (129, .ireturn, 1), (122, .iload 6, 2), (124, .goto 5, 3), (142, .iconst (-1), 1), (143, .ireturn, 1)]
set_option maxRecDepth 100000 in
theorem dall_X7_race_40_pub05_1 : dchk cX7_race dl_X7_race_40_pub05_1 = true := by decide +kernel
theorem dX7_race_11 : decode cX7_race 11 = .ok (.iload_n 2, 1) := dchk_at dall_X7_race_40_pub05_1 (k := 0) rfl
theorem dX7_race_12 : decode cX7_race 12 = .ok (.invokestatic 210, 3) := dchk_at dall_X7_race_40_pub05_1 (k := 1) rfl
theorem dX7_race_15 : decode cX7_race 15 = .ok (.ifCond .eq 12, 3) := dchk_at dall_X7_race_40_pub05_1 (k := 2) rfl
theorem dX7_race_18 : decode cX7_race 18 = .ok (.iload_n 3, 1) := dchk_at dall_X7_race_40_pub05_1 (k := 3) rfl
theorem dX7_race_19 : decode cX7_race 19 = .ok (.ifCond .lt 8, 3) := dchk_at dall_X7_race_40_pub05_1 (k := 4) rfl
theorem dX7_race_22 : decode cX7_race 22 = .ok (.iload_n 3, 1) := dchk_at dall_X7_race_40_pub05_1 (k := 5) rfl
theorem dX7_race_23 : decode cX7_race 23 = .ok (.iconst 1, 1) := dchk_at dall_X7_race_40_pub05_1 (k := 6) rfl
theorem dX7_race_24 : decode cX7_race 24 = .ok (.if_icmp .le 5, 3) := dchk_at dall_X7_race_40_pub05_1 (k := 7) rfl
theorem dX7_race_29 : decode cX7_race 29 = .ok (.iconst 0, 1) := dchk_at dall_X7_race_40_pub05_1 (k := 8) rfl
theorem dX7_race_30 : decode cX7_race 30 = .ok (.istore 4, 2) := dchk_at dall_X7_race_40_pub05_1 (k := 9) rfl
theorem dX7_race_32 : decode cX7_race 32 = .ok (.iconst 1, 1) := dchk_at dall_X7_race_40_pub05_1 (k := 10) rfl
theorem dX7_race_33 : decode cX7_race 33 = .ok (.istore 5, 2) := dchk_at dall_X7_race_40_pub05_1 (k := 11) rfl
theorem dX7_race_93 : decode cX7_race 93 = .ok (.iconst (-1), 1) := dchk_at dall_X7_race_40_pub05_1 (k := 12) rfl
theorem dX7_race_94 : decode cX7_race 94 = .ok (.ireturn, 1) := dchk_at dall_X7_race_40_pub05_1 (k := 13) rfl
theorem dX7_race_118 : decode cX7_race 118 = .ok (.iload_n 3, 1) := dchk_at dall_X7_race_40_pub05_1 (k := 14) rfl
theorem dX7_race_119 : decode cX7_race 119 = .ok (.ifCond .ne 8, 3) := dchk_at dall_X7_race_40_pub05_1 (k := 15) rfl
theorem dX7_race_127 : decode cX7_race 127 = .ok (.iload 4, 2) := dchk_at dall_X7_race_40_pub05_1 (k := 16) rfl
theorem dX7_race_129 : decode cX7_race 129 = .ok (.ireturn, 1) := dchk_at dall_X7_race_40_pub05_1 (k := 17) rfl
theorem dX7_race_122 : decode cX7_race 122 = .ok (.iload 6, 2) := dchk_at dall_X7_race_40_pub05_1 (k := 18) rfl
theorem dX7_race_124 : decode cX7_race 124 = .ok (.goto 5, 3) := dchk_at dall_X7_race_40_pub05_1 (k := 19) rfl
theorem dX7_race_142 : decode cX7_race 142 = .ok (.iconst (-1), 1) := dchk_at dall_X7_race_40_pub05_1 (k := 20) rfl
theorem dX7_race_143 : decode cX7_race 143 = .ok (.ireturn, 1) := dchk_at dall_X7_race_40_pub05_1 (k := 21) rfl
def dl_X7_rule_40_pub05_0 : List (Nat × Instr × Nat) := [(0, .aload_n 0, 1), (1, .getfield 35, 3), (4, .invokevirtual 110, 3), (7, .ifCond .ne 6, 3), (13, .iload_n 1, 1), (14, .tableswitch 68 0 3 #[30, 40, 50, 60], 30), (44, .aload_n 0, 1), (45, .getfield 35, 3), (48, .getfield 114, 3), (51, .iconst 0, 1), (52, .iaload, 1), (53, .ireturn, 1), (54, .aload_n 0, 1), (55, .getfield 35, 3), (58, .getfield 114, 3), (61, .iconst 1, 1), (62, .iaload, 1), (63, .ireturn, 1), (64, .aload_n 0, 1), (65, .getfield 35, 3), (68, .getfield 114, 3), (71, .iconst 2, 1), (72, .iaload, 1), (73, .ireturn, 1), (74, .aload_n 0, 1), (75, .getfield 35, 3), (78, .invokevirtual 117, 3), (81, .ireturn, 1), (82, .ldc 113, 2), (84, .ireturn, 1), (10, .ldc 113, 2), (12, .ireturn, 1)]
set_option maxRecDepth 100000 in
theorem dall_X7_rule_40_pub05_0 : dchk cX7_rule dl_X7_rule_40_pub05_0 = true := by decide +kernel
theorem dX7_rule_0 : decode cX7_rule 0 = .ok (.aload_n 0, 1) := dchk_at dall_X7_rule_40_pub05_0 (k := 0) rfl
theorem dX7_rule_1 : decode cX7_rule 1 = .ok (.getfield 35, 3) := dchk_at dall_X7_rule_40_pub05_0 (k := 1) rfl
theorem dX7_rule_4 : decode cX7_rule 4 = .ok (.invokevirtual 110, 3) := dchk_at dall_X7_rule_40_pub05_0 (k := 2) rfl
theorem dX7_rule_7 : decode cX7_rule 7 = .ok (.ifCond .ne 6, 3) := dchk_at dall_X7_rule_40_pub05_0 (k := 3) rfl
theorem dX7_rule_13 : decode cX7_rule 13 = .ok (.iload_n 1, 1) := dchk_at dall_X7_rule_40_pub05_0 (k := 4) rfl
theorem dX7_rule_14 : decode cX7_rule 14 = .ok (.tableswitch 68 0 3 #[30, 40, 50, 60], 30) := dchk_at dall_X7_rule_40_pub05_0 (k := 5) rfl
theorem dX7_rule_44 : decode cX7_rule 44 = .ok (.aload_n 0, 1) := dchk_at dall_X7_rule_40_pub05_0 (k := 6) rfl
theorem dX7_rule_45 : decode cX7_rule 45 = .ok (.getfield 35, 3) := dchk_at dall_X7_rule_40_pub05_0 (k := 7) rfl
theorem dX7_rule_48 : decode cX7_rule 48 = .ok (.getfield 114, 3) := dchk_at dall_X7_rule_40_pub05_0 (k := 8) rfl
theorem dX7_rule_51 : decode cX7_rule 51 = .ok (.iconst 0, 1) := dchk_at dall_X7_rule_40_pub05_0 (k := 9) rfl
theorem dX7_rule_52 : decode cX7_rule 52 = .ok (.iaload, 1) := dchk_at dall_X7_rule_40_pub05_0 (k := 10) rfl
theorem dX7_rule_53 : decode cX7_rule 53 = .ok (.ireturn, 1) := dchk_at dall_X7_rule_40_pub05_0 (k := 11) rfl
theorem dX7_rule_54 : decode cX7_rule 54 = .ok (.aload_n 0, 1) := dchk_at dall_X7_rule_40_pub05_0 (k := 12) rfl
theorem dX7_rule_55 : decode cX7_rule 55 = .ok (.getfield 35, 3) := dchk_at dall_X7_rule_40_pub05_0 (k := 13) rfl
theorem dX7_rule_58 : decode cX7_rule 58 = .ok (.getfield 114, 3) := dchk_at dall_X7_rule_40_pub05_0 (k := 14) rfl
theorem dX7_rule_61 : decode cX7_rule 61 = .ok (.iconst 1, 1) := dchk_at dall_X7_rule_40_pub05_0 (k := 15) rfl
theorem dX7_rule_62 : decode cX7_rule 62 = .ok (.iaload, 1) := dchk_at dall_X7_rule_40_pub05_0 (k := 16) rfl
theorem dX7_rule_63 : decode cX7_rule 63 = .ok (.ireturn, 1) := dchk_at dall_X7_rule_40_pub05_0 (k := 17) rfl
theorem dX7_rule_64 : decode cX7_rule 64 = .ok (.aload_n 0, 1) := dchk_at dall_X7_rule_40_pub05_0 (k := 18) rfl
theorem dX7_rule_65 : decode cX7_rule 65 = .ok (.getfield 35, 3) := dchk_at dall_X7_rule_40_pub05_0 (k := 19) rfl
theorem dX7_rule_68 : decode cX7_rule 68 = .ok (.getfield 114, 3) := dchk_at dall_X7_rule_40_pub05_0 (k := 20) rfl
theorem dX7_rule_71 : decode cX7_rule 71 = .ok (.iconst 2, 1) := dchk_at dall_X7_rule_40_pub05_0 (k := 21) rfl
theorem dX7_rule_72 : decode cX7_rule 72 = .ok (.iaload, 1) := dchk_at dall_X7_rule_40_pub05_0 (k := 22) rfl
theorem dX7_rule_73 : decode cX7_rule 73 = .ok (.ireturn, 1) := dchk_at dall_X7_rule_40_pub05_0 (k := 23) rfl
theorem dX7_rule_74 : decode cX7_rule 74 = .ok (.aload_n 0, 1) := dchk_at dall_X7_rule_40_pub05_0 (k := 24) rfl
theorem dX7_rule_75 : decode cX7_rule 75 = .ok (.getfield 35, 3) := dchk_at dall_X7_rule_40_pub05_0 (k := 25) rfl
theorem dX7_rule_78 : decode cX7_rule 78 = .ok (.invokevirtual 117, 3) := dchk_at dall_X7_rule_40_pub05_0 (k := 26) rfl
theorem dX7_rule_81 : decode cX7_rule 81 = .ok (.ireturn, 1) := dchk_at dall_X7_rule_40_pub05_0 (k := 27) rfl
theorem dX7_rule_82 : decode cX7_rule 82 = .ok (.ldc 113, 2) := dchk_at dall_X7_rule_40_pub05_0 (k := 28) rfl
theorem dX7_rule_84 : decode cX7_rule 84 = .ok (.ireturn, 1) := dchk_at dall_X7_rule_40_pub05_0 (k := 29) rfl
theorem dX7_rule_10 : decode cX7_rule 10 = .ok (.ldc 113, 2) := dchk_at dall_X7_rule_40_pub05_0 (k := 30) rfl
theorem dX7_rule_12 : decode cX7_rule 12 = .ok (.ireturn, 1) := dchk_at dall_X7_rule_40_pub05_0 (k := 31) rfl
def B_X7_perform_34 (K : Nat) (p1 : Int32) (c_scripts_held : Int32) (c_scripts_steps : Nat → Int32) (c_scripts_counts : Nat → Int32) (x2 : Int32) (x3 : Int32) (c_now_row : Nat → Int32) (c_now_partners : Nat → Int32) (c_now_askedCount : Int32) (c_now_outcome : Int32) (c_now_share : Nat → Int32) (c_now_leftOver : Nat → Int32) (c_book_lines : Nat → Int32) (c_history_rows : Nat → Int32) (c_history_next : Int32) (c_history_held : Int32) (c_refused : Nat → Int32) : Option ((Int32 × (Nat → Int32) × (Nat → Int32) × Int32 × Int32 × (Nat → Int32) × (Nat → Int32) × (Nat → Int32) × (Nat → Int32) × Int32 × Int32 × (Nat → Int32)) ⊕ (Nat × Int32 × (Nat → Int32) × (Nat → Int32) × Int32 × Int32 × (Nat → Int32) × (Nat → Int32) × (Nat → Int32) × (Nat → Int32) × Int32 × Int32 × (Nat → Int32))) :=
  if x2 ≤ x3 then some (.inr (1, x3, c_now_row, c_now_partners, c_now_askedCount, c_now_outcome, c_now_share, c_now_leftOver, c_book_lines, c_history_rows, c_history_next, c_history_held, c_refused)) else bd1 (F_X4_sortOf p1 x3 c_scripts_steps c_scripts_counts c_scripts_held) (fun r_12 => bd1 (F_X4_read p1 x3 (1 : Int32) c_scripts_steps c_scripts_counts c_scripts_held) (fun r_14 => bd1 (F_X4_read p1 x3 (2 : Int32) c_scripts_steps c_scripts_counts c_scripts_held) (fun r_16 => bd1 (F_X4_read p1 x3 (3 : Int32) c_scripts_steps c_scripts_counts c_scripts_held) (fun r_18 => bd12 (F_X7_act K r_12 r_14 r_16 r_18 (0 : Int32) c_now_row c_now_partners c_now_askedCount c_now_outcome c_now_share c_now_leftOver c_book_lines c_history_rows c_history_next c_history_held c_refused) (fun r_20 w_21 w_22 w_23 w_24 w_25 w_26 w_27 w_28 w_29 w_30 w_31 => if r_20 = (-1 : Int32) then some (.inr (0, x3, w_21, w_22, w_23, w_24, w_25, w_26, w_27, w_28, w_29, w_30, w_31)) else some (.inl (x3 + (1 : Int32), w_21, w_22, w_23, w_24, w_25, w_26, w_27, w_28, w_29, w_30, w_31)))))))
def F_X7_perform (K : Nat) (p1 : Int32) (c_scripts_steps : Nat → Int32) (c_scripts_counts : Nat → Int32) (c_scripts_held : Int32) (c_now_row : Nat → Int32) (c_now_partners : Nat → Int32) (c_now_askedCount : Int32) (c_now_outcome : Int32) (c_now_share : Nat → Int32) (c_now_leftOver : Nat → Int32) (c_book_lines : Nat → Int32) (c_history_rows : Nat → Int32) (c_history_next : Int32) (c_history_held : Int32) (c_refused : Nat → Int32) : Option (Int32 × (Nat → Int32) × (Nat → Int32) × Int32 × Int32 × (Nat → Int32) × (Nat → Int32) × (Nat → Int32) × (Nat → Int32) × Int32 × Int32 × (Nat → Int32)) :=
  bd1 (F_X4_has p1 c_scripts_held) (fun r_1 => if r_1 = (0 : Int32) then some ((-1 : Int32), c_now_row, c_now_partners, c_now_askedCount, c_now_outcome, c_now_share, c_now_leftOver, c_book_lines, c_history_rows, c_history_next, c_history_held, c_refused) else bd1 (F_X5_stands c_now_row) (fun r_5 => if r_5 = (0 : Int32) then some ((-1 : Int32), c_now_row, c_now_partners, c_now_askedCount, c_now_outcome, c_now_share, c_now_leftOver, c_book_lines, c_history_rows, c_history_next, c_history_held, c_refused) else bd1 (F_X4_stepsOf p1 c_scripts_counts c_scripts_held) (fun r_9 => bd13 (lpF (fun u9 : Int32 × (Nat → Int32) × (Nat → Int32) × Int32 × Int32 × (Nat → Int32) × (Nat → Int32) × (Nat → Int32) × (Nat → Int32) × Int32 × Int32 × (Nat → Int32) => B_X7_perform_34 K p1 c_scripts_held c_scripts_steps c_scripts_counts r_9 u9.1 u9.2.1 u9.2.2.1 u9.2.2.2.1 u9.2.2.2.2.1 u9.2.2.2.2.2.1 u9.2.2.2.2.2.2.1 u9.2.2.2.2.2.2.2.1 u9.2.2.2.2.2.2.2.2.1 u9.2.2.2.2.2.2.2.2.2.1 u9.2.2.2.2.2.2.2.2.2.2.1 u9.2.2.2.2.2.2.2.2.2.2.2) K ((0 : Int32), c_now_row, c_now_partners, c_now_askedCount, c_now_outcome, c_now_share, c_now_leftOver, c_book_lines, c_history_rows, c_history_next, c_history_held, c_refused)) (fun t_34 x3_35 c_now_row_36 c_now_partners_37 c_now_askedCount_38 c_now_outcome_39 c_now_share_40 c_now_leftOver_41 c_book_lines_42 c_history_rows_43 c_history_next_44 c_history_held_45 c_refused_46 => if t_34 = 0 then some (x3_35, c_now_row_36, c_now_partners_37, c_now_askedCount_38, c_now_outcome_39, c_now_share_40, c_now_leftOver_41, c_book_lines_42, c_history_rows_43, c_history_next_44, c_history_held_45, c_refused_46) else if t_34 = 1 then some (r_9, c_now_row_36, c_now_partners_37, c_now_askedCount_38, c_now_outcome_39, c_now_share_40, c_now_leftOver_41, c_book_lines_42, c_history_rows_43, c_history_next_44, c_history_held_45, c_refused_46) else none))))
abbrev w_X7_perform (E : EE) (a_ a_tape a_reader a_scripts a_now a_trial a_kept a_book a_keptBook a_history a_draws a_refused a_scripts_steps a_scripts_counts a_now_row a_now_partners a_now_share a_now_leftOver a_book_lines a_history_rows : Nat) (c_hasImage : Int32) (c_scripts_held : Int32) (c_scripts_steps : Nat → Int32) (c_scripts_counts : Nat → Int32) (c_now_askedCount : Int32) (c_now_outcome : Int32) (c_now_row : Nat → Int32) (c_now_partners : Nat → Int32) (c_now_share : Nat → Int32) (c_now_leftOver : Nat → Int32) (c_book_lines : Nat → Int32) (c_history_next : Int32) (c_history_held : Int32) (c_history_rows : Nat → Int32) (c_refused : Nat → Int32) : va_W := [(a_, .inr (8, [.ref a_tape, .ref a_reader, .ref a_scripts, .ref a_now, .ref a_trial, .ref a_kept, .ref a_book, .ref a_keptBook, .ref a_history, .ref a_draws, .ref a_refused, .int c_hasImage])), (a_scripts, .inr (5, [.ref a_scripts_steps, .ref a_scripts_counts, .int c_scripts_held])), (a_scripts_steps, .inl (E.2.1, 192, .inl c_scripts_steps)), (a_scripts_counts, .inl (E.2.1, 4, .inl c_scripts_counts)), (a_now, .inr (6, [.ref a_now_row, .ref a_now_partners, .int c_now_askedCount, .int c_now_outcome, .ref a_now_share, .ref a_now_leftOver])), (a_now_row, .inl (E.2.1, 81, .inl c_now_row)), (a_now_partners, .inl (E.2.1, 8, .inl c_now_partners)), (a_now_share, .inl (E.2.1, 2, .inl c_now_share)), (a_now_leftOver, .inl (E.2.1, 2, .inl c_now_leftOver)), (a_book, .inr (1, [.ref a_book_lines])), (a_book_lines, .inl (E.2.1, 300, .inl c_book_lines)), (a_history, .inr (3, [.ref a_history_rows, .int c_history_next, .int c_history_held])), (a_history_rows, .inl (E.2.1, 3240, .inl c_history_rows)), (a_refused, .inl (E.2.1, 3, .inl c_refused))]
def v_f_X7_perform : List Cond := .code yX7_perform cX7_perform 5 (some .int) :: ([.fieldLink RX7 28 "HushWatch" "scripts" "LHushWatch$Scripts;", .fieldLink RX7 35 "HushWatch" "now" "LHushWatch$State;", .methodLink RX7 290 yX4_has, .instanceMethod yX4_has, .selects RX4 yX4_has yX4_has, .initialized RX4, .methodLink RX7 110 yX5_stands, .instanceMethod yX5_stands, .selects RX5 yX5_stands yX5_stands, .initialized RX5, .methodLink RX7 293 yX4_stepsOf, .instanceMethod yX4_stepsOf, .selects RX4 yX4_stepsOf yX4_stepsOf, .methodLink RX7 299 yX4_sortOf, .instanceMethod yX4_sortOf, .selects RX4 yX4_sortOf yX4_sortOf, .methodLink RX7 288 yX4_read, .instanceMethod yX4_read, .selects RX4 yX4_read yX4_read, .methodLink RX7 163 yX7_act, .instanceMethod yX7_act, .selects RX7 yX7_act yX7_act, .initialized RX7] ++ (wsX70 ++ (v_f_X4_has ++ (v_f_X5_stands ++ (v_f_X4_stepsOf ++ (v_f_X4_sortOf ++ (v_f_X4_read ++ (v_f_X7_act ++ ([])))))))))
theorem gw_f_X7_perform : v_f_X7_perform.all goodWord = true := by decide +kernel
theorem i_f_X7_perform_X7 : ∀ w ∈ wsX70, w ∈ v_f_X7_perform := fun _ h => List.mem_cons_of_mem _ (List.mem_append_right _ (List.mem_append_left _ h))
theorem g_f_X7_perform_f_X4_has_290 : GoodIn v_f_X7_perform (wsV RX7 290 RX4 yX4_has v_f_X4_has) := goodIn_app (goodIn_of _ (by decide +kernel)) (goodIn_sub (fun _ h => List.mem_cons_of_mem _ (List.mem_append_right _ (List.mem_append_right _ (List.mem_append_left _ h)))) gw_f_X4_has)
theorem g_f_X7_perform_f_X5_stands_110 : GoodIn v_f_X7_perform (wsV RX7 110 RX5 yX5_stands v_f_X5_stands) := goodIn_app (goodIn_of _ (by decide +kernel)) (goodIn_sub (fun _ h => List.mem_cons_of_mem _ (List.mem_append_right _ (List.mem_append_right _ (List.mem_append_right _ (List.mem_append_left _ h))))) gw_f_X5_stands)
theorem g_f_X7_perform_f_X4_stepsOf_293 : GoodIn v_f_X7_perform (wsV RX7 293 RX4 yX4_stepsOf v_f_X4_stepsOf) := goodIn_app (goodIn_of _ (by decide +kernel)) (goodIn_sub (fun _ h => List.mem_cons_of_mem _ (List.mem_append_right _ (List.mem_append_right _ (List.mem_append_right _ (List.mem_append_right _ (List.mem_append_left _ h)))))) gw_f_X4_stepsOf)
theorem g_f_X7_perform_f_X4_sortOf_299 : GoodIn v_f_X7_perform (wsV RX7 299 RX4 yX4_sortOf v_f_X4_sortOf) := goodIn_app (goodIn_of _ (by decide +kernel)) (goodIn_sub (fun _ h => List.mem_cons_of_mem _ (List.mem_append_right _ (List.mem_append_right _ (List.mem_append_right _ (List.mem_append_right _ (List.mem_append_right _ (List.mem_append_left _ h))))))) gw_f_X4_sortOf)
theorem g_f_X7_perform_f_X4_read_288 : GoodIn v_f_X7_perform (wsV RX7 288 RX4 yX4_read v_f_X4_read) := goodIn_app (goodIn_of _ (by decide +kernel)) (goodIn_sub (fun _ h => List.mem_cons_of_mem _ (List.mem_append_right _ (List.mem_append_right _ (List.mem_append_right _ (List.mem_append_right _ (List.mem_append_right _ (List.mem_append_right _ (List.mem_append_left _ h)))))))) gw_f_X4_read)
theorem g_f_X7_perform_f_X7_act_163 : GoodIn v_f_X7_perform (wsV RX7 163 RX7 yX7_act v_f_X7_act) := goodIn_app (goodIn_of _ (by decide +kernel)) (goodIn_sub (fun _ h => List.mem_cons_of_mem _ (List.mem_append_right _ (List.mem_append_right _ (List.mem_append_right _ (List.mem_append_right _ (List.mem_append_right _ (List.mem_append_right _ (List.mem_append_right _ (List.mem_append_left _ h))))))))) gw_f_X7_act)
theorem hd_X7_perform : yX7_perform.cls = RX7 ∧ yX7_perform.cls ≠ "java/lang/invoke/MethodHandle" ∧ yX7_perform.cls ≠ "java/lang/invoke/VarHandle" ∧ (parseMethodDescriptor yX7_perform.desc).map (fun d => d.parameters.length) = some 1 := by decide +kernel
set_option maxHeartbeats 4000000 in
set_option maxRecDepth 100000 in
theorem wb_X7_perform_34 {p : Program} (l : Launch) {e : Env} {s : State} {m : MethodId} {below : List Frame} {meth : Method} {c : Code} {Q : State → Prop} (E : EE) (K : Nat) {z9 : Nat → Nat} {a_ a_tape a_reader a_scripts a_now a_trial a_kept a_book a_keptBook a_history a_draws a_refused a_scripts_steps a_scripts_counts a_now_row a_now_partners a_now_share a_now_leftOver a_book_lines a_history_rows : Nat} {p1 : Int32} {c_hasImage : Int32} {c_scripts_held : Int32} {c_scripts_steps : Nat → Int32} {c_scripts_counts : Nat → Int32} {x2 : Int32} {x3 : Int32} {c_now_row : Nat → Int32} {c_now_partners : Nat → Int32} {c_now_askedCount : Int32} {c_now_outcome : Int32} {c_now_share : Nat → Int32} {c_now_leftOver : Nat → Int32} {c_book_lines : Nat → Int32} {c_history_rows : Nat → Int32} {c_history_next : Int32} {c_history_held : Int32} {c_refused : Nat → Int32} (hx : p.tables.exec = Jvm.exec) (hb : c.code = cX7_perform) (hml : c.maxLocals = 5) (hown : s.vm.findClass RX7 = some m.cls) (hts : ∀ w ∈ v_f_X7_perform, w.before #[Value.ref a_, Value.int p1] s = true) (hK : va_K E.1 vwCl (TY E) s) (hN : NX s) {A : Nat → Prop} (hA : ∀ q : Nat, s.heap.size ≤ q → A q) (hZ : ZZ z9 A s s.heap) {xx : (Int32 × (Nat → Int32) × (Nat → Int32) × Int32 × Int32 × (Nat → Int32) × (Nat → Int32) × (Nat → Int32) × (Nat → Int32) × Int32 × Int32 × (Nat → Int32)) ⊕ (Nat × Int32 × (Nat → Int32) × (Nat → Int32) × Int32 × Int32 × (Nat → Int32) × (Nat → Int32) × (Nat → Int32) × (Nat → Int32) × Int32 × Int32 × (Nat → Int32))} (hC : ∀ (x3 : Int32), ∀ (c_now_row : Nat → Int32), ∀ (c_now_partners : Nat → Int32), ∀ (c_now_askedCount : Int32), ∀ (c_now_outcome : Int32), ∀ (c_now_share : Nat → Int32), ∀ (c_now_leftOver : Nat → Int32), ∀ (c_book_lines : Nat → Int32), ∀ (c_history_rows : Nat → Int32), ∀ (c_history_next : Int32), ∀ (c_history_held : Int32), ∀ (c_refused : Nat → Int32), xx = .inl (x3, c_now_row, c_now_partners, c_now_askedCount, c_now_outcome, c_now_share, c_now_leftOver, c_book_lines, c_history_rows, c_history_next, c_history_held, c_refused) → ∀ (H : Heap) (locs : List Loc) (ls : Array Slot), va_P E.1 vwCl (w_X7_perform E a_ a_tape a_reader a_scripts a_now a_trial a_kept a_book a_keptBook a_history a_draws a_refused a_scripts_steps a_scripts_counts a_now_row a_now_partners a_now_share a_now_leftOver a_book_lines a_history_rows c_hasImage c_scripts_held c_scripts_steps c_scripts_counts c_now_askedCount c_now_outcome c_now_row c_now_partners c_now_share c_now_leftOver c_book_lines c_history_next c_history_held c_history_rows c_refused) H → va_D A (w_X7_perform E a_ a_tape a_reader a_scripts a_now a_trial a_kept a_book a_keptBook a_history a_draws a_refused a_scripts_steps a_scripts_counts a_now_row a_now_partners a_now_share a_now_leftOver a_book_lines a_history_rows c_hasImage c_scripts_held c_scripts_steps c_scripts_counts c_now_askedCount c_now_outcome c_now_row c_now_partners c_now_share c_now_leftOver c_book_lines c_history_next c_history_held c_history_rows c_refused) → va_S A s.heap H locs → lv_has ls 5 [(0, .ref a_), (1, .int p1), (2, .int x2), (3, .int x3)] → W p l e ({ frames := 6, cells := 0, slots := 0, locals := 151 } : Room) s m #[Value.ref a_, Value.int p1] below meth c H locs 0 0 Q (F0 m 34 ls [])) (hE : ∀ (t9 : Nat), ∀ (x3 : Int32), ∀ (c_now_row : Nat → Int32), ∀ (c_now_partners : Nat → Int32), ∀ (c_now_askedCount : Int32), ∀ (c_now_outcome : Int32), ∀ (c_now_share : Nat → Int32), ∀ (c_now_leftOver : Nat → Int32), ∀ (c_book_lines : Nat → Int32), ∀ (c_history_rows : Nat → Int32), ∀ (c_history_next : Int32), ∀ (c_history_held : Int32), ∀ (c_refused : Nat → Int32), xx = .inr (t9, x3, c_now_row, c_now_partners, c_now_askedCount, c_now_outcome, c_now_share, c_now_leftOver, c_book_lines, c_history_rows, c_history_next, c_history_held, c_refused) → ((t9 = 0 → ∀ (H : Heap) (locs : List Loc) (ls : Array Slot), va_P E.1 vwCl (w_X7_perform E a_ a_tape a_reader a_scripts a_now a_trial a_kept a_book a_keptBook a_history a_draws a_refused a_scripts_steps a_scripts_counts a_now_row a_now_partners a_now_share a_now_leftOver a_book_lines a_history_rows c_hasImage c_scripts_held c_scripts_steps c_scripts_counts c_now_askedCount c_now_outcome c_now_row c_now_partners c_now_share c_now_leftOver c_book_lines c_history_next c_history_held c_history_rows c_refused) H → va_D A (w_X7_perform E a_ a_tape a_reader a_scripts a_now a_trial a_kept a_book a_keptBook a_history a_draws a_refused a_scripts_steps a_scripts_counts a_now_row a_now_partners a_now_share a_now_leftOver a_book_lines a_history_rows c_hasImage c_scripts_held c_scripts_steps c_scripts_counts c_now_askedCount c_now_outcome c_now_row c_now_partners c_now_share c_now_leftOver c_book_lines c_history_next c_history_held c_history_rows c_refused) → va_S A s.heap H locs → lv_has ls 5 [(3, .int x3)] → W p l e ({ frames := 6, cells := 0, slots := 0, locals := 151 } : Room) s m #[Value.ref a_, Value.int p1] below meth c H locs 0 0 Q (F0 m 91 ls [])) ∧ (t9 = 1 → ∀ (H : Heap) (locs : List Loc) (ls : Array Slot), va_P E.1 vwCl (w_X7_perform E a_ a_tape a_reader a_scripts a_now a_trial a_kept a_book a_keptBook a_history a_draws a_refused a_scripts_steps a_scripts_counts a_now_row a_now_partners a_now_share a_now_leftOver a_book_lines a_history_rows c_hasImage c_scripts_held c_scripts_steps c_scripts_counts c_now_askedCount c_now_outcome c_now_row c_now_partners c_now_share c_now_leftOver c_book_lines c_history_next c_history_held c_history_rows c_refused) H → va_D A (w_X7_perform E a_ a_tape a_reader a_scripts a_now a_trial a_kept a_book a_keptBook a_history a_draws a_refused a_scripts_steps a_scripts_counts a_now_row a_now_partners a_now_share a_now_leftOver a_book_lines a_history_rows c_hasImage c_scripts_held c_scripts_steps c_scripts_counts c_now_askedCount c_now_outcome c_now_row c_now_partners c_now_share c_now_leftOver c_book_lines c_history_next c_history_held c_history_rows c_refused) → va_S A s.heap H locs → lv_has ls 5 [(2, .int x2)] → W p l e ({ frames := 6, cells := 0, slots := 0, locals := 151 } : Room) s m #[Value.ref a_, Value.int p1] below meth c H locs 0 0 Q (F0 m 99 ls [])))) (hF : B_X7_perform_34 K p1 c_scripts_held c_scripts_steps c_scripts_counts x2 x3 c_now_row c_now_partners c_now_askedCount c_now_outcome c_now_share c_now_leftOver c_book_lines c_history_rows c_history_next c_history_held c_refused = some xx) : ∀ (H : Heap) (locs : List Loc) (ls : Array Slot), va_P E.1 vwCl (w_X7_perform E a_ a_tape a_reader a_scripts a_now a_trial a_kept a_book a_keptBook a_history a_draws a_refused a_scripts_steps a_scripts_counts a_now_row a_now_partners a_now_share a_now_leftOver a_book_lines a_history_rows c_hasImage c_scripts_held c_scripts_steps c_scripts_counts c_now_askedCount c_now_outcome c_now_row c_now_partners c_now_share c_now_leftOver c_book_lines c_history_next c_history_held c_history_rows c_refused) H → va_D A (w_X7_perform E a_ a_tape a_reader a_scripts a_now a_trial a_kept a_book a_keptBook a_history a_draws a_refused a_scripts_steps a_scripts_counts a_now_row a_now_partners a_now_share a_now_leftOver a_book_lines a_history_rows c_hasImage c_scripts_held c_scripts_steps c_scripts_counts c_now_askedCount c_now_outcome c_now_row c_now_partners c_now_share c_now_leftOver c_book_lines c_history_next c_history_held c_history_rows c_refused) → va_S A s.heap H locs → lv_has ls 5 [(0, .ref a_), (1, .int p1), (2, .int x2), (3, .int x3)] → W p l e ({ frames := 6, cells := 0, slots := 0, locals := 151 } : Room) s m #[Value.ref a_, Value.int p1] below meth c H locs 0 0 Q (F0 m 34 ls []) := by
  unfold B_X7_perform_34 at hF
  intro H locs ls hP hD hS hl
  replace hP : va_P E.1 vwCl [(a_, .inr (8, [.ref a_tape, .ref a_reader, .ref a_scripts, .ref a_now, .ref a_trial, .ref a_kept, .ref a_book, .ref a_keptBook, .ref a_history, .ref a_draws, .ref a_refused, .int c_hasImage])), (a_scripts, .inr (5, [.ref a_scripts_steps, .ref a_scripts_counts, .int c_scripts_held])), (a_scripts_steps, .inl (E.2.1, 192, .inl c_scripts_steps)), (a_scripts_counts, .inl (E.2.1, 4, .inl c_scripts_counts)), (a_now, .inr (6, [.ref a_now_row, .ref a_now_partners, .int c_now_askedCount, .int c_now_outcome, .ref a_now_share, .ref a_now_leftOver])), (a_now_row, .inl (E.2.1, 81, .inl c_now_row)), (a_now_partners, .inl (E.2.1, 8, .inl c_now_partners)), (a_now_share, .inl (E.2.1, 2, .inl c_now_share)), (a_now_leftOver, .inl (E.2.1, 2, .inl c_now_leftOver)), (a_book, .inr (1, [.ref a_book_lines])), (a_book_lines, .inl (E.2.1, 300, .inl c_book_lines)), (a_history, .inr (3, [.ref a_history_rows, .int c_history_next, .int c_history_held])), (a_history_rows, .inl (E.2.1, 3240, .inl c_history_rows)), (a_refused, .inl (E.2.1, 3, .inl c_refused))] H := hP
  replace hD : va_D A [(a_, .inr (8, [.ref a_tape, .ref a_reader, .ref a_scripts, .ref a_now, .ref a_trial, .ref a_kept, .ref a_book, .ref a_keptBook, .ref a_history, .ref a_draws, .ref a_refused, .int c_hasImage])), (a_scripts, .inr (5, [.ref a_scripts_steps, .ref a_scripts_counts, .int c_scripts_held])), (a_scripts_steps, .inl (E.2.1, 192, .inl c_scripts_steps)), (a_scripts_counts, .inl (E.2.1, 4, .inl c_scripts_counts)), (a_now, .inr (6, [.ref a_now_row, .ref a_now_partners, .int c_now_askedCount, .int c_now_outcome, .ref a_now_share, .ref a_now_leftOver])), (a_now_row, .inl (E.2.1, 81, .inl c_now_row)), (a_now_partners, .inl (E.2.1, 8, .inl c_now_partners)), (a_now_share, .inl (E.2.1, 2, .inl c_now_share)), (a_now_leftOver, .inl (E.2.1, 2, .inl c_now_leftOver)), (a_book, .inr (1, [.ref a_book_lines])), (a_book_lines, .inl (E.2.1, 300, .inl c_book_lines)), (a_history, .inr (3, [.ref a_history_rows, .int c_history_next, .int c_history_held])), (a_history_rows, .inl (E.2.1, 3240, .inl c_history_rows)), (a_refused, .inl (E.2.1, 3, .inl c_refused))] := hD
  refine lv_iload_n hx hb dX7_perform_34 rfl (lv_at hl 3 rfl) ?_
  refine lv_iload_n hx hb dX7_perform_35 rfl (lv_at hl 2 rfl) ?_
  refine lv_icmp_ge (tgt := 99) hx hb dX7_perform_36 (by decide) (fun c_11 => ?_) (fun c_11 => ?_)
  ·
    replace hF := ip c_11 hF
    cases hF
    exact (hE 1 x3 c_now_row c_now_partners c_now_askedCount c_now_outcome c_now_share c_now_leftOver c_book_lines c_history_rows c_history_next c_history_held c_refused rfl).2 rfl H locs ls (hP.sub [0, 1, 2, 3, 4, 5, 6, 7, 8, 9, 10, 11, 12, 13] rfl) (hD.sub [0, 1, 2, 3, 4, 5, 6, 7, 8, 9, 10, 11, 12, 13] (by decide) rfl) hS (lv_sub hl [2] rfl)
  ·
    replace hF := inn c_11 hF
    refine lv_aload_n hx hb dX7_perform_39 rfl (lv_at hl 0 rfl) ?_
    refine lv_aload_n hx hb dX7_perform_40 rfl (lv_at hl 0 rfl) ?_
    refine gt_X7_2 (v := .ref a_scripts) hx hb hts i_f_X7_perform_X7 hown hK hP 0 rfl (hts (.fieldLink RX7 28 "HushWatch" "scripts" "LHushWatch$Scripts;") (List.mem_of_getElem? (i := 1) rfl)) rfl dX7_perform_41 ?_
    refine lv_iload_n hx hb dX7_perform_44 rfl (lv_at hl 1 rfl) ?_
    refine lv_iload_n hx hb dX7_perform_45 rfl (lv_at hl 3 rfl) ?_
    replace hF := bd1_s hF
    obtain ⟨r_12, hc_13, hF⟩ := hF
    have hPc : va_P E.1 vwCl (w_X4_sortOf E a_scripts a_scripts_steps a_scripts_counts c_scripts_held c_scripts_steps c_scripts_counts) H := hP.sub (ws' := [(a_scripts, .inr (5, [.ref a_scripts_steps, .ref a_scripts_counts, .int c_scripts_held])), (a_scripts_steps, .inl (E.2.1, 192, .inl c_scripts_steps)), (a_scripts_counts, .inl (E.2.1, 4, .inl c_scripts_counts))]) [1, 2, 3] rfl
    have hrc := va_recv hK hPc (ci := 5) (q0 := 0) rfl rfl
    refine pE_i (va_runV (As := [.int p1, .int x3]) (rest := [.ref a_])  ⟨hx, hb, hml, hown, hts⟩ (f_X4_sortOf l E z9 (a_ := a_scripts) (a_steps := a_scripts_steps) (a_counts := a_scripts_counts) (p1 := p1) (p2 := x3) (c_held := c_scripts_held) (c_steps := c_scripts_steps) (c_counts := c_scripts_counts) hc_13) (cwV 2 hts g_f_X7_perform_f_X4_sortOf_299 rfl rfl rfl hd_X4_sortOf ⟨Nat.le_of_ble_eq_true rfl, Nat.le_of_ble_eq_true rfl⟩) ⟨qPZ.blind, hrc, (qPZ.pre ⟨hK, hN⟩ hPc hZ hS)⟩ rfl rfl hl.1 rfl (lv_room (Nat.le_of_ble_eq_true rfl)) dX7_perform_46 ⟨Nat.le_of_ble_eq_true rfl, Nat.le_of_ble_eq_true rfl⟩) ?_
    refine lv_aload_n hx hb dX7_perform_49 rfl (lv_at hl 0 rfl) ?_
    refine gt_X7_2 (v := .ref a_scripts) hx hb hts i_f_X7_perform_X7 hown hK hP 0 rfl (hts (.fieldLink RX7 28 "HushWatch" "scripts" "LHushWatch$Scripts;") (List.mem_of_getElem? (i := 1) rfl)) rfl dX7_perform_50 ?_
    refine lv_iload_n hx hb dX7_perform_53 rfl (lv_at hl 1 rfl) ?_
    refine lv_iload_n hx hb dX7_perform_54 rfl (lv_at hl 3 rfl) ?_
    refine lv_iconst (v := 1) hx hb dX7_perform_55 (by decide) ?_
    replace hF := bd1_s hF
    obtain ⟨r_14, hc_15, hF⟩ := hF
    have hPc : va_P E.1 vwCl (w_X4_read E a_scripts a_scripts_steps a_scripts_counts c_scripts_held c_scripts_steps c_scripts_counts) H := hP.sub (ws' := [(a_scripts, .inr (5, [.ref a_scripts_steps, .ref a_scripts_counts, .int c_scripts_held])), (a_scripts_steps, .inl (E.2.1, 192, .inl c_scripts_steps)), (a_scripts_counts, .inl (E.2.1, 4, .inl c_scripts_counts))]) [1, 2, 3] rfl
    have hrc := va_recv hK hPc (ci := 5) (q0 := 0) rfl rfl
    refine pE_i (va_runV (As := [.int p1, .int x3, .int (1 : Int32)]) (rest := [.int r_12, .ref a_])  ⟨hx, hb, hml, hown, hts⟩ (f_X4_read l E (a_ := a_scripts) (a_steps := a_scripts_steps) (a_counts := a_scripts_counts) (p1 := p1) (p2 := x3) (p3 := (1 : Int32)) (c_held := c_scripts_held) (c_steps := c_scripts_steps) (c_counts := c_scripts_counts) hc_15) (cwV 3 hts g_f_X7_perform_f_X4_read_288 rfl rfl rfl hd_X4_read ⟨Nat.le_of_ble_eq_true rfl, Nat.le_of_ble_eq_true rfl⟩) ⟨pP.blind, hrc, (pP.pre ⟨hK, hN⟩ hPc)⟩ rfl rfl hl.1 rfl (lv_room (Nat.le_of_ble_eq_true rfl)) dX7_perform_56 ⟨Nat.le_of_ble_eq_true rfl, Nat.le_of_ble_eq_true rfl⟩) ?_
    refine lv_aload_n hx hb dX7_perform_59 rfl (lv_at hl 0 rfl) ?_
    refine gt_X7_2 (v := .ref a_scripts) hx hb hts i_f_X7_perform_X7 hown hK hP 0 rfl (hts (.fieldLink RX7 28 "HushWatch" "scripts" "LHushWatch$Scripts;") (List.mem_of_getElem? (i := 1) rfl)) rfl dX7_perform_60 ?_
    refine lv_iload_n hx hb dX7_perform_63 rfl (lv_at hl 1 rfl) ?_
    refine lv_iload_n hx hb dX7_perform_64 rfl (lv_at hl 3 rfl) ?_
    refine lv_iconst (v := 2) hx hb dX7_perform_65 (by decide) ?_
    replace hF := bd1_s hF
    obtain ⟨r_16, hc_17, hF⟩ := hF
    have hPc : va_P E.1 vwCl (w_X4_read E a_scripts a_scripts_steps a_scripts_counts c_scripts_held c_scripts_steps c_scripts_counts) H := hP.sub (ws' := [(a_scripts, .inr (5, [.ref a_scripts_steps, .ref a_scripts_counts, .int c_scripts_held])), (a_scripts_steps, .inl (E.2.1, 192, .inl c_scripts_steps)), (a_scripts_counts, .inl (E.2.1, 4, .inl c_scripts_counts))]) [1, 2, 3] rfl
    have hrc := va_recv hK hPc (ci := 5) (q0 := 0) rfl rfl
    refine pE_i (va_runV (As := [.int p1, .int x3, .int (2 : Int32)]) (rest := [.int r_14, .int r_12, .ref a_])  ⟨hx, hb, hml, hown, hts⟩ (f_X4_read l E (a_ := a_scripts) (a_steps := a_scripts_steps) (a_counts := a_scripts_counts) (p1 := p1) (p2 := x3) (p3 := (2 : Int32)) (c_held := c_scripts_held) (c_steps := c_scripts_steps) (c_counts := c_scripts_counts) hc_17) (cwV 3 hts g_f_X7_perform_f_X4_read_288 rfl rfl rfl hd_X4_read ⟨Nat.le_of_ble_eq_true rfl, Nat.le_of_ble_eq_true rfl⟩) ⟨pP.blind, hrc, (pP.pre ⟨hK, hN⟩ hPc)⟩ rfl rfl hl.1 rfl (lv_room (Nat.le_of_ble_eq_true rfl)) dX7_perform_66 ⟨Nat.le_of_ble_eq_true rfl, Nat.le_of_ble_eq_true rfl⟩) ?_
    refine lv_aload_n hx hb dX7_perform_69 rfl (lv_at hl 0 rfl) ?_
    refine gt_X7_2 (v := .ref a_scripts) hx hb hts i_f_X7_perform_X7 hown hK hP 0 rfl (hts (.fieldLink RX7 28 "HushWatch" "scripts" "LHushWatch$Scripts;") (List.mem_of_getElem? (i := 1) rfl)) rfl dX7_perform_70 ?_
    refine lv_iload_n hx hb dX7_perform_73 rfl (lv_at hl 1 rfl) ?_
    refine lv_iload_n hx hb dX7_perform_74 rfl (lv_at hl 3 rfl) ?_
    refine lv_iconst (v := 3) hx hb dX7_perform_75 (by decide) ?_
    replace hF := bd1_s hF
    obtain ⟨r_18, hc_19, hF⟩ := hF
    have hPc : va_P E.1 vwCl (w_X4_read E a_scripts a_scripts_steps a_scripts_counts c_scripts_held c_scripts_steps c_scripts_counts) H := hP.sub (ws' := [(a_scripts, .inr (5, [.ref a_scripts_steps, .ref a_scripts_counts, .int c_scripts_held])), (a_scripts_steps, .inl (E.2.1, 192, .inl c_scripts_steps)), (a_scripts_counts, .inl (E.2.1, 4, .inl c_scripts_counts))]) [1, 2, 3] rfl
    have hrc := va_recv hK hPc (ci := 5) (q0 := 0) rfl rfl
    refine pE_i (va_runV (As := [.int p1, .int x3, .int (3 : Int32)]) (rest := [.int r_16, .int r_14, .int r_12, .ref a_])  ⟨hx, hb, hml, hown, hts⟩ (f_X4_read l E (a_ := a_scripts) (a_steps := a_scripts_steps) (a_counts := a_scripts_counts) (p1 := p1) (p2 := x3) (p3 := (3 : Int32)) (c_held := c_scripts_held) (c_steps := c_scripts_steps) (c_counts := c_scripts_counts) hc_19) (cwV 3 hts g_f_X7_perform_f_X4_read_288 rfl rfl rfl hd_X4_read ⟨Nat.le_of_ble_eq_true rfl, Nat.le_of_ble_eq_true rfl⟩) ⟨pP.blind, hrc, (pP.pre ⟨hK, hN⟩ hPc)⟩ rfl rfl hl.1 rfl (lv_room (Nat.le_of_ble_eq_true rfl)) dX7_perform_76 ⟨Nat.le_of_ble_eq_true rfl, Nat.le_of_ble_eq_true rfl⟩) ?_
    refine lv_iconst (v := 0) hx hb dX7_perform_79 (by decide) ?_
    replace hF := bd12_s hF
    obtain ⟨r_20, w_21, w_22, w_23, w_24, w_25, w_26, w_27, w_28, w_29, w_30, w_31, hc_32, hF⟩ := hF
    obtain ⟨hPc, hDc, hFc⟩ := wcut (wc := (w_X7_act E a_ a_tape a_reader a_scripts a_now a_trial a_kept a_book a_keptBook a_history a_draws a_refused a_now_row a_now_partners a_now_share a_now_leftOver a_book_lines a_history_rows c_hasImage c_now_askedCount c_now_outcome c_now_row c_now_partners c_now_share c_now_leftOver c_book_lines c_history_next c_history_held c_history_rows c_refused)) hP hD hS hA [0, 4, 5, 6, 7, 8, 9, 10, 11, 12, 13] (by decide) rfl
    have hrc := va_recv hK hPc (ci := 8) (q0 := 0) rfl rfl
    refine cE_i (wc := (w_X7_act E a_ a_tape a_reader a_scripts a_now a_trial a_kept a_book a_keptBook a_history a_draws a_refused a_now_row a_now_partners a_now_share a_now_leftOver a_book_lines a_history_rows c_hasImage c_now_askedCount c_now_outcome c_now_row c_now_partners c_now_share c_now_leftOver c_book_lines c_history_next c_history_held c_history_rows c_refused)) (wr := [(a_scripts, .inr (5, [.ref a_scripts_steps, .ref a_scripts_counts, .int c_scripts_held])), (a_scripts_steps, .inl (E.2.1, 192, .inl c_scripts_steps)), (a_scripts_counts, .inl (E.2.1, 4, .inl c_scripts_counts))]) (w1 := (w_X7_act E a_ a_tape a_reader a_scripts a_now a_trial a_kept a_book a_keptBook a_history a_draws a_refused a_now_row a_now_partners a_now_share a_now_leftOver a_book_lines a_history_rows c_hasImage w_23 w_24 w_21 w_22 w_25 w_26 w_27 w_29 w_30 w_28 w_31)) (va_runV (As := [.int r_12, .int r_14, .int r_16, .int r_18, .int (0 : Int32)]) (rest := [])  ⟨hx, hb, hml, hown, hts⟩ (f_X7_act l E H.size K (a_ := a_) (a_tape := a_tape) (a_reader := a_reader) (a_scripts := a_scripts) (a_now := a_now) (a_trial := a_trial) (a_kept := a_kept) (a_book := a_book) (a_keptBook := a_keptBook) (a_history := a_history) (a_draws := a_draws) (a_refused := a_refused) (a_now_row := a_now_row) (a_now_partners := a_now_partners) (a_now_share := a_now_share) (a_now_leftOver := a_now_leftOver) (a_book_lines := a_book_lines) (a_history_rows := a_history_rows) (p1 := r_12) (p2 := r_14) (p3 := r_16) (p4 := r_18) (p5 := (0 : Int32)) (c_hasImage := c_hasImage) (c_now_askedCount := c_now_askedCount) (c_now_outcome := c_now_outcome) (c_now_row := c_now_row) (c_now_partners := c_now_partners) (c_now_share := c_now_share) (c_now_leftOver := c_now_leftOver) (c_book_lines := c_book_lines) (c_history_next := c_history_next) (c_history_held := c_history_held) (c_history_rows := c_history_rows) (c_refused := c_refused) hc_32) (cwV 5 hts g_f_X7_perform_f_X7_act_163 rfl rfl rfl hd_X7_act ⟨Nat.le_of_ble_eq_true rfl, Nat.le_of_ble_eq_true rfl⟩) ⟨pW.blind, hrc, (pW.pre ⟨hK, hN⟩ hPc hDc)⟩ rfl rfl hl.1 rfl (lv_room (Nat.le_of_ble_eq_true rfl)) dX7_perform_80 ⟨Nat.le_of_ble_eq_true rfl, Nat.le_of_ble_eq_true rfl⟩) hS hFc hP hD [0, 4, 5, 6, 7, 8, 9, 10, 11, 12, 13] [1, 2, 3] rfl rfl (by decide) (by decide) (fun H locs hP hD hS => ?_)
    replace hP : va_P E.1 vwCl [(a_scripts, .inr (5, [.ref a_scripts_steps, .ref a_scripts_counts, .int c_scripts_held])), (a_scripts_steps, .inl (E.2.1, 192, .inl c_scripts_steps)), (a_scripts_counts, .inl (E.2.1, 4, .inl c_scripts_counts)), (a_, .inr (8, [.ref a_tape, .ref a_reader, .ref a_scripts, .ref a_now, .ref a_trial, .ref a_kept, .ref a_book, .ref a_keptBook, .ref a_history, .ref a_draws, .ref a_refused, .int c_hasImage])), (a_now, .inr (6, [.ref a_now_row, .ref a_now_partners, .int w_23, .int w_24, .ref a_now_share, .ref a_now_leftOver])), (a_now_row, .inl (E.2.1, 81, .inl w_21)), (a_now_partners, .inl (E.2.1, 8, .inl w_22)), (a_now_share, .inl (E.2.1, 2, .inl w_25)), (a_now_leftOver, .inl (E.2.1, 2, .inl w_26)), (a_book, .inr (1, [.ref a_book_lines])), (a_book_lines, .inl (E.2.1, 300, .inl w_27)), (a_history, .inr (3, [.ref a_history_rows, .int w_29, .int w_30])), (a_history_rows, .inl (E.2.1, 3240, .inl w_28)), (a_refused, .inl (E.2.1, 3, .inl w_31))] H := hP
    replace hD : va_D A [(a_scripts, .inr (5, [.ref a_scripts_steps, .ref a_scripts_counts, .int c_scripts_held])), (a_scripts_steps, .inl (E.2.1, 192, .inl c_scripts_steps)), (a_scripts_counts, .inl (E.2.1, 4, .inl c_scripts_counts)), (a_, .inr (8, [.ref a_tape, .ref a_reader, .ref a_scripts, .ref a_now, .ref a_trial, .ref a_kept, .ref a_book, .ref a_keptBook, .ref a_history, .ref a_draws, .ref a_refused, .int c_hasImage])), (a_now, .inr (6, [.ref a_now_row, .ref a_now_partners, .int w_23, .int w_24, .ref a_now_share, .ref a_now_leftOver])), (a_now_row, .inl (E.2.1, 81, .inl w_21)), (a_now_partners, .inl (E.2.1, 8, .inl w_22)), (a_now_share, .inl (E.2.1, 2, .inl w_25)), (a_now_leftOver, .inl (E.2.1, 2, .inl w_26)), (a_book, .inr (1, [.ref a_book_lines])), (a_book_lines, .inl (E.2.1, 300, .inl w_27)), (a_history, .inr (3, [.ref a_history_rows, .int w_29, .int w_30])), (a_history_rows, .inl (E.2.1, 3240, .inl w_28)), (a_refused, .inl (E.2.1, 3, .inl w_31))] := hD
    refine lv_istore (lv' := [(4, .int r_20), (0, .ref a_), (1, .int p1), (2, .int x2), (3, .int x3)]) hx hb dX7_perform_83 hl (by decide) rfl (fun ls hl => ?_)
    refine lv_iload hx hb dX7_perform_85 (lv_at hl 0 rfl) ?_
    refine lv_iconst (v := -1) hx hb dX7_perform_87 (by decide) ?_
    refine lv_icmp_ne (tgt := 93) hx hb dX7_perform_88 (by decide) (fun c_33 => ?_) (fun c_33 => ?_)
    ·
      replace hF := inn c_33 hF
      refine lv_iinc (v := x3 + (1 : Int32)) (lv' := [(3, .int (x3 + (1 : Int32))), (4, .int r_20), (0, .ref a_), (1, .int p1), (2, .int x2)]) hx hb dX7_perform_93 hl (k := 4) rfl (rfl) (by decide) rfl (fun ls hl => ?_)
      refine lv_goto (tgt := 34) hx hb dX7_perform_96 (by decide) ?_
      cases hF
      exact hC (x3 + (1 : Int32)) w_21 w_22 w_23 w_24 w_25 w_26 w_27 w_28 w_29 w_30 w_31 rfl H locs ls (hP.sub [3, 0, 1, 2, 4, 5, 6, 7, 8, 9, 10, 11, 12, 13] rfl) (hD.sub [3, 0, 1, 2, 4, 5, 6, 7, 8, 9, 10, 11, 12, 13] (by decide) rfl) hS (lv_sub hl [2, 3, 4, 0] rfl)
    ·
      replace hF := ip c_33 hF
      cases hF
      exact (hE 0 x3 w_21 w_22 w_23 w_24 w_25 w_26 w_27 w_28 w_29 w_30 w_31 rfl).1 rfl H locs ls (hP.sub [3, 0, 1, 2, 4, 5, 6, 7, 8, 9, 10, 11, 12, 13] rfl) (hD.sub [3, 0, 1, 2, 4, 5, 6, 7, 8, 9, 10, 11, 12, 13] (by decide) rfl) hS (lv_sub hl [4] rfl)

set_option maxHeartbeats 4000000 in
set_option maxRecDepth 100000 in
theorem lw_X7_perform_34 {p : Program} (l : Launch) {e : Env} {s : State} {m : MethodId} {below : List Frame} {meth : Method} {c : Code} {Q : State → Prop} (E : EE) (K : Nat) {z9 : Nat → Nat} {a_ a_tape a_reader a_scripts a_now a_trial a_kept a_book a_keptBook a_history a_draws a_refused a_scripts_steps a_scripts_counts a_now_row a_now_partners a_now_share a_now_leftOver a_book_lines a_history_rows : Nat} {p1 : Int32} {c_hasImage : Int32} {c_scripts_held : Int32} {c_scripts_steps : Nat → Int32} {c_scripts_counts : Nat → Int32} {x2 : Int32} (hx : p.tables.exec = Jvm.exec) (hb : c.code = cX7_perform) (hml : c.maxLocals = 5) (hown : s.vm.findClass RX7 = some m.cls) (hts : ∀ w ∈ v_f_X7_perform, w.before #[Value.ref a_, Value.int p1] s = true) (hK : va_K E.1 vwCl (TY E) s) (hN : NX s) {A : Nat → Prop} (hA : ∀ q : Nat, s.heap.size ≤ q → A q) (hZ : ZZ z9 A s s.heap) (j9 : Nat) (x3 : Int32) (c_now_row : Nat → Int32) (c_now_partners : Nat → Int32) (c_now_askedCount : Int32) (c_now_outcome : Int32) (c_now_share : Nat → Int32) (c_now_leftOver : Nat → Int32) (c_book_lines : Nat → Int32) (c_history_rows : Nat → Int32) (c_history_next : Int32) (c_history_held : Int32) (c_refused : Nat → Int32) (t9' : Nat) (x3' : Int32) (c_now_row' : Nat → Int32) (c_now_partners' : Nat → Int32) (c_now_askedCount' : Int32) (c_now_outcome' : Int32) (c_now_share' : Nat → Int32) (c_now_leftOver' : Nat → Int32) (c_book_lines' : Nat → Int32) (c_history_rows' : Nat → Int32) (c_history_next' : Int32) (c_history_held' : Int32) (c_refused' : Nat → Int32) (hL : lpF (fun u9 : Int32 × (Nat → Int32) × (Nat → Int32) × Int32 × Int32 × (Nat → Int32) × (Nat → Int32) × (Nat → Int32) × (Nat → Int32) × Int32 × Int32 × (Nat → Int32) => B_X7_perform_34 K p1 c_scripts_held c_scripts_steps c_scripts_counts x2 u9.1 u9.2.1 u9.2.2.1 u9.2.2.2.1 u9.2.2.2.2.1 u9.2.2.2.2.2.1 u9.2.2.2.2.2.2.1 u9.2.2.2.2.2.2.2.1 u9.2.2.2.2.2.2.2.2.1 u9.2.2.2.2.2.2.2.2.2.1 u9.2.2.2.2.2.2.2.2.2.2.1 u9.2.2.2.2.2.2.2.2.2.2.2) j9 (x3, c_now_row, c_now_partners, c_now_askedCount, c_now_outcome, c_now_share, c_now_leftOver, c_book_lines, c_history_rows, c_history_next, c_history_held, c_refused) = some (t9', x3', c_now_row', c_now_partners', c_now_askedCount', c_now_outcome', c_now_share', c_now_leftOver', c_book_lines', c_history_rows', c_history_next', c_history_held', c_refused')) (hX : (t9' = 0 → ∀ (H : Heap) (locs : List Loc) (ls : Array Slot), va_P E.1 vwCl (w_X7_perform E a_ a_tape a_reader a_scripts a_now a_trial a_kept a_book a_keptBook a_history a_draws a_refused a_scripts_steps a_scripts_counts a_now_row a_now_partners a_now_share a_now_leftOver a_book_lines a_history_rows c_hasImage c_scripts_held c_scripts_steps c_scripts_counts c_now_askedCount' c_now_outcome' c_now_row' c_now_partners' c_now_share' c_now_leftOver' c_book_lines' c_history_next' c_history_held' c_history_rows' c_refused') H → va_D A (w_X7_perform E a_ a_tape a_reader a_scripts a_now a_trial a_kept a_book a_keptBook a_history a_draws a_refused a_scripts_steps a_scripts_counts a_now_row a_now_partners a_now_share a_now_leftOver a_book_lines a_history_rows c_hasImage c_scripts_held c_scripts_steps c_scripts_counts c_now_askedCount' c_now_outcome' c_now_row' c_now_partners' c_now_share' c_now_leftOver' c_book_lines' c_history_next' c_history_held' c_history_rows' c_refused') → va_S A s.heap H locs → lv_has ls 5 [(3, .int x3')] → W p l e ({ frames := 6, cells := 0, slots := 0, locals := 151 } : Room) s m #[Value.ref a_, Value.int p1] below meth c H locs 0 0 Q (F0 m 91 ls [])) ∧ (t9' = 1 → ∀ (H : Heap) (locs : List Loc) (ls : Array Slot), va_P E.1 vwCl (w_X7_perform E a_ a_tape a_reader a_scripts a_now a_trial a_kept a_book a_keptBook a_history a_draws a_refused a_scripts_steps a_scripts_counts a_now_row a_now_partners a_now_share a_now_leftOver a_book_lines a_history_rows c_hasImage c_scripts_held c_scripts_steps c_scripts_counts c_now_askedCount' c_now_outcome' c_now_row' c_now_partners' c_now_share' c_now_leftOver' c_book_lines' c_history_next' c_history_held' c_history_rows' c_refused') H → va_D A (w_X7_perform E a_ a_tape a_reader a_scripts a_now a_trial a_kept a_book a_keptBook a_history a_draws a_refused a_scripts_steps a_scripts_counts a_now_row a_now_partners a_now_share a_now_leftOver a_book_lines a_history_rows c_hasImage c_scripts_held c_scripts_steps c_scripts_counts c_now_askedCount' c_now_outcome' c_now_row' c_now_partners' c_now_share' c_now_leftOver' c_book_lines' c_history_next' c_history_held' c_history_rows' c_refused') → va_S A s.heap H locs → lv_has ls 5 [(2, .int x2)] → W p l e ({ frames := 6, cells := 0, slots := 0, locals := 151 } : Room) s m #[Value.ref a_, Value.int p1] below meth c H locs 0 0 Q (F0 m 99 ls []))) : ∀ (H : Heap) (locs : List Loc) (ls : Array Slot), va_P E.1 vwCl (w_X7_perform E a_ a_tape a_reader a_scripts a_now a_trial a_kept a_book a_keptBook a_history a_draws a_refused a_scripts_steps a_scripts_counts a_now_row a_now_partners a_now_share a_now_leftOver a_book_lines a_history_rows c_hasImage c_scripts_held c_scripts_steps c_scripts_counts c_now_askedCount c_now_outcome c_now_row c_now_partners c_now_share c_now_leftOver c_book_lines c_history_next c_history_held c_history_rows c_refused) H → va_D A (w_X7_perform E a_ a_tape a_reader a_scripts a_now a_trial a_kept a_book a_keptBook a_history a_draws a_refused a_scripts_steps a_scripts_counts a_now_row a_now_partners a_now_share a_now_leftOver a_book_lines a_history_rows c_hasImage c_scripts_held c_scripts_steps c_scripts_counts c_now_askedCount c_now_outcome c_now_row c_now_partners c_now_share c_now_leftOver c_book_lines c_history_next c_history_held c_history_rows c_refused) → va_S A s.heap H locs → lv_has ls 5 [(0, .ref a_), (1, .int p1), (2, .int x2), (3, .int x3)] → W p l e ({ frames := 6, cells := 0, slots := 0, locals := 151 } : Room) s m #[Value.ref a_, Value.int p1] below meth c H locs 0 0 Q (F0 m 34 ls []) := by
  exact lp_rule (P := (fun u9 : Int32 × (Nat → Int32) × (Nat → Int32) × Int32 × Int32 × (Nat → Int32) × (Nat → Int32) × (Nat → Int32) × (Nat → Int32) × Int32 × Int32 × (Nat → Int32) => ∀ (H : Heap) (locs : List Loc) (ls : Array Slot), va_P E.1 vwCl (w_X7_perform E a_ a_tape a_reader a_scripts a_now a_trial a_kept a_book a_keptBook a_history a_draws a_refused a_scripts_steps a_scripts_counts a_now_row a_now_partners a_now_share a_now_leftOver a_book_lines a_history_rows c_hasImage c_scripts_held c_scripts_steps c_scripts_counts u9.2.2.2.1 u9.2.2.2.2.1 u9.2.1 u9.2.2.1 u9.2.2.2.2.2.1 u9.2.2.2.2.2.2.1 u9.2.2.2.2.2.2.2.1 u9.2.2.2.2.2.2.2.2.2.1 u9.2.2.2.2.2.2.2.2.2.2.1 u9.2.2.2.2.2.2.2.2.1 u9.2.2.2.2.2.2.2.2.2.2.2) H → va_D A (w_X7_perform E a_ a_tape a_reader a_scripts a_now a_trial a_kept a_book a_keptBook a_history a_draws a_refused a_scripts_steps a_scripts_counts a_now_row a_now_partners a_now_share a_now_leftOver a_book_lines a_history_rows c_hasImage c_scripts_held c_scripts_steps c_scripts_counts u9.2.2.2.1 u9.2.2.2.2.1 u9.2.1 u9.2.2.1 u9.2.2.2.2.2.1 u9.2.2.2.2.2.2.1 u9.2.2.2.2.2.2.2.1 u9.2.2.2.2.2.2.2.2.2.1 u9.2.2.2.2.2.2.2.2.2.2.1 u9.2.2.2.2.2.2.2.2.1 u9.2.2.2.2.2.2.2.2.2.2.2) → va_S A s.heap H locs → lv_has ls 5 [(0, .ref a_), (1, .int p1), (2, .int x2), (3, .int u9.1)] → W p l e ({ frames := 6, cells := 0, slots := 0, locals := 151 } : Room) s m #[Value.ref a_, Value.int p1] below meth c H locs 0 0 Q (F0 m 34 ls []))) (R := (fun r9 : Nat × Int32 × (Nat → Int32) × (Nat → Int32) × Int32 × Int32 × (Nat → Int32) × (Nat → Int32) × (Nat → Int32) × (Nat → Int32) × Int32 × Int32 × (Nat → Int32) => (r9.1 = 0 → ∀ (H : Heap) (locs : List Loc) (ls : Array Slot), va_P E.1 vwCl (w_X7_perform E a_ a_tape a_reader a_scripts a_now a_trial a_kept a_book a_keptBook a_history a_draws a_refused a_scripts_steps a_scripts_counts a_now_row a_now_partners a_now_share a_now_leftOver a_book_lines a_history_rows c_hasImage c_scripts_held c_scripts_steps c_scripts_counts r9.2.2.2.2.1 r9.2.2.2.2.2.1 r9.2.2.1 r9.2.2.2.1 r9.2.2.2.2.2.2.1 r9.2.2.2.2.2.2.2.1 r9.2.2.2.2.2.2.2.2.1 r9.2.2.2.2.2.2.2.2.2.2.1 r9.2.2.2.2.2.2.2.2.2.2.2.1 r9.2.2.2.2.2.2.2.2.2.1 r9.2.2.2.2.2.2.2.2.2.2.2.2) H → va_D A (w_X7_perform E a_ a_tape a_reader a_scripts a_now a_trial a_kept a_book a_keptBook a_history a_draws a_refused a_scripts_steps a_scripts_counts a_now_row a_now_partners a_now_share a_now_leftOver a_book_lines a_history_rows c_hasImage c_scripts_held c_scripts_steps c_scripts_counts r9.2.2.2.2.1 r9.2.2.2.2.2.1 r9.2.2.1 r9.2.2.2.1 r9.2.2.2.2.2.2.1 r9.2.2.2.2.2.2.2.1 r9.2.2.2.2.2.2.2.2.1 r9.2.2.2.2.2.2.2.2.2.2.1 r9.2.2.2.2.2.2.2.2.2.2.2.1 r9.2.2.2.2.2.2.2.2.2.1 r9.2.2.2.2.2.2.2.2.2.2.2.2) → va_S A s.heap H locs → lv_has ls 5 [(3, .int r9.2.1)] → W p l e ({ frames := 6, cells := 0, slots := 0, locals := 151 } : Room) s m #[Value.ref a_, Value.int p1] below meth c H locs 0 0 Q (F0 m 91 ls [])) ∧ (r9.1 = 1 → ∀ (H : Heap) (locs : List Loc) (ls : Array Slot), va_P E.1 vwCl (w_X7_perform E a_ a_tape a_reader a_scripts a_now a_trial a_kept a_book a_keptBook a_history a_draws a_refused a_scripts_steps a_scripts_counts a_now_row a_now_partners a_now_share a_now_leftOver a_book_lines a_history_rows c_hasImage c_scripts_held c_scripts_steps c_scripts_counts r9.2.2.2.2.1 r9.2.2.2.2.2.1 r9.2.2.1 r9.2.2.2.1 r9.2.2.2.2.2.2.1 r9.2.2.2.2.2.2.2.1 r9.2.2.2.2.2.2.2.2.1 r9.2.2.2.2.2.2.2.2.2.2.1 r9.2.2.2.2.2.2.2.2.2.2.2.1 r9.2.2.2.2.2.2.2.2.2.1 r9.2.2.2.2.2.2.2.2.2.2.2.2) H → va_D A (w_X7_perform E a_ a_tape a_reader a_scripts a_now a_trial a_kept a_book a_keptBook a_history a_draws a_refused a_scripts_steps a_scripts_counts a_now_row a_now_partners a_now_share a_now_leftOver a_book_lines a_history_rows c_hasImage c_scripts_held c_scripts_steps c_scripts_counts r9.2.2.2.2.1 r9.2.2.2.2.2.1 r9.2.2.1 r9.2.2.2.1 r9.2.2.2.2.2.2.1 r9.2.2.2.2.2.2.2.1 r9.2.2.2.2.2.2.2.2.1 r9.2.2.2.2.2.2.2.2.2.2.1 r9.2.2.2.2.2.2.2.2.2.2.2.1 r9.2.2.2.2.2.2.2.2.2.1 r9.2.2.2.2.2.2.2.2.2.2.2.2) → va_S A s.heap H locs → lv_has ls 5 [(2, .int x2)] → W p l e ({ frames := 6, cells := 0, slots := 0, locals := 151 } : Room) s m #[Value.ref a_, Value.int p1] below meth c H locs 0 0 Q (F0 m 99 ls [])))) (fun u9 xx hF hC hE => wb_X7_perform_34 l E K (p1 := p1) (c_hasImage := c_hasImage) (c_scripts_held := c_scripts_held) (c_scripts_steps := c_scripts_steps) (c_scripts_counts := c_scripts_counts) (x2 := x2) (x3 := u9.1) (c_now_row := u9.2.1) (c_now_partners := u9.2.2.1) (c_now_askedCount := u9.2.2.2.1) (c_now_outcome := u9.2.2.2.2.1) (c_now_share := u9.2.2.2.2.2.1) (c_now_leftOver := u9.2.2.2.2.2.2.1) (c_book_lines := u9.2.2.2.2.2.2.2.1) (c_history_rows := u9.2.2.2.2.2.2.2.2.1) (c_history_next := u9.2.2.2.2.2.2.2.2.2.1) (c_history_held := u9.2.2.2.2.2.2.2.2.2.2.1) (c_refused := u9.2.2.2.2.2.2.2.2.2.2.2) hx hb hml hown hts hK hN hA hZ (fun x3 c_now_row c_now_partners c_now_askedCount c_now_outcome c_now_share c_now_leftOver c_book_lines c_history_rows c_history_next c_history_held c_refused q9 => hC _ q9) (fun t9 x3 c_now_row c_now_partners c_now_askedCount c_now_outcome c_now_share c_now_leftOver c_book_lines c_history_rows c_history_next c_history_held c_refused q9 => hE _ q9) hF) j9 (x3, c_now_row, c_now_partners, c_now_askedCount, c_now_outcome, c_now_share, c_now_leftOver, c_book_lines, c_history_rows, c_history_next, c_history_held, c_refused) (t9', x3', c_now_row', c_now_partners', c_now_askedCount', c_now_outcome', c_now_share', c_now_leftOver', c_book_lines', c_history_rows', c_history_next', c_history_held', c_refused') hL hX

set_option maxHeartbeats 4000000 in
set_option maxRecDepth 100000 in
theorem f_X7_perform (l : Launch) (E : EE) (sz : Nat) (K : Nat) (z9 : Nat → Nat) {a_ a_tape a_reader a_scripts a_now a_trial a_kept a_book a_keptBook a_history a_draws a_refused a_scripts_steps a_scripts_counts a_now_row a_now_partners a_now_share a_now_leftOver a_book_lines a_history_rows : Nat} {p1 : Int32} {c_hasImage : Int32} {c_scripts_held : Int32} {c_scripts_steps : Nat → Int32} {c_scripts_counts : Nat → Int32} {c_now_askedCount : Int32} {c_now_outcome : Int32} {c_now_row : Nat → Int32} {c_now_partners : Nat → Int32} {c_now_share : Nat → Int32} {c_now_leftOver : Nat → Int32} {c_book_lines : Nat → Int32} {c_history_next : Int32} {c_history_held : Int32} {c_history_rows : Nat → Int32} {c_refused : Nat → Int32} {rr : Int32} {n_now_row : Nat → Int32} {n_now_partners : Nat → Int32} {n_now_askedCount : Int32} {n_now_outcome : Int32} {n_now_share : Nat → Int32} {n_now_leftOver : Nat → Int32} {n_book_lines : Nat → Int32} {n_history_rows : Nat → Int32} {n_history_next : Int32} {n_history_held : Int32} {n_refused : Nat → Int32} (hF : F_X7_perform K p1 c_scripts_steps c_scripts_counts c_scripts_held c_now_row c_now_partners c_now_askedCount c_now_outcome c_now_share c_now_leftOver c_book_lines c_history_rows c_history_next c_history_held c_refused = some (rr, n_now_row, n_now_partners, n_now_askedCount, n_now_outcome, n_now_share, n_now_leftOver, n_book_lines, n_history_rows, n_history_next, n_history_held, n_refused)) : Met l yX7_perform v_f_X7_perform (({ frames := 6, cells := 0, slots := 0, locals := 151 } : Room)) (va_Pc [.ref a_, .int p1] (qWZ E z9 sz (w_X7_perform E a_ a_tape a_reader a_scripts a_now a_trial a_kept a_book a_keptBook a_history a_draws a_refused a_scripts_steps a_scripts_counts a_now_row a_now_partners a_now_share a_now_leftOver a_book_lines a_history_rows c_hasImage c_scripts_held c_scripts_steps c_scripts_counts c_now_askedCount c_now_outcome c_now_row c_now_partners c_now_share c_now_leftOver c_book_lines c_history_next c_history_held c_history_rows c_refused))) (va_Qi (fun (q : Int32) (_u : Unit) => q = rr) (fun (_u : Unit) tt => va_P E.1 vwCl (w_X7_perform E a_ a_tape a_reader a_scripts a_now a_trial a_kept a_book a_keptBook a_history a_draws a_refused a_scripts_steps a_scripts_counts a_now_row a_now_partners a_now_share a_now_leftOver a_book_lines a_history_rows c_hasImage c_scripts_held c_scripts_steps c_scripts_counts n_now_askedCount n_now_outcome n_now_row n_now_partners n_now_share n_now_leftOver n_book_lines n_history_next n_history_held n_history_rows n_refused) tt.heap ∧ va_D (va_A (w_X7_perform E a_ a_tape a_reader a_scripts a_now a_trial a_kept a_book a_keptBook a_history a_draws a_refused a_scripts_steps a_scripts_counts a_now_row a_now_partners a_now_share a_now_leftOver a_book_lines a_history_rows c_hasImage c_scripts_held c_scripts_steps c_scripts_counts c_now_askedCount c_now_outcome c_now_row c_now_partners c_now_share c_now_leftOver c_book_lines c_history_next c_history_held c_history_rows c_refused) sz) (w_X7_perform E a_ a_tape a_reader a_scripts a_now a_trial a_kept a_book a_keptBook a_history a_draws a_refused a_scripts_steps a_scripts_counts a_now_row a_now_partners a_now_share a_now_leftOver a_book_lines a_history_rows c_hasImage c_scripts_held c_scripts_steps c_scripts_counts n_now_askedCount n_now_outcome n_now_row n_now_partners n_now_share n_now_leftOver n_book_lines n_history_next n_history_held n_history_rows n_refused)) (va_A (w_X7_perform E a_ a_tape a_reader a_scripts a_now a_trial a_kept a_book a_keptBook a_history a_draws a_refused a_scripts_steps a_scripts_counts a_now_row a_now_partners a_now_share a_now_leftOver a_book_lines a_history_rows c_hasImage c_scripts_held c_scripts_steps c_scripts_counts c_now_askedCount c_now_outcome c_now_row c_now_partners c_now_share c_now_leftOver c_book_lines c_history_next c_history_held c_history_rows c_refused) sz)) 0 0 (va_A (w_X7_perform E a_ a_tape a_reader a_scripts a_now a_trial a_kept a_book a_keptBook a_history a_draws a_refused a_scripts_steps a_scripts_counts a_now_row a_now_partners a_now_share a_now_leftOver a_book_lines a_history_rows c_hasImage c_scripts_held c_scripts_steps c_scripts_counts c_now_askedCount c_now_outcome c_now_row c_now_partners c_now_share c_now_leftOver c_book_lines c_history_next c_history_held c_history_rows c_refused) sz) := by
  refine Met.ofW (cc := cX7_perform) (maxL := 5) (ret := (some .int)) (by decide) rfl ?_
  intro p e s m args below meth c s₁ B hml hv
  obtain ⟨rfl, hsz, ⟨hK, hN⟩, hP, hD0, hZ⟩ := hv
  have hx := B.exec
  have hb := B.bytes
  have hr := B.returns
  have hts := atoms_spec (ws := v_f_X7_perform) B.pre
  have hown : s.vm.findClass RX7 = some m.cls := own_of hd_X7_perform.1 (findClass_of_methodNamed B.named)
  have hlocks : meth.locks = false := B.notSynchronized
  subst hsz
  have hD := hD0.self (sz := s.heap.size)
  generalize hAe : va_A (w_X7_perform E a_ a_tape a_reader a_scripts a_now a_trial a_kept a_book a_keptBook a_history a_draws a_refused a_scripts_steps a_scripts_counts a_now_row a_now_partners a_now_share a_now_leftOver a_book_lines a_history_rows c_hasImage c_scripts_held c_scripts_steps c_scripts_counts c_now_askedCount c_now_outcome c_now_row c_now_partners c_now_share c_now_leftOver c_book_lines c_history_next c_history_held c_history_rows c_refused) s.heap.size = A at hD hZ ⊢
  have hA : ∀ q : Nat, s.heap.size ≤ q → A q := fun q h => by rw [← hAe]; exact Or.inr h
  have hS : va_S A s.heap s.heap [] := va_S.rf
  have hl := lv_entry ([.ref a_, .int p1]) (n := 5) (Nat.le_of_ble_eq_true rfl)
  rw [lg_entry_eq]
  generalize (lg_sl ([.ref a_, .int p1]) ++ List.replicate (5 - (lg_sl ([.ref a_, .int p1])).length) Slot.unset).toArray = ls at hl ⊢
  have hl : lv_has ls 5 [(0, .ref a_), (1, .int p1)] := hl
  obtain ⟨Q, hQ⟩ : ∃ Q : State → Prop, Q = MQ below (va_Qi (fun (q : Int32) (_u : Unit) => q = rr) (fun (_u : Unit) tt => va_P E.1 vwCl (w_X7_perform E a_ a_tape a_reader a_scripts a_now a_trial a_kept a_book a_keptBook a_history a_draws a_refused a_scripts_steps a_scripts_counts a_now_row a_now_partners a_now_share a_now_leftOver a_book_lines a_history_rows c_hasImage c_scripts_held c_scripts_steps c_scripts_counts n_now_askedCount n_now_outcome n_now_row n_now_partners n_now_share n_now_leftOver n_book_lines n_history_next n_history_held n_history_rows n_refused) tt.heap ∧ va_D A (w_X7_perform E a_ a_tape a_reader a_scripts a_now a_trial a_kept a_book a_keptBook a_history a_draws a_refused a_scripts_steps a_scripts_counts a_now_row a_now_partners a_now_share a_now_leftOver a_book_lines a_history_rows c_hasImage c_scripts_held c_scripts_steps c_scripts_counts n_now_askedCount n_now_outcome n_now_row n_now_partners n_now_share n_now_leftOver n_book_lines n_history_next n_history_held n_history_rows n_refused)) A) #[Value.ref a_, Value.int p1] s 0 0 A := ⟨_, rfl⟩
  rw [← hQ]
  change W p l e ({ frames := 6, cells := 0, slots := 0, locals := 151 } : Room) s m #[Value.ref a_, Value.int p1] below meth c s.heap [] 0 0 Q (F0 m 0 ls [])
  suffices hh9 : ∀ (H : Heap) (locs : List Loc), va_P E.1 vwCl (w_X7_perform E a_ a_tape a_reader a_scripts a_now a_trial a_kept a_book a_keptBook a_history a_draws a_refused a_scripts_steps a_scripts_counts a_now_row a_now_partners a_now_share a_now_leftOver a_book_lines a_history_rows c_hasImage c_scripts_held c_scripts_steps c_scripts_counts c_now_askedCount c_now_outcome c_now_row c_now_partners c_now_share c_now_leftOver c_book_lines c_history_next c_history_held c_history_rows c_refused) H → va_D A (w_X7_perform E a_ a_tape a_reader a_scripts a_now a_trial a_kept a_book a_keptBook a_history a_draws a_refused a_scripts_steps a_scripts_counts a_now_row a_now_partners a_now_share a_now_leftOver a_book_lines a_history_rows c_hasImage c_scripts_held c_scripts_steps c_scripts_counts c_now_askedCount c_now_outcome c_now_row c_now_partners c_now_share c_now_leftOver c_book_lines c_history_next c_history_held c_history_rows c_refused) → va_S A s.heap H locs → W p l e ({ frames := 6, cells := 0, slots := 0, locals := 151 } : Room) s m #[Value.ref a_, Value.int p1] below meth c H locs 0 0 Q (F0 m 0 ls []) from hh9 s.heap [] hP hD hS
  clear hP hD hS
  intro H locs hP hD hS
  replace hP : va_P E.1 vwCl [(a_, .inr (8, [.ref a_tape, .ref a_reader, .ref a_scripts, .ref a_now, .ref a_trial, .ref a_kept, .ref a_book, .ref a_keptBook, .ref a_history, .ref a_draws, .ref a_refused, .int c_hasImage])), (a_scripts, .inr (5, [.ref a_scripts_steps, .ref a_scripts_counts, .int c_scripts_held])), (a_scripts_steps, .inl (E.2.1, 192, .inl c_scripts_steps)), (a_scripts_counts, .inl (E.2.1, 4, .inl c_scripts_counts)), (a_now, .inr (6, [.ref a_now_row, .ref a_now_partners, .int c_now_askedCount, .int c_now_outcome, .ref a_now_share, .ref a_now_leftOver])), (a_now_row, .inl (E.2.1, 81, .inl c_now_row)), (a_now_partners, .inl (E.2.1, 8, .inl c_now_partners)), (a_now_share, .inl (E.2.1, 2, .inl c_now_share)), (a_now_leftOver, .inl (E.2.1, 2, .inl c_now_leftOver)), (a_book, .inr (1, [.ref a_book_lines])), (a_book_lines, .inl (E.2.1, 300, .inl c_book_lines)), (a_history, .inr (3, [.ref a_history_rows, .int c_history_next, .int c_history_held])), (a_history_rows, .inl (E.2.1, 3240, .inl c_history_rows)), (a_refused, .inl (E.2.1, 3, .inl c_refused))] H := hP
  replace hD : va_D A [(a_, .inr (8, [.ref a_tape, .ref a_reader, .ref a_scripts, .ref a_now, .ref a_trial, .ref a_kept, .ref a_book, .ref a_keptBook, .ref a_history, .ref a_draws, .ref a_refused, .int c_hasImage])), (a_scripts, .inr (5, [.ref a_scripts_steps, .ref a_scripts_counts, .int c_scripts_held])), (a_scripts_steps, .inl (E.2.1, 192, .inl c_scripts_steps)), (a_scripts_counts, .inl (E.2.1, 4, .inl c_scripts_counts)), (a_now, .inr (6, [.ref a_now_row, .ref a_now_partners, .int c_now_askedCount, .int c_now_outcome, .ref a_now_share, .ref a_now_leftOver])), (a_now_row, .inl (E.2.1, 81, .inl c_now_row)), (a_now_partners, .inl (E.2.1, 8, .inl c_now_partners)), (a_now_share, .inl (E.2.1, 2, .inl c_now_share)), (a_now_leftOver, .inl (E.2.1, 2, .inl c_now_leftOver)), (a_book, .inr (1, [.ref a_book_lines])), (a_book_lines, .inl (E.2.1, 300, .inl c_book_lines)), (a_history, .inr (3, [.ref a_history_rows, .int c_history_next, .int c_history_held])), (a_history_rows, .inl (E.2.1, 3240, .inl c_history_rows)), (a_refused, .inl (E.2.1, 3, .inl c_refused))] := hD
  unfold F_X7_perform at hF
  refine lv_aload_n hx hb dX7_perform_0 rfl (lv_at hl 0 rfl) ?_
  refine gt_X7_2 (v := .ref a_scripts) hx hb hts i_f_X7_perform_X7 hown hK hP 0 rfl (hts (.fieldLink RX7 28 "HushWatch" "scripts" "LHushWatch$Scripts;") (List.mem_of_getElem? (i := 1) rfl)) rfl dX7_perform_1 ?_
  refine lv_iload_n hx hb dX7_perform_4 rfl (lv_at hl 1 rfl) ?_
  replace hF := bd1_s hF
  obtain ⟨r_1, hc_2, hF⟩ := hF
  have hPc : va_P E.1 vwCl (w_X4_has E a_scripts a_scripts_steps a_scripts_counts c_scripts_held) H := hP.sub (ws' := [(a_scripts, .inr (5, [.ref a_scripts_steps, .ref a_scripts_counts, .int c_scripts_held]))]) [1] rfl
  have hrc := va_recv hK hPc (ci := 5) (q0 := 0) rfl rfl
  refine pE_z (va_runV (As := [.int p1]) (rest := [])  ⟨hx, hb, hml, hown, hts⟩ (f_X4_has l E (a_ := a_scripts) (a_steps := a_scripts_steps) (a_counts := a_scripts_counts) (p1 := p1) (c_held := c_scripts_held) hc_2) (cwV 1 hts g_f_X7_perform_f_X4_has_290 rfl rfl rfl hd_X4_has ⟨Nat.le_of_ble_eq_true rfl, Nat.le_of_ble_eq_true rfl⟩) ⟨pP.blind, hrc, (pP.pre ⟨hK, hN⟩ hPc)⟩ rfl rfl hl.1 rfl (lv_room (Nat.le_of_ble_eq_true rfl)) dX7_perform_5 ⟨Nat.le_of_ble_eq_true rfl, Nat.le_of_ble_eq_true rfl⟩) (fun hb_3 => ?_)
  refine lv_if_eq (tgt := 21) hx hb dX7_perform_8 (by decide) (fun c_4 => ?_) (fun c_4 => ?_)
  ·
    replace hF := ip c_4 hF
    refine lv_iconst (v := -1) hx hb dX7_perform_21 (by decide) ?_
    rw [hQ]
    have h9 := fin9 (P := fun u9 : Int32 × (Nat → Int32) × (Nat → Int32) × Int32 × Int32 × (Nat → Int32) × (Nat → Int32) × (Nat → Int32) × (Nat → Int32) × Int32 × Int32 × (Nat → Int32) => (-1 : Int32) = u9.1 ∧ va_P E.1 vwCl (w_X7_perform E a_ a_tape a_reader a_scripts a_now a_trial a_kept a_book a_keptBook a_history a_draws a_refused a_scripts_steps a_scripts_counts a_now_row a_now_partners a_now_share a_now_leftOver a_book_lines a_history_rows c_hasImage c_scripts_held c_scripts_steps c_scripts_counts u9.2.2.2.1 u9.2.2.2.2.1 u9.2.1 u9.2.2.1 u9.2.2.2.2.2.1 u9.2.2.2.2.2.2.1 u9.2.2.2.2.2.2.2.1 u9.2.2.2.2.2.2.2.2.2.1 u9.2.2.2.2.2.2.2.2.2.2.1 u9.2.2.2.2.2.2.2.2.1 u9.2.2.2.2.2.2.2.2.2.2.2) H ∧ va_D A (w_X7_perform E a_ a_tape a_reader a_scripts a_now a_trial a_kept a_book a_keptBook a_history a_draws a_refused a_scripts_steps a_scripts_counts a_now_row a_now_partners a_now_share a_now_leftOver a_book_lines a_history_rows c_hasImage c_scripts_held c_scripts_steps c_scripts_counts u9.2.2.2.1 u9.2.2.2.2.1 u9.2.1 u9.2.2.1 u9.2.2.2.2.2.1 u9.2.2.2.2.2.2.1 u9.2.2.2.2.2.2.2.1 u9.2.2.2.2.2.2.2.2.2.1 u9.2.2.2.2.2.2.2.2.2.2.1 u9.2.2.2.2.2.2.2.2.1 u9.2.2.2.2.2.2.2.2.2.2.2)) hF ⟨rfl, hP, hD⟩
    obtain ⟨e9_0, hP9, hD9⟩ := h9
    exact W.iret (v := (-1 : Int32)) hx hb hr (fun tt ht hW => ⟨⟨_, (), rfl, e9_0, ht ▸ hP9, hD9⟩, hS.F ht⟩) hS.2.2 dX7_perform_22
  ·
    replace hF := inn c_4 hF
    refine lv_aload_n hx hb dX7_perform_11 rfl (lv_at hl 0 rfl) ?_
    refine gt_X7_3 (v := .ref a_now) hx hb hts i_f_X7_perform_X7 hown hK hP 0 rfl (hts (.fieldLink RX7 35 "HushWatch" "now" "LHushWatch$State;") (List.mem_of_getElem? (i := 2) rfl)) rfl dX7_perform_12 ?_
    replace hF := bd1_s hF
    obtain ⟨r_5, hc_6, hF⟩ := hF
    have hPc : va_P E.1 vwCl (w_X5_stands E a_now a_now_row a_now_partners a_now_share a_now_leftOver c_now_askedCount c_now_outcome c_now_row) H := hP.sub (ws' := [(a_now, .inr (6, [.ref a_now_row, .ref a_now_partners, .int c_now_askedCount, .int c_now_outcome, .ref a_now_share, .ref a_now_leftOver])), (a_now_row, .inl (E.2.1, 81, .inl c_now_row))]) [4, 5] rfl
    have hrc := va_recv hK hPc (ci := 6) (q0 := 0) rfl rfl
    refine pE_z (va_runV (As := []) (rest := [])  ⟨hx, hb, hml, hown, hts⟩ (f_X5_stands l E (a_ := a_now) (a_row := a_now_row) (a_partners := a_now_partners) (a_share := a_now_share) (a_leftOver := a_now_leftOver) (c_askedCount := c_now_askedCount) (c_outcome := c_now_outcome) (c_row := c_now_row) hc_6) (cwV 0 hts g_f_X7_perform_f_X5_stands_110 rfl rfl rfl hd_X5_stands ⟨Nat.le_of_ble_eq_true rfl, Nat.le_of_ble_eq_true rfl⟩) ⟨pP.blind, hrc, (pP.pre ⟨hK, hN⟩ hPc)⟩ rfl rfl hl.1 rfl (lv_room (Nat.le_of_ble_eq_true rfl)) dX7_perform_15 ⟨Nat.le_of_ble_eq_true rfl, Nat.le_of_ble_eq_true rfl⟩) (fun hb_7 => ?_)
    refine lv_if_ne (tgt := 23) hx hb dX7_perform_18 (by decide) (fun c_8 => ?_) (fun c_8 => ?_)
    ·
      replace hF := inn c_8 hF
      refine lv_aload_n hx hb dX7_perform_23 rfl (lv_at hl 0 rfl) ?_
      refine gt_X7_2 (v := .ref a_scripts) hx hb hts i_f_X7_perform_X7 hown hK hP 0 rfl (hts (.fieldLink RX7 28 "HushWatch" "scripts" "LHushWatch$Scripts;") (List.mem_of_getElem? (i := 1) rfl)) rfl dX7_perform_24 ?_
      refine lv_iload_n hx hb dX7_perform_27 rfl (lv_at hl 1 rfl) ?_
      replace hF := bd1_s hF
      obtain ⟨r_9, hc_10, hF⟩ := hF
      have hPc : va_P E.1 vwCl (w_X4_stepsOf E a_scripts a_scripts_steps a_scripts_counts c_scripts_held c_scripts_counts) H := hP.sub (ws' := [(a_scripts, .inr (5, [.ref a_scripts_steps, .ref a_scripts_counts, .int c_scripts_held])), (a_scripts_counts, .inl (E.2.1, 4, .inl c_scripts_counts))]) [1, 3] rfl
      have hrc := va_recv hK hPc (ci := 5) (q0 := 0) rfl rfl
      refine pE_i (va_runV (As := [.int p1]) (rest := [])  ⟨hx, hb, hml, hown, hts⟩ (f_X4_stepsOf l E (a_ := a_scripts) (a_steps := a_scripts_steps) (a_counts := a_scripts_counts) (p1 := p1) (c_held := c_scripts_held) (c_counts := c_scripts_counts) hc_10) (cwV 1 hts g_f_X7_perform_f_X4_stepsOf_293 rfl rfl rfl hd_X4_stepsOf ⟨Nat.le_of_ble_eq_true rfl, Nat.le_of_ble_eq_true rfl⟩) ⟨pP.blind, hrc, (pP.pre ⟨hK, hN⟩ hPc)⟩ rfl rfl hl.1 rfl (lv_room (Nat.le_of_ble_eq_true rfl)) dX7_perform_28 ⟨Nat.le_of_ble_eq_true rfl, Nat.le_of_ble_eq_true rfl⟩) ?_
      refine lv_istore_n (lv' := [(2, .int r_9), (0, .ref a_), (1, .int p1)]) hx hb dX7_perform_31 rfl hl (by decide) rfl (fun ls hl => ?_)
      refine lv_iconst (v := 0) hx hb dX7_perform_32 (by decide) ?_
      refine lv_istore_n (lv' := [(3, .int (0 : Int32)), (2, .int r_9), (0, .ref a_), (1, .int p1)]) hx hb dX7_perform_33 rfl hl (by decide) rfl (fun ls hl => ?_)
      replace hF := bd13_s hF
      obtain ⟨t_34, x3_35, c_now_row_36, c_now_partners_37, c_now_askedCount_38, c_now_outcome_39, c_now_share_40, c_now_leftOver_41, c_book_lines_42, c_history_rows_43, c_history_next_44, c_history_held_45, c_refused_46, hL_47, hF⟩ := hF
      refine lw_X7_perform_34 l E K (p1 := p1) (c_hasImage := c_hasImage) (c_scripts_held := c_scripts_held) (c_scripts_steps := c_scripts_steps) (c_scripts_counts := c_scripts_counts) (x2 := r_9) hx hb hml hown hts hK hN hA hZ K (0 : Int32) c_now_row c_now_partners c_now_askedCount c_now_outcome c_now_share c_now_leftOver c_book_lines c_history_rows c_history_next c_history_held c_refused t_34 x3_35 c_now_row_36 c_now_partners_37 c_now_askedCount_38 c_now_outcome_39 c_now_share_40 c_now_leftOver_41 c_book_lines_42 c_history_rows_43 c_history_next_44 c_history_held_45 c_refused_46 hL_47 ⟨?_, ?_⟩ H locs ls (hP.sub [0, 1, 2, 3, 4, 5, 6, 7, 8, 9, 10, 11, 12, 13] rfl) (hD.sub [0, 1, 2, 3, 4, 5, 6, 7, 8, 9, 10, 11, 12, 13] (by decide) rfl) hS (lv_sub hl [2, 3, 1, 0] rfl)
      ·
        intro t9
        replace hF := ip t9 hF
        intro H locs ls hP hD hS hl
        replace hP : va_P E.1 vwCl [(a_, .inr (8, [.ref a_tape, .ref a_reader, .ref a_scripts, .ref a_now, .ref a_trial, .ref a_kept, .ref a_book, .ref a_keptBook, .ref a_history, .ref a_draws, .ref a_refused, .int c_hasImage])), (a_scripts, .inr (5, [.ref a_scripts_steps, .ref a_scripts_counts, .int c_scripts_held])), (a_scripts_steps, .inl (E.2.1, 192, .inl c_scripts_steps)), (a_scripts_counts, .inl (E.2.1, 4, .inl c_scripts_counts)), (a_now, .inr (6, [.ref a_now_row, .ref a_now_partners, .int c_now_askedCount_38, .int c_now_outcome_39, .ref a_now_share, .ref a_now_leftOver])), (a_now_row, .inl (E.2.1, 81, .inl c_now_row_36)), (a_now_partners, .inl (E.2.1, 8, .inl c_now_partners_37)), (a_now_share, .inl (E.2.1, 2, .inl c_now_share_40)), (a_now_leftOver, .inl (E.2.1, 2, .inl c_now_leftOver_41)), (a_book, .inr (1, [.ref a_book_lines])), (a_book_lines, .inl (E.2.1, 300, .inl c_book_lines_42)), (a_history, .inr (3, [.ref a_history_rows, .int c_history_next_44, .int c_history_held_45])), (a_history_rows, .inl (E.2.1, 3240, .inl c_history_rows_43)), (a_refused, .inl (E.2.1, 3, .inl c_refused_46))] H := hP
        replace hD : va_D A [(a_, .inr (8, [.ref a_tape, .ref a_reader, .ref a_scripts, .ref a_now, .ref a_trial, .ref a_kept, .ref a_book, .ref a_keptBook, .ref a_history, .ref a_draws, .ref a_refused, .int c_hasImage])), (a_scripts, .inr (5, [.ref a_scripts_steps, .ref a_scripts_counts, .int c_scripts_held])), (a_scripts_steps, .inl (E.2.1, 192, .inl c_scripts_steps)), (a_scripts_counts, .inl (E.2.1, 4, .inl c_scripts_counts)), (a_now, .inr (6, [.ref a_now_row, .ref a_now_partners, .int c_now_askedCount_38, .int c_now_outcome_39, .ref a_now_share, .ref a_now_leftOver])), (a_now_row, .inl (E.2.1, 81, .inl c_now_row_36)), (a_now_partners, .inl (E.2.1, 8, .inl c_now_partners_37)), (a_now_share, .inl (E.2.1, 2, .inl c_now_share_40)), (a_now_leftOver, .inl (E.2.1, 2, .inl c_now_leftOver_41)), (a_book, .inr (1, [.ref a_book_lines])), (a_book_lines, .inl (E.2.1, 300, .inl c_book_lines_42)), (a_history, .inr (3, [.ref a_history_rows, .int c_history_next_44, .int c_history_held_45])), (a_history_rows, .inl (E.2.1, 3240, .inl c_history_rows_43)), (a_refused, .inl (E.2.1, 3, .inl c_refused_46))] := hD
        refine lv_iload_n hx hb dX7_perform_91 rfl (lv_at hl 0 rfl) ?_
        rw [hQ]
        have h9 := fin9 (P := fun u9 : Int32 × (Nat → Int32) × (Nat → Int32) × Int32 × Int32 × (Nat → Int32) × (Nat → Int32) × (Nat → Int32) × (Nat → Int32) × Int32 × Int32 × (Nat → Int32) => x3_35 = u9.1 ∧ va_P E.1 vwCl (w_X7_perform E a_ a_tape a_reader a_scripts a_now a_trial a_kept a_book a_keptBook a_history a_draws a_refused a_scripts_steps a_scripts_counts a_now_row a_now_partners a_now_share a_now_leftOver a_book_lines a_history_rows c_hasImage c_scripts_held c_scripts_steps c_scripts_counts u9.2.2.2.1 u9.2.2.2.2.1 u9.2.1 u9.2.2.1 u9.2.2.2.2.2.1 u9.2.2.2.2.2.2.1 u9.2.2.2.2.2.2.2.1 u9.2.2.2.2.2.2.2.2.2.1 u9.2.2.2.2.2.2.2.2.2.2.1 u9.2.2.2.2.2.2.2.2.1 u9.2.2.2.2.2.2.2.2.2.2.2) H ∧ va_D A (w_X7_perform E a_ a_tape a_reader a_scripts a_now a_trial a_kept a_book a_keptBook a_history a_draws a_refused a_scripts_steps a_scripts_counts a_now_row a_now_partners a_now_share a_now_leftOver a_book_lines a_history_rows c_hasImage c_scripts_held c_scripts_steps c_scripts_counts u9.2.2.2.1 u9.2.2.2.2.1 u9.2.1 u9.2.2.1 u9.2.2.2.2.2.1 u9.2.2.2.2.2.2.1 u9.2.2.2.2.2.2.2.1 u9.2.2.2.2.2.2.2.2.2.1 u9.2.2.2.2.2.2.2.2.2.2.1 u9.2.2.2.2.2.2.2.2.1 u9.2.2.2.2.2.2.2.2.2.2.2)) hF ⟨rfl, hP, hD⟩
        obtain ⟨e9_0, hP9, hD9⟩ := h9
        exact W.iret (v := x3_35) hx hb hr (fun tt ht hW => ⟨⟨_, (), rfl, e9_0, ht ▸ hP9, hD9⟩, hS.F ht⟩) hS.2.2 dX7_perform_92
      ·
        intro t9
        replace hF := inn (show ¬ t_34 = 0 by omega) hF
        replace hF := ip t9 hF
        intro H locs ls hP hD hS hl
        replace hP : va_P E.1 vwCl [(a_, .inr (8, [.ref a_tape, .ref a_reader, .ref a_scripts, .ref a_now, .ref a_trial, .ref a_kept, .ref a_book, .ref a_keptBook, .ref a_history, .ref a_draws, .ref a_refused, .int c_hasImage])), (a_scripts, .inr (5, [.ref a_scripts_steps, .ref a_scripts_counts, .int c_scripts_held])), (a_scripts_steps, .inl (E.2.1, 192, .inl c_scripts_steps)), (a_scripts_counts, .inl (E.2.1, 4, .inl c_scripts_counts)), (a_now, .inr (6, [.ref a_now_row, .ref a_now_partners, .int c_now_askedCount_38, .int c_now_outcome_39, .ref a_now_share, .ref a_now_leftOver])), (a_now_row, .inl (E.2.1, 81, .inl c_now_row_36)), (a_now_partners, .inl (E.2.1, 8, .inl c_now_partners_37)), (a_now_share, .inl (E.2.1, 2, .inl c_now_share_40)), (a_now_leftOver, .inl (E.2.1, 2, .inl c_now_leftOver_41)), (a_book, .inr (1, [.ref a_book_lines])), (a_book_lines, .inl (E.2.1, 300, .inl c_book_lines_42)), (a_history, .inr (3, [.ref a_history_rows, .int c_history_next_44, .int c_history_held_45])), (a_history_rows, .inl (E.2.1, 3240, .inl c_history_rows_43)), (a_refused, .inl (E.2.1, 3, .inl c_refused_46))] H := hP
        replace hD : va_D A [(a_, .inr (8, [.ref a_tape, .ref a_reader, .ref a_scripts, .ref a_now, .ref a_trial, .ref a_kept, .ref a_book, .ref a_keptBook, .ref a_history, .ref a_draws, .ref a_refused, .int c_hasImage])), (a_scripts, .inr (5, [.ref a_scripts_steps, .ref a_scripts_counts, .int c_scripts_held])), (a_scripts_steps, .inl (E.2.1, 192, .inl c_scripts_steps)), (a_scripts_counts, .inl (E.2.1, 4, .inl c_scripts_counts)), (a_now, .inr (6, [.ref a_now_row, .ref a_now_partners, .int c_now_askedCount_38, .int c_now_outcome_39, .ref a_now_share, .ref a_now_leftOver])), (a_now_row, .inl (E.2.1, 81, .inl c_now_row_36)), (a_now_partners, .inl (E.2.1, 8, .inl c_now_partners_37)), (a_now_share, .inl (E.2.1, 2, .inl c_now_share_40)), (a_now_leftOver, .inl (E.2.1, 2, .inl c_now_leftOver_41)), (a_book, .inr (1, [.ref a_book_lines])), (a_book_lines, .inl (E.2.1, 300, .inl c_book_lines_42)), (a_history, .inr (3, [.ref a_history_rows, .int c_history_next_44, .int c_history_held_45])), (a_history_rows, .inl (E.2.1, 3240, .inl c_history_rows_43)), (a_refused, .inl (E.2.1, 3, .inl c_refused_46))] := hD
        refine lv_iload_n hx hb dX7_perform_99 rfl (lv_at hl 0 rfl) ?_
        rw [hQ]
        have h9 := fin9 (P := fun u9 : Int32 × (Nat → Int32) × (Nat → Int32) × Int32 × Int32 × (Nat → Int32) × (Nat → Int32) × (Nat → Int32) × (Nat → Int32) × Int32 × Int32 × (Nat → Int32) => r_9 = u9.1 ∧ va_P E.1 vwCl (w_X7_perform E a_ a_tape a_reader a_scripts a_now a_trial a_kept a_book a_keptBook a_history a_draws a_refused a_scripts_steps a_scripts_counts a_now_row a_now_partners a_now_share a_now_leftOver a_book_lines a_history_rows c_hasImage c_scripts_held c_scripts_steps c_scripts_counts u9.2.2.2.1 u9.2.2.2.2.1 u9.2.1 u9.2.2.1 u9.2.2.2.2.2.1 u9.2.2.2.2.2.2.1 u9.2.2.2.2.2.2.2.1 u9.2.2.2.2.2.2.2.2.2.1 u9.2.2.2.2.2.2.2.2.2.2.1 u9.2.2.2.2.2.2.2.2.1 u9.2.2.2.2.2.2.2.2.2.2.2) H ∧ va_D A (w_X7_perform E a_ a_tape a_reader a_scripts a_now a_trial a_kept a_book a_keptBook a_history a_draws a_refused a_scripts_steps a_scripts_counts a_now_row a_now_partners a_now_share a_now_leftOver a_book_lines a_history_rows c_hasImage c_scripts_held c_scripts_steps c_scripts_counts u9.2.2.2.1 u9.2.2.2.2.1 u9.2.1 u9.2.2.1 u9.2.2.2.2.2.1 u9.2.2.2.2.2.2.1 u9.2.2.2.2.2.2.2.1 u9.2.2.2.2.2.2.2.2.2.1 u9.2.2.2.2.2.2.2.2.2.2.1 u9.2.2.2.2.2.2.2.2.1 u9.2.2.2.2.2.2.2.2.2.2.2)) hF ⟨rfl, hP, hD⟩
        obtain ⟨e9_0, hP9, hD9⟩ := h9
        exact W.iret (v := r_9) hx hb hr (fun tt ht hW => ⟨⟨_, (), rfl, e9_0, ht ▸ hP9, hD9⟩, hS.F ht⟩) hS.2.2 dX7_perform_100
    ·
      replace hF := ip c_8 hF
      refine lv_iconst (v := -1) hx hb dX7_perform_21 (by decide) ?_
      rw [hQ]
      have h9 := fin9 (P := fun u9 : Int32 × (Nat → Int32) × (Nat → Int32) × Int32 × Int32 × (Nat → Int32) × (Nat → Int32) × (Nat → Int32) × (Nat → Int32) × Int32 × Int32 × (Nat → Int32) => (-1 : Int32) = u9.1 ∧ va_P E.1 vwCl (w_X7_perform E a_ a_tape a_reader a_scripts a_now a_trial a_kept a_book a_keptBook a_history a_draws a_refused a_scripts_steps a_scripts_counts a_now_row a_now_partners a_now_share a_now_leftOver a_book_lines a_history_rows c_hasImage c_scripts_held c_scripts_steps c_scripts_counts u9.2.2.2.1 u9.2.2.2.2.1 u9.2.1 u9.2.2.1 u9.2.2.2.2.2.1 u9.2.2.2.2.2.2.1 u9.2.2.2.2.2.2.2.1 u9.2.2.2.2.2.2.2.2.2.1 u9.2.2.2.2.2.2.2.2.2.2.1 u9.2.2.2.2.2.2.2.2.1 u9.2.2.2.2.2.2.2.2.2.2.2) H ∧ va_D A (w_X7_perform E a_ a_tape a_reader a_scripts a_now a_trial a_kept a_book a_keptBook a_history a_draws a_refused a_scripts_steps a_scripts_counts a_now_row a_now_partners a_now_share a_now_leftOver a_book_lines a_history_rows c_hasImage c_scripts_held c_scripts_steps c_scripts_counts u9.2.2.2.1 u9.2.2.2.2.1 u9.2.1 u9.2.2.1 u9.2.2.2.2.2.1 u9.2.2.2.2.2.2.1 u9.2.2.2.2.2.2.2.1 u9.2.2.2.2.2.2.2.2.2.1 u9.2.2.2.2.2.2.2.2.2.2.1 u9.2.2.2.2.2.2.2.2.1 u9.2.2.2.2.2.2.2.2.2.2.2)) hF ⟨rfl, hP, hD⟩
      obtain ⟨e9_0, hP9, hD9⟩ := h9
      exact W.iret (v := (-1 : Int32)) hx hb hr (fun tt ht hW => ⟨⟨_, (), rfl, e9_0, ht ▸ hP9, hD9⟩, hS.F ht⟩) hS.2.2 dX7_perform_22

def B_X7_race_46 (p1 : Int32) (p2 : Int32) (c_now_row : Nat → Int32) (x5 : Int32) (x4 : Int32) (x6 : Int32) : Option ((Int32 × Int32) ⊕ (Nat × Int32 × Int32)) :=
  bd1 (F_X5_sites c_now_row) (fun r_12 => if r_12 ≤ x6 then some (.inr (2, x4, x6)) else bd1 (F_X5_isFrozen x6 c_now_row) (fun r_15 => if r_15 = (0 : Int32) then bd1 (F_X5_hasRoom x6 (x5 * p1) (x5 * p2) c_now_row) (fun r_19 => if r_19 = (0 : Int32) then some (.inr (0, x4, x6)) else bd1 (F_X5_isQuietWith x6 (x5 * p1) (x5 * p2) c_now_row) (fun r_23 => if r_23 = (0 : Int32) then some (.inr (1, x4 + (1 : Int32), x6)) else some (.inl (x4 + (1 : Int32), x6 + (1 : Int32))))) else some (.inl (x4, x6 + (1 : Int32)))))
def B_X7_race_35 (K : Nat) (p1 : Int32) (p2 : Int32) (c_now_row : Nat → Int32) (x4 : Int32) (x5 : Int32) : Option ((Int32 × Int32) ⊕ (Nat × Int32 × Int32)) :=
  if (200 : Int32) < x5 then some (.inr (2, x4, (0 : Int32))) else bd3 (lpF (fun u9 : Int32 × Int32 => B_X7_race_46 p1 p2 c_now_row x5 u9.1 u9.2) K (x4, (0 : Int32))) (fun t_27 x4_28 x6_29 => if t_27 = 0 then some (.inr (0, (0 : Int32), (0 : Int32))) else if t_27 = 1 then some (.inr (1, x4_28, x6_29)) else if t_27 = 2 then some (.inl (x4_28, x5 + (1 : Int32))) else none)
def F_X7_race (K : Nat) (p1 : Int32) (p2 : Int32) (p3 : Int32) (c_now_row : Nat → Int32) : Option (Int32) :=
  bd1 (F_X5_stands c_now_row) (fun r_1 => if r_1 = (0 : Int32) then some (-1 : Int32) else bd1 (F_X7_isWay p1 p2) (fun r_5 => if r_5 = (0 : Int32) then some (-1 : Int32) else if p3 < (0 : Int32) then some (-1 : Int32) else if p3 ≤ (1 : Int32) then bd3 (lpF (fun u9 : Int32 × Int32 => B_X7_race_35 K p1 p2 c_now_row u9.1 u9.2) K ((0 : Int32), (1 : Int32))) (fun t_31 x4_32 x6_33 => if t_31 = 0 then some (-1 : Int32) else if t_31 = 1 then if p3 = (0 : Int32) then some x6_33 else some x4_32 else if t_31 = 2 then some (-1 : Int32) else none) else some (-1 : Int32)))
abbrev w_X7_race (E : EE) (a_ a_tape a_reader a_scripts a_now a_trial a_kept a_book a_keptBook a_history a_draws a_refused a_now_row a_now_partners a_now_share a_now_leftOver : Nat) (c_hasImage : Int32) (c_now_askedCount : Int32) (c_now_outcome : Int32) (c_now_row : Nat → Int32) : va_W := [(a_, .inr (8, [.ref a_tape, .ref a_reader, .ref a_scripts, .ref a_now, .ref a_trial, .ref a_kept, .ref a_book, .ref a_keptBook, .ref a_history, .ref a_draws, .ref a_refused, .int c_hasImage])), (a_now, .inr (6, [.ref a_now_row, .ref a_now_partners, .int c_now_askedCount, .int c_now_outcome, .ref a_now_share, .ref a_now_leftOver])), (a_now_row, .inl (E.2.1, 81, .inl c_now_row))]
def v_f_X7_race : List Cond := .code yX7_race cX7_race 7 (some .int) :: ([.fieldLink RX7 35 "HushWatch" "now" "LHushWatch$State;", .methodLink RX7 110 yX5_stands, .instanceMethod yX5_stands, .selects RX5 yX5_stands yX5_stands, .initialized RX5, .methodLink RX7 210 yX7_isWay, .static yX7_isWay, .initialized RX7, .methodLink RX7 117 yX5_sites, .instanceMethod yX5_sites, .selects RX5 yX5_sites yX5_sites, .methodLink RX7 143 yX5_isFrozen, .instanceMethod yX5_isFrozen, .selects RX5 yX5_isFrozen yX5_isFrozen, .methodLink RX7 213 yX5_hasRoom, .instanceMethod yX5_hasRoom, .selects RX5 yX5_hasRoom yX5_hasRoom, .methodLink RX7 217 yX5_isQuietWith, .instanceMethod yX5_isQuietWith, .selects RX5 yX5_isQuietWith yX5_isQuietWith] ++ (wsX70 ++ (v_f_X5_stands ++ (v_f_X7_isWay ++ (v_f_X5_sites ++ (v_f_X5_isFrozen ++ (v_f_X5_hasRoom ++ (v_f_X5_isQuietWith ++ ([])))))))))
theorem gw_f_X7_race : v_f_X7_race.all goodWord = true := by decide +kernel
theorem i_f_X7_race_X7 : ∀ w ∈ wsX70, w ∈ v_f_X7_race := fun _ h => List.mem_cons_of_mem _ (List.mem_append_right _ (List.mem_append_left _ h))
theorem g_f_X7_race_f_X5_stands_110 : GoodIn v_f_X7_race (wsV RX7 110 RX5 yX5_stands v_f_X5_stands) := goodIn_app (goodIn_of _ (by decide +kernel)) (goodIn_sub (fun _ h => List.mem_cons_of_mem _ (List.mem_append_right _ (List.mem_append_right _ (List.mem_append_left _ h)))) gw_f_X5_stands)
theorem g_f_X7_race_f_X7_isWay_210 : GoodIn v_f_X7_race (va_wsS RX7 210 yX7_isWay v_f_X7_isWay) := goodIn_app (goodIn_of _ (by decide +kernel)) (goodIn_sub (fun _ h => List.mem_cons_of_mem _ (List.mem_append_right _ (List.mem_append_right _ (List.mem_append_right _ (List.mem_append_left _ h))))) gw_f_X7_isWay)
theorem g_f_X7_race_f_X5_sites_117 : GoodIn v_f_X7_race (wsV RX7 117 RX5 yX5_sites v_f_X5_sites) := goodIn_app (goodIn_of _ (by decide +kernel)) (goodIn_sub (fun _ h => List.mem_cons_of_mem _ (List.mem_append_right _ (List.mem_append_right _ (List.mem_append_right _ (List.mem_append_right _ (List.mem_append_left _ h)))))) gw_f_X5_sites)
theorem g_f_X7_race_f_X5_isFrozen_143 : GoodIn v_f_X7_race (wsV RX7 143 RX5 yX5_isFrozen v_f_X5_isFrozen) := goodIn_app (goodIn_of _ (by decide +kernel)) (goodIn_sub (fun _ h => List.mem_cons_of_mem _ (List.mem_append_right _ (List.mem_append_right _ (List.mem_append_right _ (List.mem_append_right _ (List.mem_append_right _ (List.mem_append_left _ h))))))) gw_f_X5_isFrozen)
theorem g_f_X7_race_f_X5_hasRoom_213 : GoodIn v_f_X7_race (wsV RX7 213 RX5 yX5_hasRoom v_f_X5_hasRoom) := goodIn_app (goodIn_of _ (by decide +kernel)) (goodIn_sub (fun _ h => List.mem_cons_of_mem _ (List.mem_append_right _ (List.mem_append_right _ (List.mem_append_right _ (List.mem_append_right _ (List.mem_append_right _ (List.mem_append_right _ (List.mem_append_left _ h)))))))) gw_f_X5_hasRoom)
theorem g_f_X7_race_f_X5_isQuietWith_217 : GoodIn v_f_X7_race (wsV RX7 217 RX5 yX5_isQuietWith v_f_X5_isQuietWith) := goodIn_app (goodIn_of _ (by decide +kernel)) (goodIn_sub (fun _ h => List.mem_cons_of_mem _ (List.mem_append_right _ (List.mem_append_right _ (List.mem_append_right _ (List.mem_append_right _ (List.mem_append_right _ (List.mem_append_right _ (List.mem_append_right _ (List.mem_append_left _ h))))))))) gw_f_X5_isQuietWith)
theorem hd_X7_race : yX7_race.cls = RX7 ∧ yX7_race.cls ≠ "java/lang/invoke/MethodHandle" ∧ yX7_race.cls ≠ "java/lang/invoke/VarHandle" ∧ (parseMethodDescriptor yX7_race.desc).map (fun d => d.parameters.length) = some 3 := by decide +kernel
set_option maxHeartbeats 4000000 in
set_option maxRecDepth 100000 in
theorem wb_X7_race_46 {p : Program} (l : Launch) {e : Env} {s : State} {m : MethodId} {below : List Frame} {meth : Method} {c : Code} {Q : State → Prop} (E : EE) (K : Nat) {a_ a_tape a_reader a_scripts a_now a_trial a_kept a_book a_keptBook a_history a_draws a_refused a_now_row a_now_partners a_now_share a_now_leftOver : Nat} {p1 : Int32} {p2 : Int32} {p3 : Int32} {c_hasImage : Int32} {c_now_askedCount : Int32} {c_now_outcome : Int32} {c_now_row : Nat → Int32} {x4 : Int32} {x5 : Int32} {x6 : Int32} (hx : p.tables.exec = Jvm.exec) (hb : c.code = cX7_race) (hml : c.maxLocals = 7) (hown : s.vm.findClass RX7 = some m.cls) (hts : ∀ w ∈ v_f_X7_race, w.before #[Value.ref a_, Value.int p1, Value.int p2, Value.int p3] s = true) (hK : va_K E.1 vwCl (TY E) s) (hN : NX s) {xx : (Int32 × Int32) ⊕ (Nat × Int32 × Int32)} (hC : ∀ (x4 : Int32), ∀ (x6 : Int32), xx = .inl (x4, x6) → ∀ (ls : Array Slot), lv_has ls 7 [(0, .ref a_), (1, .int p1), (2, .int p2), (3, .int p3), (4, .int x4), (5, .int x5), (6, .int x6)] → W p l e ({ frames := 3, cells := 0, slots := 0, locals := 73 } : Room) s m #[Value.ref a_, Value.int p1, Value.int p2, Value.int p3] below meth c s.heap [] 0 0 Q (F0 m 46 ls [])) (hE : ∀ (t9 : Nat), ∀ (x4 : Int32), ∀ (x6 : Int32), xx = .inr (t9, x4, x6) → ((t9 = 0 → ∀ (ls : Array Slot), lv_has ls 7 [] → W p l e ({ frames := 3, cells := 0, slots := 0, locals := 73 } : Room) s m #[Value.ref a_, Value.int p1, Value.int p2, Value.int p3] below meth c s.heap [] 0 0 Q (F0 m 93 ls [])) ∧ (t9 = 1 → ∀ (ls : Array Slot), lv_has ls 7 [(3, .int p3), (4, .int x4), (6, .int x6)] → W p l e ({ frames := 3, cells := 0, slots := 0, locals := 73 } : Room) s m #[Value.ref a_, Value.int p1, Value.int p2, Value.int p3] below meth c s.heap [] 0 0 Q (F0 m 118 ls [])) ∧ (t9 = 2 → ∀ (ls : Array Slot), lv_has ls 7 [(0, .ref a_), (1, .int p1), (2, .int p2), (3, .int p3), (4, .int x4), (5, .int x5)] → W p l e ({ frames := 3, cells := 0, slots := 0, locals := 73 } : Room) s m #[Value.ref a_, Value.int p1, Value.int p2, Value.int p3] below meth c s.heap [] 0 0 Q (F0 m 136 ls [])))) (hF : B_X7_race_46 p1 p2 c_now_row x5 x4 x6 = some xx) (hP : va_P E.1 vwCl (w_X7_race E a_ a_tape a_reader a_scripts a_now a_trial a_kept a_book a_keptBook a_history a_draws a_refused a_now_row a_now_partners a_now_share a_now_leftOver c_hasImage c_now_askedCount c_now_outcome c_now_row) s.heap) : ∀ (ls : Array Slot), lv_has ls 7 [(0, .ref a_), (1, .int p1), (2, .int p2), (3, .int p3), (4, .int x4), (5, .int x5), (6, .int x6)] → W p l e ({ frames := 3, cells := 0, slots := 0, locals := 73 } : Room) s m #[Value.ref a_, Value.int p1, Value.int p2, Value.int p3] below meth c s.heap [] 0 0 Q (F0 m 46 ls []) := by
  unfold B_X7_race_46 at hF
  replace hP : va_P E.1 vwCl [(a_, .inr (8, [.ref a_tape, .ref a_reader, .ref a_scripts, .ref a_now, .ref a_trial, .ref a_kept, .ref a_book, .ref a_keptBook, .ref a_history, .ref a_draws, .ref a_refused, .int c_hasImage])), (a_now, .inr (6, [.ref a_now_row, .ref a_now_partners, .int c_now_askedCount, .int c_now_outcome, .ref a_now_share, .ref a_now_leftOver])), (a_now_row, .inl (E.2.1, 81, .inl c_now_row))] s.heap := hP
  intro ls hl
  refine lv_iload hx hb dX7_race_46 (lv_at hl 6 rfl) ?_
  refine lv_aload_n hx hb dX7_race_48 rfl (lv_at hl 0 rfl) ?_
  refine gt_X7_3 (v := .ref a_now) hx hb hts i_f_X7_race_X7 hown hK hP 0 rfl (hts (.fieldLink RX7 35 "HushWatch" "now" "LHushWatch$State;") (List.mem_of_getElem? (i := 1) rfl)) rfl dX7_race_49 ?_
  replace hF := bd1_s hF
  obtain ⟨r_12, hc_13, hF⟩ := hF
  have hPc : va_P E.1 vwCl (w_X5_sites E a_now a_now_row a_now_partners a_now_share a_now_leftOver c_now_askedCount c_now_outcome c_now_row) s.heap := hP.sub (ws' := [(a_now, .inr (6, [.ref a_now_row, .ref a_now_partners, .int c_now_askedCount, .int c_now_outcome, .ref a_now_share, .ref a_now_leftOver])), (a_now_row, .inl (E.2.1, 81, .inl c_now_row))]) [1, 2] rfl
  have hrc := va_recv hK hPc (ci := 6) (q0 := 0) rfl rfl
  refine pE_i (va_runV (As := []) (rest := [.int x6])  ⟨hx, hb, hml, hown, hts⟩ (f_X5_sites l E (a_ := a_now) (a_row := a_now_row) (a_partners := a_now_partners) (a_share := a_now_share) (a_leftOver := a_now_leftOver) (c_askedCount := c_now_askedCount) (c_outcome := c_now_outcome) (c_row := c_now_row) hc_13) (cwV 0 hts g_f_X7_race_f_X5_sites_117 rfl rfl rfl hd_X5_sites ⟨Nat.le_of_ble_eq_true rfl, Nat.le_of_ble_eq_true rfl⟩) ⟨pP.blind, hrc, (pP.pre ⟨hK, hN⟩ hPc)⟩ rfl rfl hl.1 rfl (lv_room (Nat.le_of_ble_eq_true rfl)) dX7_race_52 ⟨Nat.le_of_ble_eq_true rfl, Nat.le_of_ble_eq_true rfl⟩) ?_
  refine lv_icmp_ge (tgt := 136) hx hb dX7_race_55 (by decide) (fun c_14 => ?_) (fun c_14 => ?_)
  ·
    replace hF := ip c_14 hF
    cases hF
    exact (hE 2 x4 x6 rfl).2.2 rfl ls (lv_sub hl [0, 1, 2, 3, 4, 5] rfl)
  ·
    replace hF := inn c_14 hF
    refine lv_aload_n hx hb dX7_race_58 rfl (lv_at hl 0 rfl) ?_
    refine gt_X7_3 (v := .ref a_now) hx hb hts i_f_X7_race_X7 hown hK hP 0 rfl (hts (.fieldLink RX7 35 "HushWatch" "now" "LHushWatch$State;") (List.mem_of_getElem? (i := 1) rfl)) rfl dX7_race_59 ?_
    refine lv_iload hx hb dX7_race_62 (lv_at hl 6 rfl) ?_
    replace hF := bd1_s hF
    obtain ⟨r_15, hc_16, hF⟩ := hF
    have hPc : va_P E.1 vwCl (w_X5_isFrozen E a_now a_now_row a_now_partners a_now_share a_now_leftOver c_now_askedCount c_now_outcome c_now_row) s.heap := hP.sub (ws' := [(a_now, .inr (6, [.ref a_now_row, .ref a_now_partners, .int c_now_askedCount, .int c_now_outcome, .ref a_now_share, .ref a_now_leftOver])), (a_now_row, .inl (E.2.1, 81, .inl c_now_row))]) [1, 2] rfl
    have hrc := va_recv hK hPc (ci := 6) (q0 := 0) rfl rfl
    refine pE_z (va_runV (As := [.int x6]) (rest := [])  ⟨hx, hb, hml, hown, hts⟩ (f_X5_isFrozen l E (a_ := a_now) (a_row := a_now_row) (a_partners := a_now_partners) (a_share := a_now_share) (a_leftOver := a_now_leftOver) (p1 := x6) (c_askedCount := c_now_askedCount) (c_outcome := c_now_outcome) (c_row := c_now_row) hc_16) (cwV 1 hts g_f_X7_race_f_X5_isFrozen_143 rfl rfl rfl hd_X5_isFrozen ⟨Nat.le_of_ble_eq_true rfl, Nat.le_of_ble_eq_true rfl⟩) ⟨pP.blind, hrc, (pP.pre ⟨hK, hN⟩ hPc)⟩ rfl rfl hl.1 rfl (lv_room (Nat.le_of_ble_eq_true rfl)) dX7_race_64 ⟨Nat.le_of_ble_eq_true rfl, Nat.le_of_ble_eq_true rfl⟩) (fun hb_17 => ?_)
    refine lv_if_eq (tgt := 73) hx hb dX7_race_67 (by decide) (fun c_18 => ?_) (fun c_18 => ?_)
    ·
      replace hF := ip c_18 hF
      refine lv_aload_n hx hb dX7_race_73 rfl (lv_at hl 0 rfl) ?_
      refine gt_X7_3 (v := .ref a_now) hx hb hts i_f_X7_race_X7 hown hK hP 0 rfl (hts (.fieldLink RX7 35 "HushWatch" "now" "LHushWatch$State;") (List.mem_of_getElem? (i := 1) rfl)) rfl dX7_race_74 ?_
      refine lv_iload hx hb dX7_race_77 (lv_at hl 6 rfl) ?_
      refine lv_iload hx hb dX7_race_79 (lv_at hl 5 rfl) ?_
      refine lv_iload_n hx hb dX7_race_81 rfl (lv_at hl 1 rfl) ?_
      refine lv_imul hx hb dX7_race_82 ?_
      refine lv_iload hx hb dX7_race_83 (lv_at hl 5 rfl) ?_
      refine lv_iload_n hx hb dX7_race_85 rfl (lv_at hl 2 rfl) ?_
      refine lv_imul hx hb dX7_race_86 ?_
      replace hF := bd1_s hF
      obtain ⟨r_19, hc_20, hF⟩ := hF
      have hPc : va_P E.1 vwCl (w_X5_hasRoom E a_now a_now_row a_now_partners a_now_share a_now_leftOver c_now_askedCount c_now_outcome c_now_row) s.heap := hP.sub (ws' := [(a_now, .inr (6, [.ref a_now_row, .ref a_now_partners, .int c_now_askedCount, .int c_now_outcome, .ref a_now_share, .ref a_now_leftOver])), (a_now_row, .inl (E.2.1, 81, .inl c_now_row))]) [1, 2] rfl
      have hrc := va_recv hK hPc (ci := 6) (q0 := 0) rfl rfl
      refine pE_z (va_runV (As := [.int x6, .int (x5 * p1), .int (x5 * p2)]) (rest := [])  ⟨hx, hb, hml, hown, hts⟩ (f_X5_hasRoom l E (a_ := a_now) (a_row := a_now_row) (a_partners := a_now_partners) (a_share := a_now_share) (a_leftOver := a_now_leftOver) (p1 := x6) (p2 := x5 * p1) (p3 := x5 * p2) (c_askedCount := c_now_askedCount) (c_outcome := c_now_outcome) (c_row := c_now_row) hc_20) (cwV 3 hts g_f_X7_race_f_X5_hasRoom_213 rfl rfl rfl hd_X5_hasRoom ⟨Nat.le_of_ble_eq_true rfl, Nat.le_of_ble_eq_true rfl⟩) ⟨pP.blind, hrc, (pP.pre ⟨hK, hN⟩ hPc)⟩ rfl rfl hl.1 rfl (lv_room (Nat.le_of_ble_eq_true rfl)) dX7_race_87 ⟨Nat.le_of_ble_eq_true rfl, Nat.le_of_ble_eq_true rfl⟩) (fun hb_21 => ?_)
      refine lv_if_ne (tgt := 95) hx hb dX7_race_90 (by decide) (fun c_22 => ?_) (fun c_22 => ?_)
      ·
        replace hF := inn c_22 hF
        refine lv_iinc (v := x4 + (1 : Int32)) (lv' := [(4, .int (x4 + (1 : Int32))), (0, .ref a_), (1, .int p1), (2, .int p2), (3, .int p3), (5, .int x5), (6, .int x6)]) hx hb dX7_race_95 hl (k := 4) rfl (rfl) (by decide) rfl (fun ls hl => ?_)
        refine lv_aload_n hx hb dX7_race_98 rfl (lv_at hl 1 rfl) ?_
        refine gt_X7_3 (v := .ref a_now) hx hb hts i_f_X7_race_X7 hown hK hP 0 rfl (hts (.fieldLink RX7 35 "HushWatch" "now" "LHushWatch$State;") (List.mem_of_getElem? (i := 1) rfl)) rfl dX7_race_99 ?_
        refine lv_iload hx hb dX7_race_102 (lv_at hl 6 rfl) ?_
        refine lv_iload hx hb dX7_race_104 (lv_at hl 5 rfl) ?_
        refine lv_iload_n hx hb dX7_race_106 rfl (lv_at hl 2 rfl) ?_
        refine lv_imul hx hb dX7_race_107 ?_
        refine lv_iload hx hb dX7_race_108 (lv_at hl 5 rfl) ?_
        refine lv_iload_n hx hb dX7_race_110 rfl (lv_at hl 3 rfl) ?_
        refine lv_imul hx hb dX7_race_111 ?_
        replace hF := bd1_s hF
        obtain ⟨r_23, hc_24, hF⟩ := hF
        have hPc : va_P E.1 vwCl (w_X5_isQuietWith E a_now a_now_row a_now_partners a_now_share a_now_leftOver c_now_askedCount c_now_outcome c_now_row) s.heap := hP.sub (ws' := [(a_now, .inr (6, [.ref a_now_row, .ref a_now_partners, .int c_now_askedCount, .int c_now_outcome, .ref a_now_share, .ref a_now_leftOver])), (a_now_row, .inl (E.2.1, 81, .inl c_now_row))]) [1, 2] rfl
        have hrc := va_recv hK hPc (ci := 6) (q0 := 0) rfl rfl
        refine pE_z (va_runV (As := [.int x6, .int (x5 * p1), .int (x5 * p2)]) (rest := [])  ⟨hx, hb, hml, hown, hts⟩ (f_X5_isQuietWith l E (a_ := a_now) (a_row := a_now_row) (a_partners := a_now_partners) (a_share := a_now_share) (a_leftOver := a_now_leftOver) (p1 := x6) (p2 := x5 * p1) (p3 := x5 * p2) (c_askedCount := c_now_askedCount) (c_outcome := c_now_outcome) (c_row := c_now_row) hc_24) (cwV 3 hts g_f_X7_race_f_X5_isQuietWith_217 rfl rfl rfl hd_X5_isQuietWith ⟨Nat.le_of_ble_eq_true rfl, Nat.le_of_ble_eq_true rfl⟩) ⟨pP.blind, hrc, (pP.pre ⟨hK, hN⟩ hPc)⟩ rfl rfl hl.1 rfl (lv_room (Nat.le_of_ble_eq_true rfl)) dX7_race_112 ⟨Nat.le_of_ble_eq_true rfl, Nat.le_of_ble_eq_true rfl⟩) (fun hb_25 => ?_)
        refine lv_if_ne (tgt := 130) hx hb dX7_race_115 (by decide) (fun c_26 => ?_) (fun c_26 => ?_)
        ·
          replace hF := inn c_26 hF
          refine lv_iinc (v := x6 + (1 : Int32)) (lv' := [(6, .int (x6 + (1 : Int32))), (4, .int (x4 + (1 : Int32))), (0, .ref a_), (1, .int p1), (2, .int p2), (3, .int p3), (5, .int x5)]) hx hb dX7_race_130 hl (k := 6) rfl (rfl) (by decide) rfl (fun ls hl => ?_)
          refine lv_goto (tgt := 46) hx hb dX7_race_133 (by decide) ?_
          cases hF
          exact hC (x4 + (1 : Int32)) (x6 + (1 : Int32)) rfl ls (lv_sub hl [2, 3, 4, 5, 1, 6, 0] rfl)
        ·
          replace hF := ip c_26 hF
          cases hF
          exact (hE 1 (x4 + (1 : Int32)) x6 rfl).2.1 rfl ls (lv_sub hl [4, 0, 6] rfl)
      ·
        replace hF := ip c_22 hF
        cases hF
        exact (hE 0 x4 x6 rfl).1 rfl ls (lv_sub hl [] rfl)
    ·
      replace hF := inn c_18 hF
      refine lv_goto (tgt := 130) hx hb dX7_race_70 (by decide) ?_
      refine lv_iinc (v := x6 + (1 : Int32)) (lv' := [(6, .int (x6 + (1 : Int32))), (0, .ref a_), (1, .int p1), (2, .int p2), (3, .int p3), (4, .int x4), (5, .int x5)]) hx hb dX7_race_130 hl (k := 6) rfl (rfl) (by decide) rfl (fun ls hl => ?_)
      refine lv_goto (tgt := 46) hx hb dX7_race_133 (by decide) ?_
      cases hF
      exact hC x4 (x6 + (1 : Int32)) rfl ls (lv_sub hl [1, 2, 3, 4, 5, 6, 0] rfl)

set_option maxHeartbeats 4000000 in
set_option maxRecDepth 100000 in
theorem lw_X7_race_46 {p : Program} (l : Launch) {e : Env} {s : State} {m : MethodId} {below : List Frame} {meth : Method} {c : Code} {Q : State → Prop} (E : EE) (K : Nat) {a_ a_tape a_reader a_scripts a_now a_trial a_kept a_book a_keptBook a_history a_draws a_refused a_now_row a_now_partners a_now_share a_now_leftOver : Nat} {p1 : Int32} {p2 : Int32} {p3 : Int32} {c_hasImage : Int32} {c_now_askedCount : Int32} {c_now_outcome : Int32} {c_now_row : Nat → Int32} {x5 : Int32} (hx : p.tables.exec = Jvm.exec) (hb : c.code = cX7_race) (hml : c.maxLocals = 7) (hown : s.vm.findClass RX7 = some m.cls) (hts : ∀ w ∈ v_f_X7_race, w.before #[Value.ref a_, Value.int p1, Value.int p2, Value.int p3] s = true) (hK : va_K E.1 vwCl (TY E) s) (hN : NX s) (hP : va_P E.1 vwCl (w_X7_race E a_ a_tape a_reader a_scripts a_now a_trial a_kept a_book a_keptBook a_history a_draws a_refused a_now_row a_now_partners a_now_share a_now_leftOver c_hasImage c_now_askedCount c_now_outcome c_now_row) s.heap) (j9 : Nat) (x4 : Int32) (x6 : Int32) (t9' : Nat) (x4' : Int32) (x6' : Int32) (hL : lpF (fun u9 : Int32 × Int32 => B_X7_race_46 p1 p2 c_now_row x5 u9.1 u9.2) j9 (x4, x6) = some (t9', x4', x6')) (hX : (t9' = 0 → ∀ (ls : Array Slot), lv_has ls 7 [] → W p l e ({ frames := 3, cells := 0, slots := 0, locals := 73 } : Room) s m #[Value.ref a_, Value.int p1, Value.int p2, Value.int p3] below meth c s.heap [] 0 0 Q (F0 m 93 ls [])) ∧ (t9' = 1 → ∀ (ls : Array Slot), lv_has ls 7 [(3, .int p3), (4, .int x4'), (6, .int x6')] → W p l e ({ frames := 3, cells := 0, slots := 0, locals := 73 } : Room) s m #[Value.ref a_, Value.int p1, Value.int p2, Value.int p3] below meth c s.heap [] 0 0 Q (F0 m 118 ls [])) ∧ (t9' = 2 → ∀ (ls : Array Slot), lv_has ls 7 [(0, .ref a_), (1, .int p1), (2, .int p2), (3, .int p3), (4, .int x4'), (5, .int x5)] → W p l e ({ frames := 3, cells := 0, slots := 0, locals := 73 } : Room) s m #[Value.ref a_, Value.int p1, Value.int p2, Value.int p3] below meth c s.heap [] 0 0 Q (F0 m 136 ls []))) : ∀ (ls : Array Slot), lv_has ls 7 [(0, .ref a_), (1, .int p1), (2, .int p2), (3, .int p3), (4, .int x4), (5, .int x5), (6, .int x6)] → W p l e ({ frames := 3, cells := 0, slots := 0, locals := 73 } : Room) s m #[Value.ref a_, Value.int p1, Value.int p2, Value.int p3] below meth c s.heap [] 0 0 Q (F0 m 46 ls []) := by
  exact lp_rule (P := (fun u9 : Int32 × Int32 => ∀ (ls : Array Slot), lv_has ls 7 [(0, .ref a_), (1, .int p1), (2, .int p2), (3, .int p3), (4, .int u9.1), (5, .int x5), (6, .int u9.2)] → W p l e ({ frames := 3, cells := 0, slots := 0, locals := 73 } : Room) s m #[Value.ref a_, Value.int p1, Value.int p2, Value.int p3] below meth c s.heap [] 0 0 Q (F0 m 46 ls []))) (R := (fun r9 : Nat × Int32 × Int32 => (r9.1 = 0 → ∀ (ls : Array Slot), lv_has ls 7 [] → W p l e ({ frames := 3, cells := 0, slots := 0, locals := 73 } : Room) s m #[Value.ref a_, Value.int p1, Value.int p2, Value.int p3] below meth c s.heap [] 0 0 Q (F0 m 93 ls [])) ∧ (r9.1 = 1 → ∀ (ls : Array Slot), lv_has ls 7 [(3, .int p3), (4, .int r9.2.1), (6, .int r9.2.2)] → W p l e ({ frames := 3, cells := 0, slots := 0, locals := 73 } : Room) s m #[Value.ref a_, Value.int p1, Value.int p2, Value.int p3] below meth c s.heap [] 0 0 Q (F0 m 118 ls [])) ∧ (r9.1 = 2 → ∀ (ls : Array Slot), lv_has ls 7 [(0, .ref a_), (1, .int p1), (2, .int p2), (3, .int p3), (4, .int r9.2.1), (5, .int x5)] → W p l e ({ frames := 3, cells := 0, slots := 0, locals := 73 } : Room) s m #[Value.ref a_, Value.int p1, Value.int p2, Value.int p3] below meth c s.heap [] 0 0 Q (F0 m 136 ls [])))) (fun u9 xx hF hC hE => wb_X7_race_46 l E K (p1 := p1) (p2 := p2) (p3 := p3) (c_hasImage := c_hasImage) (c_now_askedCount := c_now_askedCount) (c_now_outcome := c_now_outcome) (c_now_row := c_now_row) (x4 := u9.1) (x5 := x5) (x6 := u9.2) hx hb hml hown hts hK hN (fun x4 x6 q9 => hC _ q9) (fun t9 x4 x6 q9 => hE _ q9) hF hP) j9 (x4, x6) (t9', x4', x6') hL hX

set_option maxHeartbeats 4000000 in
set_option maxRecDepth 100000 in
theorem wb_X7_race_35 {p : Program} (l : Launch) {e : Env} {s : State} {m : MethodId} {below : List Frame} {meth : Method} {c : Code} {Q : State → Prop} (E : EE) (K : Nat) {a_ a_tape a_reader a_scripts a_now a_trial a_kept a_book a_keptBook a_history a_draws a_refused a_now_row a_now_partners a_now_share a_now_leftOver : Nat} {p1 : Int32} {p2 : Int32} {p3 : Int32} {c_hasImage : Int32} {c_now_askedCount : Int32} {c_now_outcome : Int32} {c_now_row : Nat → Int32} {x4 : Int32} {x5 : Int32} (hx : p.tables.exec = Jvm.exec) (hb : c.code = cX7_race) (hml : c.maxLocals = 7) (hown : s.vm.findClass RX7 = some m.cls) (hts : ∀ w ∈ v_f_X7_race, w.before #[Value.ref a_, Value.int p1, Value.int p2, Value.int p3] s = true) (hK : va_K E.1 vwCl (TY E) s) (hN : NX s) {xx : (Int32 × Int32) ⊕ (Nat × Int32 × Int32)} (hC : ∀ (x4 : Int32), ∀ (x5 : Int32), xx = .inl (x4, x5) → ∀ (ls : Array Slot), lv_has ls 7 [(0, .ref a_), (1, .int p1), (2, .int p2), (3, .int p3), (4, .int x4), (5, .int x5)] → W p l e ({ frames := 3, cells := 0, slots := 0, locals := 73 } : Room) s m #[Value.ref a_, Value.int p1, Value.int p2, Value.int p3] below meth c s.heap [] 0 0 Q (F0 m 35 ls [])) (hE : ∀ (t9 : Nat), ∀ (x4 : Int32), ∀ (x6 : Int32), xx = .inr (t9, x4, x6) → ((t9 = 0 → ∀ (ls : Array Slot), lv_has ls 7 [] → W p l e ({ frames := 3, cells := 0, slots := 0, locals := 73 } : Room) s m #[Value.ref a_, Value.int p1, Value.int p2, Value.int p3] below meth c s.heap [] 0 0 Q (F0 m 93 ls [])) ∧ (t9 = 1 → ∀ (ls : Array Slot), lv_has ls 7 [(3, .int p3), (4, .int x4), (6, .int x6)] → W p l e ({ frames := 3, cells := 0, slots := 0, locals := 73 } : Room) s m #[Value.ref a_, Value.int p1, Value.int p2, Value.int p3] below meth c s.heap [] 0 0 Q (F0 m 118 ls [])) ∧ (t9 = 2 → ∀ (ls : Array Slot), lv_has ls 7 [] → W p l e ({ frames := 3, cells := 0, slots := 0, locals := 73 } : Room) s m #[Value.ref a_, Value.int p1, Value.int p2, Value.int p3] below meth c s.heap [] 0 0 Q (F0 m 142 ls [])))) (hF : B_X7_race_35 K p1 p2 c_now_row x4 x5 = some xx) (hP : va_P E.1 vwCl (w_X7_race E a_ a_tape a_reader a_scripts a_now a_trial a_kept a_book a_keptBook a_history a_draws a_refused a_now_row a_now_partners a_now_share a_now_leftOver c_hasImage c_now_askedCount c_now_outcome c_now_row) s.heap) : ∀ (ls : Array Slot), lv_has ls 7 [(0, .ref a_), (1, .int p1), (2, .int p2), (3, .int p3), (4, .int x4), (5, .int x5)] → W p l e ({ frames := 3, cells := 0, slots := 0, locals := 73 } : Room) s m #[Value.ref a_, Value.int p1, Value.int p2, Value.int p3] below meth c s.heap [] 0 0 Q (F0 m 35 ls []) := by
  unfold B_X7_race_35 at hF
  replace hP : va_P E.1 vwCl [(a_, .inr (8, [.ref a_tape, .ref a_reader, .ref a_scripts, .ref a_now, .ref a_trial, .ref a_kept, .ref a_book, .ref a_keptBook, .ref a_history, .ref a_draws, .ref a_refused, .int c_hasImage])), (a_now, .inr (6, [.ref a_now_row, .ref a_now_partners, .int c_now_askedCount, .int c_now_outcome, .ref a_now_share, .ref a_now_leftOver])), (a_now_row, .inl (E.2.1, 81, .inl c_now_row))] s.heap := hP
  intro ls hl
  refine lv_iload hx hb dX7_race_35 (lv_at hl 5 rfl) ?_
  refine lv_sipush (v := 200) hx hb dX7_race_37 (by decide) ?_
  refine lv_icmp_gt (tgt := 142) hx hb dX7_race_40 (by decide) (fun c_11 => ?_) (fun c_11 => ?_)
  ·
    replace hF := ip c_11 hF
    cases hF
    exact (hE 2 x4 (0 : Int32) rfl).2.2 rfl ls (lv_sub hl [] rfl)
  ·
    replace hF := inn c_11 hF
    refine lv_iconst (v := 0) hx hb dX7_race_43 (by decide) ?_
    refine lv_istore (lv' := [(6, .int (0 : Int32)), (0, .ref a_), (1, .int p1), (2, .int p2), (3, .int p3), (4, .int x4), (5, .int x5)]) hx hb dX7_race_44 hl (by decide) rfl (fun ls hl => ?_)
    replace hF := bd3_s hF
    obtain ⟨t_27, x4_28, x6_29, hL_30, hF⟩ := hF
    refine lw_X7_race_46 l E K (p1 := p1) (p2 := p2) (p3 := p3) (c_hasImage := c_hasImage) (c_now_askedCount := c_now_askedCount) (c_now_outcome := c_now_outcome) (c_now_row := c_now_row) (x5 := x5) hx hb hml hown hts hK hN hP K x4 (0 : Int32) t_27 x4_28 x6_29 hL_30 ⟨?_, ?_, ?_⟩ ls (lv_sub hl [1, 2, 3, 4, 5, 6, 0] rfl)
    ·
      intro t9
      replace hF := ip t9 hF
      intro ls hl
      cases hF
      exact (hE 0 (0 : Int32) (0 : Int32) rfl).1 rfl ls (lv_sub hl [] rfl)
    ·
      intro t9
      replace hF := inn (show ¬ t_27 = 0 by omega) hF
      replace hF := ip t9 hF
      intro ls hl
      cases hF
      exact (hE 1 x4_28 x6_29 rfl).2.1 rfl ls (lv_sub hl [0, 1, 2] rfl)
    ·
      intro t9
      replace hF := inn (show ¬ t_27 = 0 by omega) hF
      replace hF := inn (show ¬ t_27 = 1 by omega) hF
      replace hF := ip t9 hF
      intro ls hl
      refine lv_iinc (v := x5 + (1 : Int32)) (lv' := [(5, .int (x5 + (1 : Int32))), (0, .ref a_), (1, .int p1), (2, .int p2), (3, .int p3), (4, .int x4_28)]) hx hb dX7_race_136 hl (k := 5) rfl (rfl) (by decide) rfl (fun ls hl => ?_)
      refine lv_goto (tgt := 35) hx hb dX7_race_139 (by decide) ?_
      cases hF
      exact hC x4_28 (x5 + (1 : Int32)) rfl ls (lv_sub hl [1, 2, 3, 4, 5, 0] rfl)

set_option maxHeartbeats 4000000 in
set_option maxRecDepth 100000 in
theorem lw_X7_race_35 {p : Program} (l : Launch) {e : Env} {s : State} {m : MethodId} {below : List Frame} {meth : Method} {c : Code} {Q : State → Prop} (E : EE) (K : Nat) {a_ a_tape a_reader a_scripts a_now a_trial a_kept a_book a_keptBook a_history a_draws a_refused a_now_row a_now_partners a_now_share a_now_leftOver : Nat} {p1 : Int32} {p2 : Int32} {p3 : Int32} {c_hasImage : Int32} {c_now_askedCount : Int32} {c_now_outcome : Int32} {c_now_row : Nat → Int32} (hx : p.tables.exec = Jvm.exec) (hb : c.code = cX7_race) (hml : c.maxLocals = 7) (hown : s.vm.findClass RX7 = some m.cls) (hts : ∀ w ∈ v_f_X7_race, w.before #[Value.ref a_, Value.int p1, Value.int p2, Value.int p3] s = true) (hK : va_K E.1 vwCl (TY E) s) (hN : NX s) (hP : va_P E.1 vwCl (w_X7_race E a_ a_tape a_reader a_scripts a_now a_trial a_kept a_book a_keptBook a_history a_draws a_refused a_now_row a_now_partners a_now_share a_now_leftOver c_hasImage c_now_askedCount c_now_outcome c_now_row) s.heap) (j9 : Nat) (x4 : Int32) (x5 : Int32) (t9' : Nat) (x4' : Int32) (x6' : Int32) (hL : lpF (fun u9 : Int32 × Int32 => B_X7_race_35 K p1 p2 c_now_row u9.1 u9.2) j9 (x4, x5) = some (t9', x4', x6')) (hX : (t9' = 0 → ∀ (ls : Array Slot), lv_has ls 7 [] → W p l e ({ frames := 3, cells := 0, slots := 0, locals := 73 } : Room) s m #[Value.ref a_, Value.int p1, Value.int p2, Value.int p3] below meth c s.heap [] 0 0 Q (F0 m 93 ls [])) ∧ (t9' = 1 → ∀ (ls : Array Slot), lv_has ls 7 [(3, .int p3), (4, .int x4'), (6, .int x6')] → W p l e ({ frames := 3, cells := 0, slots := 0, locals := 73 } : Room) s m #[Value.ref a_, Value.int p1, Value.int p2, Value.int p3] below meth c s.heap [] 0 0 Q (F0 m 118 ls [])) ∧ (t9' = 2 → ∀ (ls : Array Slot), lv_has ls 7 [] → W p l e ({ frames := 3, cells := 0, slots := 0, locals := 73 } : Room) s m #[Value.ref a_, Value.int p1, Value.int p2, Value.int p3] below meth c s.heap [] 0 0 Q (F0 m 142 ls []))) : ∀ (ls : Array Slot), lv_has ls 7 [(0, .ref a_), (1, .int p1), (2, .int p2), (3, .int p3), (4, .int x4), (5, .int x5)] → W p l e ({ frames := 3, cells := 0, slots := 0, locals := 73 } : Room) s m #[Value.ref a_, Value.int p1, Value.int p2, Value.int p3] below meth c s.heap [] 0 0 Q (F0 m 35 ls []) := by
  exact lp_rule (P := (fun u9 : Int32 × Int32 => ∀ (ls : Array Slot), lv_has ls 7 [(0, .ref a_), (1, .int p1), (2, .int p2), (3, .int p3), (4, .int u9.1), (5, .int u9.2)] → W p l e ({ frames := 3, cells := 0, slots := 0, locals := 73 } : Room) s m #[Value.ref a_, Value.int p1, Value.int p2, Value.int p3] below meth c s.heap [] 0 0 Q (F0 m 35 ls []))) (R := (fun r9 : Nat × Int32 × Int32 => (r9.1 = 0 → ∀ (ls : Array Slot), lv_has ls 7 [] → W p l e ({ frames := 3, cells := 0, slots := 0, locals := 73 } : Room) s m #[Value.ref a_, Value.int p1, Value.int p2, Value.int p3] below meth c s.heap [] 0 0 Q (F0 m 93 ls [])) ∧ (r9.1 = 1 → ∀ (ls : Array Slot), lv_has ls 7 [(3, .int p3), (4, .int r9.2.1), (6, .int r9.2.2)] → W p l e ({ frames := 3, cells := 0, slots := 0, locals := 73 } : Room) s m #[Value.ref a_, Value.int p1, Value.int p2, Value.int p3] below meth c s.heap [] 0 0 Q (F0 m 118 ls [])) ∧ (r9.1 = 2 → ∀ (ls : Array Slot), lv_has ls 7 [] → W p l e ({ frames := 3, cells := 0, slots := 0, locals := 73 } : Room) s m #[Value.ref a_, Value.int p1, Value.int p2, Value.int p3] below meth c s.heap [] 0 0 Q (F0 m 142 ls [])))) (fun u9 xx hF hC hE => wb_X7_race_35 l E K (p1 := p1) (p2 := p2) (p3 := p3) (c_hasImage := c_hasImage) (c_now_askedCount := c_now_askedCount) (c_now_outcome := c_now_outcome) (c_now_row := c_now_row) (x4 := u9.1) (x5 := u9.2) hx hb hml hown hts hK hN (fun x4 x5 q9 => hC _ q9) (fun t9 x4 x6 q9 => hE _ q9) hF hP) j9 (x4, x5) (t9', x4', x6') hL hX

set_option maxHeartbeats 4000000 in
set_option maxRecDepth 100000 in
theorem f_X7_race (l : Launch) (E : EE) (K : Nat) {a_ a_tape a_reader a_scripts a_now a_trial a_kept a_book a_keptBook a_history a_draws a_refused a_now_row a_now_partners a_now_share a_now_leftOver : Nat} {p1 : Int32} {p2 : Int32} {p3 : Int32} {c_hasImage : Int32} {c_now_askedCount : Int32} {c_now_outcome : Int32} {c_now_row : Nat → Int32} {rr : Int32} (hF : F_X7_race K p1 p2 p3 c_now_row = some rr) : Met l yX7_race v_f_X7_race (({ frames := 3, cells := 0, slots := 0, locals := 73 } : Room)) (va_Pc [.ref a_, .int p1, .int p2, .int p3] (pP E (w_X7_race E a_ a_tape a_reader a_scripts a_now a_trial a_kept a_book a_keptBook a_history a_draws a_refused a_now_row a_now_partners a_now_share a_now_leftOver c_hasImage c_now_askedCount c_now_outcome c_now_row))) (vp_Si (fun q : Int32 => q = rr)) 0 0 (fun _ => False) := by
  refine Met.ofW (cc := cX7_race) (maxL := 7) (ret := (some .int)) (by decide) rfl ?_
  intro p e s m args below meth c s₁ B hml hv
  obtain ⟨rfl, ⟨hK, hN⟩, hP⟩ := hv
  have hx := B.exec
  have hb := B.bytes
  have hr := B.returns
  have hts := atoms_spec (ws := v_f_X7_race) B.pre
  have hown : s.vm.findClass RX7 = some m.cls := own_of hd_X7_race.1 (findClass_of_methodNamed B.named)
  have hlocks : meth.locks = false := B.notSynchronized
  replace hP : va_P E.1 vwCl [(a_, .inr (8, [.ref a_tape, .ref a_reader, .ref a_scripts, .ref a_now, .ref a_trial, .ref a_kept, .ref a_book, .ref a_keptBook, .ref a_history, .ref a_draws, .ref a_refused, .int c_hasImage])), (a_now, .inr (6, [.ref a_now_row, .ref a_now_partners, .int c_now_askedCount, .int c_now_outcome, .ref a_now_share, .ref a_now_leftOver])), (a_now_row, .inl (E.2.1, 81, .inl c_now_row))] s.heap := hP
  have hl := lv_entry ([.ref a_, .int p1, .int p2, .int p3]) (n := 7) (Nat.le_of_ble_eq_true rfl)
  rw [lg_entry_eq]
  generalize (lg_sl ([.ref a_, .int p1, .int p2, .int p3]) ++ List.replicate (7 - (lg_sl ([.ref a_, .int p1, .int p2, .int p3])).length) Slot.unset).toArray = ls at hl ⊢
  have hl : lv_has ls 7 [(0, .ref a_), (1, .int p1), (2, .int p2), (3, .int p3)] := hl
  obtain ⟨Q, hQ⟩ : ∃ Q : State → Prop, Q = MQ below (vp_Si (fun q : Int32 => q = rr)) #[Value.ref a_, Value.int p1, Value.int p2, Value.int p3] s 0 0 (fun _ => False) := ⟨_, rfl⟩
  rw [← hQ]
  change W p l e ({ frames := 3, cells := 0, slots := 0, locals := 73 } : Room) s m #[Value.ref a_, Value.int p1, Value.int p2, Value.int p3] below meth c s.heap [] 0 0 Q (F0 m 0 ls [])
  unfold F_X7_race at hF
  refine lv_aload_n hx hb dX7_race_0 rfl (lv_at hl 0 rfl) ?_
  refine gt_X7_3 (v := .ref a_now) hx hb hts i_f_X7_race_X7 hown hK hP 0 rfl (hts (.fieldLink RX7 35 "HushWatch" "now" "LHushWatch$State;") (List.mem_of_getElem? (i := 1) rfl)) rfl dX7_race_1 ?_
  replace hF := bd1_s hF
  obtain ⟨r_1, hc_2, hF⟩ := hF
  have hPc : va_P E.1 vwCl (w_X5_stands E a_now a_now_row a_now_partners a_now_share a_now_leftOver c_now_askedCount c_now_outcome c_now_row) s.heap := hP.sub (ws' := [(a_now, .inr (6, [.ref a_now_row, .ref a_now_partners, .int c_now_askedCount, .int c_now_outcome, .ref a_now_share, .ref a_now_leftOver])), (a_now_row, .inl (E.2.1, 81, .inl c_now_row))]) [1, 2] rfl
  have hrc := va_recv hK hPc (ci := 6) (q0 := 0) rfl rfl
  refine pE_z (va_runV (As := []) (rest := [])  ⟨hx, hb, hml, hown, hts⟩ (f_X5_stands l E (a_ := a_now) (a_row := a_now_row) (a_partners := a_now_partners) (a_share := a_now_share) (a_leftOver := a_now_leftOver) (c_askedCount := c_now_askedCount) (c_outcome := c_now_outcome) (c_row := c_now_row) hc_2) (cwV 0 hts g_f_X7_race_f_X5_stands_110 rfl rfl rfl hd_X5_stands ⟨Nat.le_of_ble_eq_true rfl, Nat.le_of_ble_eq_true rfl⟩) ⟨pP.blind, hrc, (pP.pre ⟨hK, hN⟩ hPc)⟩ rfl rfl hl.1 rfl (lv_room (Nat.le_of_ble_eq_true rfl)) dX7_race_4 ⟨Nat.le_of_ble_eq_true rfl, Nat.le_of_ble_eq_true rfl⟩) (fun hb_3 => ?_)
  refine lv_if_eq (tgt := 27) hx hb dX7_race_7 (by decide) (fun c_4 => ?_) (fun c_4 => ?_)
  ·
    replace hF := ip c_4 hF
    refine lv_iconst (v := -1) hx hb dX7_race_27 (by decide) ?_
    rw [hQ]
    obtain e9_0 := inj1 hF
    exact W.iret (v := (-1 : Int32)) hx hb hr (fun tt ht hW => ⟨_, rfl, e9_0, ht⟩) (fun _ h => by cases h) dX7_race_28
  ·
    replace hF := inn c_4 hF
    refine lv_iload_n hx hb dX7_race_10 rfl (lv_at hl 1 rfl) ?_
    refine lv_iload_n hx hb dX7_race_11 rfl (lv_at hl 2 rfl) ?_
    replace hF := bd1_s hF
    obtain ⟨r_5, hc_6, hF⟩ := hF
    have hPc : va_P E.1 vwCl [] s.heap := fun k q h => by simp at h
    refine pE_z (va_runS (As := [.int p1, .int p2]) (rest := [])  ⟨hx, hb, hml, hown, hts⟩ (f_X7_isWay l E (p0 := p1) (p1 := p2) hc_6) (va_cwS 2 hts g_f_X7_race_f_X7_isWay_210 rfl rfl rfl hd_X7_isWay.2 ⟨Nat.le_of_ble_eq_true rfl, Nat.le_of_ble_eq_true rfl⟩) ⟨pP.blind, (pP.pre ⟨hK, hN⟩ hPc)⟩ rfl rfl hl.1 rfl (lv_room (Nat.le_of_ble_eq_true rfl)) dX7_race_12 ⟨Nat.le_of_ble_eq_true rfl, Nat.le_of_ble_eq_true rfl⟩) (fun hb_7 => ?_)
    refine lv_if_eq (tgt := 27) hx hb dX7_race_15 (by decide) (fun c_8 => ?_) (fun c_8 => ?_)
    ·
      replace hF := ip c_8 hF
      refine lv_iconst (v := -1) hx hb dX7_race_27 (by decide) ?_
      rw [hQ]
      obtain e9_0 := inj1 hF
      exact W.iret (v := (-1 : Int32)) hx hb hr (fun tt ht hW => ⟨_, rfl, e9_0, ht⟩) (fun _ h => by cases h) dX7_race_28
    ·
      replace hF := inn c_8 hF
      refine lv_iload_n hx hb dX7_race_18 rfl (lv_at hl 3 rfl) ?_
      refine lv_if_lt (tgt := 27) hx hb dX7_race_19 (by decide) (fun c_9 => ?_) (fun c_9 => ?_)
      ·
        replace hF := ip c_9 hF
        refine lv_iconst (v := -1) hx hb dX7_race_27 (by decide) ?_
        rw [hQ]
        obtain e9_0 := inj1 hF
        exact W.iret (v := (-1 : Int32)) hx hb hr (fun tt ht hW => ⟨_, rfl, e9_0, ht⟩) (fun _ h => by cases h) dX7_race_28
      ·
        replace hF := inn c_9 hF
        refine lv_iload_n hx hb dX7_race_22 rfl (lv_at hl 3 rfl) ?_
        refine lv_iconst (v := 1) hx hb dX7_race_23 (by decide) ?_
        refine lv_icmp_le (tgt := 29) hx hb dX7_race_24 (by decide) (fun c_10 => ?_) (fun c_10 => ?_)
        ·
          replace hF := ip c_10 hF
          refine lv_iconst (v := 0) hx hb dX7_race_29 (by decide) ?_
          refine lv_istore (lv' := [(4, .int (0 : Int32)), (0, .ref a_), (1, .int p1), (2, .int p2), (3, .int p3)]) hx hb dX7_race_30 hl (by decide) rfl (fun ls hl => ?_)
          refine lv_iconst (v := 1) hx hb dX7_race_32 (by decide) ?_
          refine lv_istore (lv' := [(5, .int (1 : Int32)), (4, .int (0 : Int32)), (0, .ref a_), (1, .int p1), (2, .int p2), (3, .int p3)]) hx hb dX7_race_33 hl (by decide) rfl (fun ls hl => ?_)
          replace hF := bd3_s hF
          obtain ⟨t_31, x4_32, x6_33, hL_34, hF⟩ := hF
          refine lw_X7_race_35 l E K (p1 := p1) (p2 := p2) (p3 := p3) (c_hasImage := c_hasImage) (c_now_askedCount := c_now_askedCount) (c_now_outcome := c_now_outcome) (c_now_row := c_now_row) hx hb hml hown hts hK hN hP K (0 : Int32) (1 : Int32) t_31 x4_32 x6_33 hL_34 ⟨?_, ?_, ?_⟩ ls (lv_sub hl [2, 3, 4, 5, 1, 0] rfl)
          ·
            intro t9
            replace hF := ip t9 hF
            intro ls hl
            refine lv_iconst (v := -1) hx hb dX7_race_93 (by decide) ?_
            rw [hQ]
            obtain e9_0 := inj1 hF
            exact W.iret (v := (-1 : Int32)) hx hb hr (fun tt ht hW => ⟨_, rfl, e9_0, ht⟩) (fun _ h => by cases h) dX7_race_94
          ·
            intro t9
            replace hF := inn (show ¬ t_31 = 0 by omega) hF
            replace hF := ip t9 hF
            intro ls hl
            refine lv_iload_n hx hb dX7_race_118 rfl (lv_at hl 0 rfl) ?_
            refine lv_if_ne (tgt := 127) hx hb dX7_race_119 (by decide) (fun c_35 => ?_) (fun c_35 => ?_)
            ·
              replace hF := inn c_35 hF
              refine lv_iload hx hb dX7_race_127 (lv_at hl 1 rfl) ?_
              rw [hQ]
              obtain e9_0 := inj1 hF
              exact W.iret (v := x4_32) hx hb hr (fun tt ht hW => ⟨_, rfl, e9_0, ht⟩) (fun _ h => by cases h) dX7_race_129
            ·
              replace hF := ip c_35 hF
              refine lv_iload hx hb dX7_race_122 (lv_at hl 2 rfl) ?_
              refine lv_goto (tgt := 129) hx hb dX7_race_124 (by decide) ?_
              rw [hQ]
              obtain e9_0 := inj1 hF
              exact W.iret (v := x6_33) hx hb hr (fun tt ht hW => ⟨_, rfl, e9_0, ht⟩) (fun _ h => by cases h) dX7_race_129
          ·
            intro t9
            replace hF := inn (show ¬ t_31 = 0 by omega) hF
            replace hF := inn (show ¬ t_31 = 1 by omega) hF
            replace hF := ip t9 hF
            intro ls hl
            refine lv_iconst (v := -1) hx hb dX7_race_142 (by decide) ?_
            rw [hQ]
            obtain e9_0 := inj1 hF
            exact W.iret (v := (-1 : Int32)) hx hb hr (fun tt ht hW => ⟨_, rfl, e9_0, ht⟩) (fun _ h => by cases h) dX7_race_143
        ·
          replace hF := inn c_10 hF
          refine lv_iconst (v := -1) hx hb dX7_race_27 (by decide) ?_
          rw [hQ]
          obtain e9_0 := inj1 hF
          exact W.iret (v := (-1 : Int32)) hx hb hr (fun tt ht hW => ⟨_, rfl, e9_0, ht⟩) (fun _ h => by cases h) dX7_race_28

def F_X7_rule (p1 : Int32) (c_now_row : Nat → Int32) : Option (Int32) :=
  bd1 (F_X5_stands c_now_row) (fun r_1 => if r_1 = (0 : Int32) then some (-100000000 : Int32) else if p1 = (0 : Int32) then some (c_now_row 0) else if p1 = (1 : Int32) then some (c_now_row 1) else if p1 = (2 : Int32) then some (c_now_row 2) else if p1 = (3 : Int32) then bd1 (F_X5_sites c_now_row) (fun r_6 => some r_6) else some (-100000000 : Int32))
abbrev w_X7_rule (E : EE) (a_ a_tape a_reader a_scripts a_now a_trial a_kept a_book a_keptBook a_history a_draws a_refused a_now_row a_now_partners a_now_share a_now_leftOver : Nat) (c_hasImage : Int32) (c_now_askedCount : Int32) (c_now_outcome : Int32) (c_now_row : Nat → Int32) : va_W := [(a_, .inr (8, [.ref a_tape, .ref a_reader, .ref a_scripts, .ref a_now, .ref a_trial, .ref a_kept, .ref a_book, .ref a_keptBook, .ref a_history, .ref a_draws, .ref a_refused, .int c_hasImage])), (a_now, .inr (6, [.ref a_now_row, .ref a_now_partners, .int c_now_askedCount, .int c_now_outcome, .ref a_now_share, .ref a_now_leftOver])), (a_now_row, .inl (E.2.1, 81, .inl c_now_row))]
def v_f_X7_rule : List Cond := .code yX7_rule cX7_rule 2 (some .int) :: ([.fieldLink RX7 35 "HushWatch" "now" "LHushWatch$State;", .constant RX7 113 (-100000000), .methodLink RX7 110 yX5_stands, .instanceMethod yX5_stands, .selects RX5 yX5_stands yX5_stands, .initialized RX5, .methodLink RX7 117 yX5_sites, .instanceMethod yX5_sites, .selects RX5 yX5_sites yX5_sites] ++ (wsX70 ++ (v_f_X5_stands ++ (wsX50 ++ (v_f_X5_sites ++ ([]))))))
theorem gw_f_X7_rule : v_f_X7_rule.all goodWord = true := by decide +kernel
theorem i_f_X7_rule_X7 : ∀ w ∈ wsX70, w ∈ v_f_X7_rule := fun _ h => List.mem_cons_of_mem _ (List.mem_append_right _ (List.mem_append_left _ h))
theorem i_f_X7_rule_X5 : ∀ w ∈ wsX50, w ∈ v_f_X7_rule := fun _ h => List.mem_cons_of_mem _ (List.mem_append_right _ (List.mem_append_right _ (List.mem_append_right _ (List.mem_append_left _ h))))
theorem g_f_X7_rule_f_X5_stands_110 : GoodIn v_f_X7_rule (wsV RX7 110 RX5 yX5_stands v_f_X5_stands) := goodIn_app (goodIn_of _ (by decide +kernel)) (goodIn_sub (fun _ h => List.mem_cons_of_mem _ (List.mem_append_right _ (List.mem_append_right _ (List.mem_append_left _ h)))) gw_f_X5_stands)
theorem g_f_X7_rule_f_X5_sites_117 : GoodIn v_f_X7_rule (wsV RX7 117 RX5 yX5_sites v_f_X5_sites) := goodIn_app (goodIn_of _ (by decide +kernel)) (goodIn_sub (fun _ h => List.mem_cons_of_mem _ (List.mem_append_right _ (List.mem_append_right _ (List.mem_append_right _ (List.mem_append_right _ (List.mem_append_left _ h)))))) gw_f_X5_sites)
theorem hd_X7_rule : yX7_rule.cls = RX7 ∧ yX7_rule.cls ≠ "java/lang/invoke/MethodHandle" ∧ yX7_rule.cls ≠ "java/lang/invoke/VarHandle" ∧ (parseMethodDescriptor yX7_rule.desc).map (fun d => d.parameters.length) = some 1 := by decide +kernel
set_option maxHeartbeats 4000000 in
set_option maxRecDepth 100000 in
theorem f_X7_rule (l : Launch) (E : EE) {a_ a_tape a_reader a_scripts a_now a_trial a_kept a_book a_keptBook a_history a_draws a_refused a_now_row a_now_partners a_now_share a_now_leftOver : Nat} {p1 : Int32} {c_hasImage : Int32} {c_now_askedCount : Int32} {c_now_outcome : Int32} {c_now_row : Nat → Int32} {rr : Int32} (hF : F_X7_rule p1 c_now_row = some rr) : Met l yX7_rule v_f_X7_rule (({ frames := 1, cells := 0, slots := 0, locals := 20 } : Room)) (va_Pc [.ref a_, .int p1] (pP E (w_X7_rule E a_ a_tape a_reader a_scripts a_now a_trial a_kept a_book a_keptBook a_history a_draws a_refused a_now_row a_now_partners a_now_share a_now_leftOver c_hasImage c_now_askedCount c_now_outcome c_now_row))) (vp_Si (fun q : Int32 => q = rr)) 0 0 (fun _ => False) := by
  refine Met.ofW (cc := cX7_rule) (maxL := 2) (ret := (some .int)) (by decide) rfl ?_
  intro p e s m args below meth c s₁ B hml hv
  obtain ⟨rfl, ⟨hK, hN⟩, hP⟩ := hv
  have hx := B.exec
  have hb := B.bytes
  have hr := B.returns
  have hts := atoms_spec (ws := v_f_X7_rule) B.pre
  have hown : s.vm.findClass RX7 = some m.cls := own_of hd_X7_rule.1 (findClass_of_methodNamed B.named)
  have hlocks : meth.locks = false := B.notSynchronized
  replace hP : va_P E.1 vwCl [(a_, .inr (8, [.ref a_tape, .ref a_reader, .ref a_scripts, .ref a_now, .ref a_trial, .ref a_kept, .ref a_book, .ref a_keptBook, .ref a_history, .ref a_draws, .ref a_refused, .int c_hasImage])), (a_now, .inr (6, [.ref a_now_row, .ref a_now_partners, .int c_now_askedCount, .int c_now_outcome, .ref a_now_share, .ref a_now_leftOver])), (a_now_row, .inl (E.2.1, 81, .inl c_now_row))] s.heap := hP
  have hl := lv_entry ([.ref a_, .int p1]) (n := 2) (Nat.le_of_ble_eq_true rfl)
  rw [lg_entry_eq]
  generalize (lg_sl ([.ref a_, .int p1]) ++ List.replicate (2 - (lg_sl ([.ref a_, .int p1])).length) Slot.unset).toArray = ls at hl ⊢
  have hl : lv_has ls 2 [(0, .ref a_), (1, .int p1)] := hl
  obtain ⟨Q, hQ⟩ : ∃ Q : State → Prop, Q = MQ below (vp_Si (fun q : Int32 => q = rr)) #[Value.ref a_, Value.int p1] s 0 0 (fun _ => False) := ⟨_, rfl⟩
  rw [← hQ]
  change W p l e ({ frames := 1, cells := 0, slots := 0, locals := 20 } : Room) s m #[Value.ref a_, Value.int p1] below meth c s.heap [] 0 0 Q (F0 m 0 ls [])
  unfold F_X7_rule at hF
  refine lv_aload_n hx hb dX7_rule_0 rfl (lv_at hl 0 rfl) ?_
  refine gt_X7_3 (v := .ref a_now) hx hb hts i_f_X7_rule_X7 hown hK hP 0 rfl (hts (.fieldLink RX7 35 "HushWatch" "now" "LHushWatch$State;") (List.mem_of_getElem? (i := 1) rfl)) rfl dX7_rule_1 ?_
  replace hF := bd1_s hF
  obtain ⟨r_1, hc_2, hF⟩ := hF
  have hPc : va_P E.1 vwCl (w_X5_stands E a_now a_now_row a_now_partners a_now_share a_now_leftOver c_now_askedCount c_now_outcome c_now_row) s.heap := hP.sub (ws' := [(a_now, .inr (6, [.ref a_now_row, .ref a_now_partners, .int c_now_askedCount, .int c_now_outcome, .ref a_now_share, .ref a_now_leftOver])), (a_now_row, .inl (E.2.1, 81, .inl c_now_row))]) [1, 2] rfl
  have hrc := va_recv hK hPc (ci := 6) (q0 := 0) rfl rfl
  refine pE_z (va_runV (As := []) (rest := [])  ⟨hx, hb, hml, hown, hts⟩ (f_X5_stands l E (a_ := a_now) (a_row := a_now_row) (a_partners := a_now_partners) (a_share := a_now_share) (a_leftOver := a_now_leftOver) (c_askedCount := c_now_askedCount) (c_outcome := c_now_outcome) (c_row := c_now_row) hc_2) (cwV 0 hts g_f_X7_rule_f_X5_stands_110 rfl rfl rfl hd_X5_stands ⟨Nat.le_of_ble_eq_true rfl, Nat.le_of_ble_eq_true rfl⟩) ⟨pP.blind, hrc, (pP.pre ⟨hK, hN⟩ hPc)⟩ rfl rfl hl.1 rfl (lv_room (Nat.le_of_ble_eq_true rfl)) dX7_rule_4 ⟨Nat.le_of_ble_eq_true rfl, Nat.le_of_ble_eq_true rfl⟩) (fun hb_3 => ?_)
  refine lv_if_ne (tgt := 13) hx hb dX7_rule_7 (by decide) (fun c_4 => ?_) (fun c_4 => ?_)
  ·
    replace hF := inn c_4 hF
    refine lv_iload_n hx hb dX7_rule_13 rfl (lv_at hl 1 rfl) ?_
    rcases Classical.em (p1 = (0 : Int32)) with c_5_0 | c_5_0
    ·
      replace hF := ip c_5_0 hF
      refine lv_tableIn (off := 30) (tgt := 44) hx hb dX7_rule_14 (by rw [c_5_0]; decide) (by rw [c_5_0]; decide) (by rw [c_5_0]; decide) (by decide) ?_
      refine lv_aload_n hx hb dX7_rule_44 rfl (lv_at hl 0 rfl) ?_
      refine gt_X7_3 (v := .ref a_now) hx hb hts i_f_X7_rule_X7 hown hK hP 0 rfl (hts (.fieldLink RX7 35 "HushWatch" "now" "LHushWatch$State;") (List.mem_of_getElem? (i := 1) rfl)) rfl dX7_rule_45 ?_
      refine va_getN (D := E.1) (ci := 6) (v := .ref a_now_row) (C := RX5) (T := TX5) (N := 6) hx hb hts i_f_X7_rule_X5 hown hK hP 1 rfl rfl 0 (by decide) (nx hN 12 rfl) (fun _ h9 => h9) rfl dX7_rule_48 ?_
      refine lv_iconst (v := 0) hx hb dX7_rule_51 (by decide) ?_
      refine va_iald hx hb hK hP 2 0 rfl rfl (vin rfl) dX7_rule_52 ?_
      refine W.eq (g2 := F0 m 53 ls [.int (c_now_row 0)]) rfl ?_
      rw [hQ]
      obtain e9_0 := inj1 hF
      exact W.iret (v := c_now_row 0) hx hb hr (fun tt ht hW => ⟨_, rfl, e9_0, ht⟩) (fun _ h => by cases h) dX7_rule_53
    replace hF := inn c_5_0 hF
    rcases Classical.em (p1 = (1 : Int32)) with c_5_1 | c_5_1
    ·
      replace hF := ip c_5_1 hF
      refine lv_tableIn (off := 40) (tgt := 54) hx hb dX7_rule_14 (by rw [c_5_1]; decide) (by rw [c_5_1]; decide) (by rw [c_5_1]; decide) (by decide) ?_
      refine lv_aload_n hx hb dX7_rule_54 rfl (lv_at hl 0 rfl) ?_
      refine gt_X7_3 (v := .ref a_now) hx hb hts i_f_X7_rule_X7 hown hK hP 0 rfl (hts (.fieldLink RX7 35 "HushWatch" "now" "LHushWatch$State;") (List.mem_of_getElem? (i := 1) rfl)) rfl dX7_rule_55 ?_
      refine va_getN (D := E.1) (ci := 6) (v := .ref a_now_row) (C := RX5) (T := TX5) (N := 6) hx hb hts i_f_X7_rule_X5 hown hK hP 1 rfl rfl 0 (by decide) (nx hN 12 rfl) (fun _ h9 => h9) rfl dX7_rule_58 ?_
      refine lv_iconst (v := 1) hx hb dX7_rule_61 (by decide) ?_
      refine va_iald hx hb hK hP 2 0 rfl rfl (vin rfl) dX7_rule_62 ?_
      refine W.eq (g2 := F0 m 63 ls [.int (c_now_row 1)]) rfl ?_
      rw [hQ]
      obtain e9_0 := inj1 hF
      exact W.iret (v := c_now_row 1) hx hb hr (fun tt ht hW => ⟨_, rfl, e9_0, ht⟩) (fun _ h => by cases h) dX7_rule_63
    replace hF := inn c_5_1 hF
    rcases Classical.em (p1 = (2 : Int32)) with c_5_2 | c_5_2
    ·
      replace hF := ip c_5_2 hF
      refine lv_tableIn (off := 50) (tgt := 64) hx hb dX7_rule_14 (by rw [c_5_2]; decide) (by rw [c_5_2]; decide) (by rw [c_5_2]; decide) (by decide) ?_
      refine lv_aload_n hx hb dX7_rule_64 rfl (lv_at hl 0 rfl) ?_
      refine gt_X7_3 (v := .ref a_now) hx hb hts i_f_X7_rule_X7 hown hK hP 0 rfl (hts (.fieldLink RX7 35 "HushWatch" "now" "LHushWatch$State;") (List.mem_of_getElem? (i := 1) rfl)) rfl dX7_rule_65 ?_
      refine va_getN (D := E.1) (ci := 6) (v := .ref a_now_row) (C := RX5) (T := TX5) (N := 6) hx hb hts i_f_X7_rule_X5 hown hK hP 1 rfl rfl 0 (by decide) (nx hN 12 rfl) (fun _ h9 => h9) rfl dX7_rule_68 ?_
      refine lv_iconst (v := 2) hx hb dX7_rule_71 (by decide) ?_
      refine va_iald hx hb hK hP 2 0 rfl rfl (vin rfl) dX7_rule_72 ?_
      refine W.eq (g2 := F0 m 73 ls [.int (c_now_row 2)]) rfl ?_
      rw [hQ]
      obtain e9_0 := inj1 hF
      exact W.iret (v := c_now_row 2) hx hb hr (fun tt ht hW => ⟨_, rfl, e9_0, ht⟩) (fun _ h => by cases h) dX7_rule_73
    replace hF := inn c_5_2 hF
    rcases Classical.em (p1 = (3 : Int32)) with c_5_3 | c_5_3
    ·
      replace hF := ip c_5_3 hF
      refine lv_tableIn (off := 60) (tgt := 74) hx hb dX7_rule_14 (by rw [c_5_3]; decide) (by rw [c_5_3]; decide) (by rw [c_5_3]; decide) (by decide) ?_
      refine lv_aload_n hx hb dX7_rule_74 rfl (lv_at hl 0 rfl) ?_
      refine gt_X7_3 (v := .ref a_now) hx hb hts i_f_X7_rule_X7 hown hK hP 0 rfl (hts (.fieldLink RX7 35 "HushWatch" "now" "LHushWatch$State;") (List.mem_of_getElem? (i := 1) rfl)) rfl dX7_rule_75 ?_
      replace hF := bd1_s hF
      obtain ⟨r_6, hc_7, hF⟩ := hF
      have hPc : va_P E.1 vwCl (w_X5_sites E a_now a_now_row a_now_partners a_now_share a_now_leftOver c_now_askedCount c_now_outcome c_now_row) s.heap := hP.sub (ws' := [(a_now, .inr (6, [.ref a_now_row, .ref a_now_partners, .int c_now_askedCount, .int c_now_outcome, .ref a_now_share, .ref a_now_leftOver])), (a_now_row, .inl (E.2.1, 81, .inl c_now_row))]) [1, 2] rfl
      have hrc := va_recv hK hPc (ci := 6) (q0 := 0) rfl rfl
      refine pE_i (va_runV (As := []) (rest := [])  ⟨hx, hb, hml, hown, hts⟩ (f_X5_sites l E (a_ := a_now) (a_row := a_now_row) (a_partners := a_now_partners) (a_share := a_now_share) (a_leftOver := a_now_leftOver) (c_askedCount := c_now_askedCount) (c_outcome := c_now_outcome) (c_row := c_now_row) hc_7) (cwV 0 hts g_f_X7_rule_f_X5_sites_117 rfl rfl rfl hd_X5_sites ⟨Nat.le_of_ble_eq_true rfl, Nat.le_of_ble_eq_true rfl⟩) ⟨pP.blind, hrc, (pP.pre ⟨hK, hN⟩ hPc)⟩ rfl rfl hl.1 rfl (lv_room (Nat.le_of_ble_eq_true rfl)) dX7_rule_78 ⟨Nat.le_of_ble_eq_true rfl, Nat.le_of_ble_eq_true rfl⟩) ?_
      rw [hQ]
      obtain e9_0 := inj1 hF
      exact W.iret (v := r_6) hx hb hr (fun tt ht hW => ⟨_, rfl, e9_0, ht⟩) (fun _ h => by cases h) dX7_rule_81
    replace hF := inn c_5_3 hF
    refine lv_tableOut (tgt := 82) hx hb dX7_rule_14 (by have t0 : (0 : Int32).toInt = 0 := (by decide); have t1 : (1 : Int32).toInt = 1 := (by decide); have t2 : (2 : Int32).toInt = 2 := (by decide); have t3 : (3 : Int32).toInt = 3 := (by decide); simp only [← Int32.toInt_inj, t0, t1, t2, t3] at c_5_0 c_5_1 c_5_2 c_5_3; omega) (by decide) ?_
    refine lv_ldc (v := -100000000) hx hb hown (hts (.constant RX7 113 (-100000000)) (List.mem_of_getElem? (i := 2) rfl)) dX7_rule_82 ?_
    rw [hQ]
    obtain e9_0 := inj1 hF
    exact W.iret (v := (-100000000 : Int32)) hx hb hr (fun tt ht hW => ⟨_, rfl, e9_0, ht⟩) (fun _ h => by cases h) dX7_rule_84
  ·
    replace hF := ip c_4 hF
    refine lv_ldc (v := -100000000) hx hb hown (hts (.constant RX7 113 (-100000000)) (List.mem_of_getElem? (i := 2) rfl)) dX7_rule_10 ?_
    rw [hQ]
    obtain e9_0 := inj1 hF
    exact W.iret (v := (-100000000 : Int32)) hx hb hr (fun tt ht hW => ⟨_, rfl, e9_0, ht⟩) (fun _ h => by cases h) dX7_rule_12
end
-- 40.pub06
section
def dl_X7_tryStep_40_pub06_0 : List (Nat × Instr × Nat) := [(0, .aload_n 0, 1), (1, .getfield 28, 3), (4, .iload_n 1, 1), (5, .iload_n 2, 1), (6, .invokevirtual 299, 3), (9, .istore_n 3, 1), (10, .aload_n 0, 1), (11, .getfield 28, 3), (14, .iload_n 1, 1), (15, .iload_n 2, 1), (16, .iconst 1, 1), (17, .invokevirtual 288, 3), (20, .istore 4, 2), (22, .aload_n 0, 1), (23, .getfield 28, 3), (26, .iload_n 1, 1), (27, .iload_n 2, 1), (28, .iconst 2, 1), (29, .invokevirtual 288, 3), (32, .istore 5, 2), (34, .aload_n 0, 1), (35, .getfield 28, 3), (38, .iload_n 1, 1), (39, .iload_n 2, 1), (40, .iconst 3, 1), (41, .invokevirtual 288, 3), (44, .istore 6, 2), (46, .aload_n 0, 1), (47, .getfield 39, 3), (50, .iload_n 3, 1), (51, .iload 4, 2), (53, .iload 5, 2), (55, .iload 6, 2), (57, .invokevirtual 220, 3), (60, .iconst (-1), 1), (61, .if_icmp .eq 5, 3), (66, .aload_n 0, 1), (67, .getfield 39, 3), (70, .iload_n 3, 1), (71, .iload 4, 2), (73, .iload 5, 2), (75, .iload 6, 2), (77, .invokevirtual 241, 3), (80, .pop, 1), (81, .iconst 1, 1), (82, .ireturn, 1), (64, .iconst 0, 1), (65, .ireturn, 1)]
set_option maxRecDepth 100000 in
theorem dall_X7_tryStep_40_pub06_0 : dchk cX7_tryStep dl_X7_tryStep_40_pub06_0 = true := by decide +kernel
theorem dX7_tryStep_0 : decode cX7_tryStep 0 = .ok (.aload_n 0, 1) := dchk_at dall_X7_tryStep_40_pub06_0 (k := 0) rfl
theorem dX7_tryStep_1 : decode cX7_tryStep 1 = .ok (.getfield 28, 3) := dchk_at dall_X7_tryStep_40_pub06_0 (k := 1) rfl
theorem dX7_tryStep_4 : decode cX7_tryStep 4 = .ok (.iload_n 1, 1) := dchk_at dall_X7_tryStep_40_pub06_0 (k := 2) rfl
theorem dX7_tryStep_5 : decode cX7_tryStep 5 = .ok (.iload_n 2, 1) := dchk_at dall_X7_tryStep_40_pub06_0 (k := 3) rfl
theorem dX7_tryStep_6 : decode cX7_tryStep 6 = .ok (.invokevirtual 299, 3) := dchk_at dall_X7_tryStep_40_pub06_0 (k := 4) rfl
theorem dX7_tryStep_9 : decode cX7_tryStep 9 = .ok (.istore_n 3, 1) := dchk_at dall_X7_tryStep_40_pub06_0 (k := 5) rfl
theorem dX7_tryStep_10 : decode cX7_tryStep 10 = .ok (.aload_n 0, 1) := dchk_at dall_X7_tryStep_40_pub06_0 (k := 6) rfl
theorem dX7_tryStep_11 : decode cX7_tryStep 11 = .ok (.getfield 28, 3) := dchk_at dall_X7_tryStep_40_pub06_0 (k := 7) rfl
theorem dX7_tryStep_14 : decode cX7_tryStep 14 = .ok (.iload_n 1, 1) := dchk_at dall_X7_tryStep_40_pub06_0 (k := 8) rfl
theorem dX7_tryStep_15 : decode cX7_tryStep 15 = .ok (.iload_n 2, 1) := dchk_at dall_X7_tryStep_40_pub06_0 (k := 9) rfl
theorem dX7_tryStep_16 : decode cX7_tryStep 16 = .ok (.iconst 1, 1) := dchk_at dall_X7_tryStep_40_pub06_0 (k := 10) rfl
theorem dX7_tryStep_17 : decode cX7_tryStep 17 = .ok (.invokevirtual 288, 3) := dchk_at dall_X7_tryStep_40_pub06_0 (k := 11) rfl
theorem dX7_tryStep_20 : decode cX7_tryStep 20 = .ok (.istore 4, 2) := dchk_at dall_X7_tryStep_40_pub06_0 (k := 12) rfl
theorem dX7_tryStep_22 : decode cX7_tryStep 22 = .ok (.aload_n 0, 1) := dchk_at dall_X7_tryStep_40_pub06_0 (k := 13) rfl
theorem dX7_tryStep_23 : decode cX7_tryStep 23 = .ok (.getfield 28, 3) := dchk_at dall_X7_tryStep_40_pub06_0 (k := 14) rfl
theorem dX7_tryStep_26 : decode cX7_tryStep 26 = .ok (.iload_n 1, 1) := dchk_at dall_X7_tryStep_40_pub06_0 (k := 15) rfl
theorem dX7_tryStep_27 : decode cX7_tryStep 27 = .ok (.iload_n 2, 1) := dchk_at dall_X7_tryStep_40_pub06_0 (k := 16) rfl
theorem dX7_tryStep_28 : decode cX7_tryStep 28 = .ok (.iconst 2, 1) := dchk_at dall_X7_tryStep_40_pub06_0 (k := 17) rfl
theorem dX7_tryStep_29 : decode cX7_tryStep 29 = .ok (.invokevirtual 288, 3) := dchk_at dall_X7_tryStep_40_pub06_0 (k := 18) rfl
theorem dX7_tryStep_32 : decode cX7_tryStep 32 = .ok (.istore 5, 2) := dchk_at dall_X7_tryStep_40_pub06_0 (k := 19) rfl
theorem dX7_tryStep_34 : decode cX7_tryStep 34 = .ok (.aload_n 0, 1) := dchk_at dall_X7_tryStep_40_pub06_0 (k := 20) rfl
theorem dX7_tryStep_35 : decode cX7_tryStep 35 = .ok (.getfield 28, 3) := dchk_at dall_X7_tryStep_40_pub06_0 (k := 21) rfl
theorem dX7_tryStep_38 : decode cX7_tryStep 38 = .ok (.iload_n 1, 1) := dchk_at dall_X7_tryStep_40_pub06_0 (k := 22) rfl
theorem dX7_tryStep_39 : decode cX7_tryStep 39 = .ok (.iload_n 2, 1) := dchk_at dall_X7_tryStep_40_pub06_0 (k := 23) rfl
theorem dX7_tryStep_40 : decode cX7_tryStep 40 = .ok (.iconst 3, 1) := dchk_at dall_X7_tryStep_40_pub06_0 (k := 24) rfl
theorem dX7_tryStep_41 : decode cX7_tryStep 41 = .ok (.invokevirtual 288, 3) := dchk_at dall_X7_tryStep_40_pub06_0 (k := 25) rfl
theorem dX7_tryStep_44 : decode cX7_tryStep 44 = .ok (.istore 6, 2) := dchk_at dall_X7_tryStep_40_pub06_0 (k := 26) rfl
theorem dX7_tryStep_46 : decode cX7_tryStep 46 = .ok (.aload_n 0, 1) := dchk_at dall_X7_tryStep_40_pub06_0 (k := 27) rfl
theorem dX7_tryStep_47 : decode cX7_tryStep 47 = .ok (.getfield 39, 3) := dchk_at dall_X7_tryStep_40_pub06_0 (k := 28) rfl
theorem dX7_tryStep_50 : decode cX7_tryStep 50 = .ok (.iload_n 3, 1) := dchk_at dall_X7_tryStep_40_pub06_0 (k := 29) rfl
theorem dX7_tryStep_51 : decode cX7_tryStep 51 = .ok (.iload 4, 2) := dchk_at dall_X7_tryStep_40_pub06_0 (k := 30) rfl
theorem dX7_tryStep_53 : decode cX7_tryStep 53 = .ok (.iload 5, 2) := dchk_at dall_X7_tryStep_40_pub06_0 (k := 31) rfl
theorem dX7_tryStep_55 : decode cX7_tryStep 55 = .ok (.iload 6, 2) := dchk_at dall_X7_tryStep_40_pub06_0 (k := 32) rfl
theorem dX7_tryStep_57 : decode cX7_tryStep 57 = .ok (.invokevirtual 220, 3) := dchk_at dall_X7_tryStep_40_pub06_0 (k := 33) rfl
theorem dX7_tryStep_60 : decode cX7_tryStep 60 = .ok (.iconst (-1), 1) := dchk_at dall_X7_tryStep_40_pub06_0 (k := 34) rfl
theorem dX7_tryStep_61 : decode cX7_tryStep 61 = .ok (.if_icmp .eq 5, 3) := dchk_at dall_X7_tryStep_40_pub06_0 (k := 35) rfl
theorem dX7_tryStep_66 : decode cX7_tryStep 66 = .ok (.aload_n 0, 1) := dchk_at dall_X7_tryStep_40_pub06_0 (k := 36) rfl
theorem dX7_tryStep_67 : decode cX7_tryStep 67 = .ok (.getfield 39, 3) := dchk_at dall_X7_tryStep_40_pub06_0 (k := 37) rfl
theorem dX7_tryStep_70 : decode cX7_tryStep 70 = .ok (.iload_n 3, 1) := dchk_at dall_X7_tryStep_40_pub06_0 (k := 38) rfl
theorem dX7_tryStep_71 : decode cX7_tryStep 71 = .ok (.iload 4, 2) := dchk_at dall_X7_tryStep_40_pub06_0 (k := 39) rfl
theorem dX7_tryStep_73 : decode cX7_tryStep 73 = .ok (.iload 5, 2) := dchk_at dall_X7_tryStep_40_pub06_0 (k := 40) rfl
theorem dX7_tryStep_75 : decode cX7_tryStep 75 = .ok (.iload 6, 2) := dchk_at dall_X7_tryStep_40_pub06_0 (k := 41) rfl
theorem dX7_tryStep_77 : decode cX7_tryStep 77 = .ok (.invokevirtual 241, 3) := dchk_at dall_X7_tryStep_40_pub06_0 (k := 42) rfl
theorem dX7_tryStep_80 : decode cX7_tryStep 80 = .ok (.pop, 1) := dchk_at dall_X7_tryStep_40_pub06_0 (k := 43) rfl
theorem dX7_tryStep_81 : decode cX7_tryStep 81 = .ok (.iconst 1, 1) := dchk_at dall_X7_tryStep_40_pub06_0 (k := 44) rfl
theorem dX7_tryStep_82 : decode cX7_tryStep 82 = .ok (.ireturn, 1) := dchk_at dall_X7_tryStep_40_pub06_0 (k := 45) rfl
theorem dX7_tryStep_64 : decode cX7_tryStep 64 = .ok (.iconst 0, 1) := dchk_at dall_X7_tryStep_40_pub06_0 (k := 46) rfl
theorem dX7_tryStep_65 : decode cX7_tryStep 65 = .ok (.ireturn, 1) := dchk_at dall_X7_tryStep_40_pub06_0 (k := 47) rfl
def dl_X7_run_40_pub06_0 : List (Nat × Instr × Nat) := [(56, .iload 4, 2), (58, .iload_n 3, 1), (59, .if_icmp .ge 19, 3), (62, .aload_n 0, 1), (63, .iload_n 1, 1), (64, .iload 4, 2), (66, .invokevirtual 296, 3), (69, .ifCond .eq 9, 3), (72, .iinc 4 1, 3), (75, .goto (-19), 3), (78, .iload_n 2, 1), (79, .iconst 1, 1), (80, .if_icmp .ne 25, 3), (105, .iload 4, 2), (107, .iload_n 3, 1), (108, .if_icmp .ge 8, 3), (116, .iconst (-1), 1), (117, .ireturn, 1), (111, .iload 4, 2), (113, .goto 4, 3), (83, .aload_n 0, 1), (84, .getfield 39, 3), (87, .getfield 114, 3), (90, .bipush 11, 2), (92, .iaload, 1), (93, .aload_n 0, 1), (94, .getfield 35, 3), (97, .getfield 114, 3), (100, .bipush 11, 2), (102, .iaload, 1), (103, .isub, 1), (104, .ireturn, 1), (0, .aload_n 0, 1), (1, .getfield 28, 3), (4, .iload_n 1, 1), (5, .invokevirtual 290, 3), (8, .ifCond .eq 22, 3), (30, .ldc 113, 2), (32, .ireturn, 1), (11, .aload_n 0, 1), (12, .getfield 35, 3), (15, .invokevirtual 110, 3), (18, .ifCond .eq 12, 3), (21, .iload_n 2, 1), (22, .ifCond .lt 8, 3), (25, .iload_n 2, 1), (26, .iconst 1, 1), (27, .if_icmp .le 6, 3), (33, .aload_n 0, 1), (34, .getfield 39, 3)]
set_option maxRecDepth 100000 in
theorem dall_X7_run_40_pub06_0 : dchk cX7_run dl_X7_run_40_pub06_0 = true := by decide +kernel
theorem dX7_run_56 : decode cX7_run 56 = .ok (.iload 4, 2) := dchk_at dall_X7_run_40_pub06_0 (k := 0) rfl
theorem dX7_run_58 : decode cX7_run 58 = .ok (.iload_n 3, 1) := dchk_at dall_X7_run_40_pub06_0 (k := 1) rfl
theorem dX7_run_59 : decode cX7_run 59 = .ok (.if_icmp .ge 19, 3) := dchk_at dall_X7_run_40_pub06_0 (k := 2) rfl
theorem dX7_run_62 : decode cX7_run 62 = .ok (.aload_n 0, 1) := dchk_at dall_X7_run_40_pub06_0 (k := 3) rfl
theorem dX7_run_63 : decode cX7_run 63 = .ok (.iload_n 1, 1) := dchk_at dall_X7_run_40_pub06_0 (k := 4) rfl
theorem dX7_run_64 : decode cX7_run 64 = .ok (.iload 4, 2) := dchk_at dall_X7_run_40_pub06_0 (k := 5) rfl
theorem dX7_run_66 : decode cX7_run 66 = .ok (.invokevirtual 296, 3) := dchk_at dall_X7_run_40_pub06_0 (k := 6) rfl
theorem dX7_run_69 : decode cX7_run 69 = .ok (.ifCond .eq 9, 3) := dchk_at dall_X7_run_40_pub06_0 (k := 7) rfl
theorem dX7_run_72 : decode cX7_run 72 = .ok (.iinc 4 1, 3) := dchk_at dall_X7_run_40_pub06_0 (k := 8) rfl
theorem dX7_run_75 : decode cX7_run 75 = .ok (.goto (-19), 3) := dchk_at dall_X7_run_40_pub06_0 (k := 9) rfl
theorem dX7_run_78 : decode cX7_run 78 = .ok (.iload_n 2, 1) := dchk_at dall_X7_run_40_pub06_0 (k := 10) rfl
theorem dX7_run_79 : decode cX7_run 79 = .ok (.iconst 1, 1) := dchk_at dall_X7_run_40_pub06_0 (k := 11) rfl
theorem dX7_run_80 : decode cX7_run 80 = .ok (.if_icmp .ne 25, 3) := dchk_at dall_X7_run_40_pub06_0 (k := 12) rfl
theorem dX7_run_105 : decode cX7_run 105 = .ok (.iload 4, 2) := dchk_at dall_X7_run_40_pub06_0 (k := 13) rfl
theorem dX7_run_107 : decode cX7_run 107 = .ok (.iload_n 3, 1) := dchk_at dall_X7_run_40_pub06_0 (k := 14) rfl
theorem dX7_run_108 : decode cX7_run 108 = .ok (.if_icmp .ge 8, 3) := dchk_at dall_X7_run_40_pub06_0 (k := 15) rfl
theorem dX7_run_116 : decode cX7_run 116 = .ok (.iconst (-1), 1) := dchk_at dall_X7_run_40_pub06_0 (k := 16) rfl
theorem dX7_run_117 : decode cX7_run 117 = .ok (.ireturn, 1) := dchk_at dall_X7_run_40_pub06_0 (k := 17) rfl
theorem dX7_run_111 : decode cX7_run 111 = .ok (.iload 4, 2) := dchk_at dall_X7_run_40_pub06_0 (k := 18) rfl
theorem dX7_run_113 : decode cX7_run 113 = .ok (.goto 4, 3) := dchk_at dall_X7_run_40_pub06_0 (k := 19) rfl
theorem dX7_run_83 : decode cX7_run 83 = .ok (.aload_n 0, 1) := dchk_at dall_X7_run_40_pub06_0 (k := 20) rfl
theorem dX7_run_84 : decode cX7_run 84 = .ok (.getfield 39, 3) := dchk_at dall_X7_run_40_pub06_0 (k := 21) rfl
theorem dX7_run_87 : decode cX7_run 87 = .ok (.getfield 114, 3) := dchk_at dall_X7_run_40_pub06_0 (k := 22) rfl
theorem dX7_run_90 : decode cX7_run 90 = .ok (.bipush 11, 2) := dchk_at dall_X7_run_40_pub06_0 (k := 23) rfl
theorem dX7_run_92 : decode cX7_run 92 = .ok (.iaload, 1) := dchk_at dall_X7_run_40_pub06_0 (k := 24) rfl
theorem dX7_run_93 : decode cX7_run 93 = .ok (.aload_n 0, 1) := dchk_at dall_X7_run_40_pub06_0 (k := 25) rfl
theorem dX7_run_94 : decode cX7_run 94 = .ok (.getfield 35, 3) := dchk_at dall_X7_run_40_pub06_0 (k := 26) rfl
theorem dX7_run_97 : decode cX7_run 97 = .ok (.getfield 114, 3) := dchk_at dall_X7_run_40_pub06_0 (k := 27) rfl
theorem dX7_run_100 : decode cX7_run 100 = .ok (.bipush 11, 2) := dchk_at dall_X7_run_40_pub06_0 (k := 28) rfl
theorem dX7_run_102 : decode cX7_run 102 = .ok (.iaload, 1) := dchk_at dall_X7_run_40_pub06_0 (k := 29) rfl
theorem dX7_run_103 : decode cX7_run 103 = .ok (.isub, 1) := dchk_at dall_X7_run_40_pub06_0 (k := 30) rfl
theorem dX7_run_104 : decode cX7_run 104 = .ok (.ireturn, 1) := dchk_at dall_X7_run_40_pub06_0 (k := 31) rfl
theorem dX7_run_0 : decode cX7_run 0 = .ok (.aload_n 0, 1) := dchk_at dall_X7_run_40_pub06_0 (k := 32) rfl
theorem dX7_run_1 : decode cX7_run 1 = .ok (.getfield 28, 3) := dchk_at dall_X7_run_40_pub06_0 (k := 33) rfl
theorem dX7_run_4 : decode cX7_run 4 = .ok (.iload_n 1, 1) := dchk_at dall_X7_run_40_pub06_0 (k := 34) rfl
theorem dX7_run_5 : decode cX7_run 5 = .ok (.invokevirtual 290, 3) := dchk_at dall_X7_run_40_pub06_0 (k := 35) rfl
theorem dX7_run_8 : decode cX7_run 8 = .ok (.ifCond .eq 22, 3) := dchk_at dall_X7_run_40_pub06_0 (k := 36) rfl
theorem dX7_run_30 : decode cX7_run 30 = .ok (.ldc 113, 2) := dchk_at dall_X7_run_40_pub06_0 (k := 37) rfl
theorem dX7_run_32 : decode cX7_run 32 = .ok (.ireturn, 1) := dchk_at dall_X7_run_40_pub06_0 (k := 38) rfl
theorem dX7_run_11 : decode cX7_run 11 = .ok (.aload_n 0, 1) := dchk_at dall_X7_run_40_pub06_0 (k := 39) rfl
theorem dX7_run_12 : decode cX7_run 12 = .ok (.getfield 35, 3) := dchk_at dall_X7_run_40_pub06_0 (k := 40) rfl
theorem dX7_run_15 : decode cX7_run 15 = .ok (.invokevirtual 110, 3) := dchk_at dall_X7_run_40_pub06_0 (k := 41) rfl
theorem dX7_run_18 : decode cX7_run 18 = .ok (.ifCond .eq 12, 3) := dchk_at dall_X7_run_40_pub06_0 (k := 42) rfl
theorem dX7_run_21 : decode cX7_run 21 = .ok (.iload_n 2, 1) := dchk_at dall_X7_run_40_pub06_0 (k := 43) rfl
theorem dX7_run_22 : decode cX7_run 22 = .ok (.ifCond .lt 8, 3) := dchk_at dall_X7_run_40_pub06_0 (k := 44) rfl
theorem dX7_run_25 : decode cX7_run 25 = .ok (.iload_n 2, 1) := dchk_at dall_X7_run_40_pub06_0 (k := 45) rfl
theorem dX7_run_26 : decode cX7_run 26 = .ok (.iconst 1, 1) := dchk_at dall_X7_run_40_pub06_0 (k := 46) rfl
theorem dX7_run_27 : decode cX7_run 27 = .ok (.if_icmp .le 6, 3) := dchk_at dall_X7_run_40_pub06_0 (k := 47) rfl
theorem dX7_run_33 : decode cX7_run 33 = .ok (.aload_n 0, 1) := dchk_at dall_X7_run_40_pub06_0 (k := 48) rfl
theorem dX7_run_34 : decode cX7_run 34 = .ok (.getfield 39, 3) := dchk_at dall_X7_run_40_pub06_0 (k := 49) rfl
def dl_X7_run_40_pub06_1 : List (Nat × Instr × Nat) := [(37, .aload_n 0, 1), (38, .getfield 35, 3), (41, .invokevirtual 237, 3), (44, .aload_n 0, 1), (45, .getfield 28, 3), (48, .iload_n 1, 1), (49, .invokevirtual 293, 3), (52, .istore_n 3, 1), (53, .iconst 0, 1), (54, .istore 4, 2)]
set_option maxRecDepth 100000 in
theorem dall_X7_run_40_pub06_1 : dchk cX7_run dl_X7_run_40_pub06_1 = true := by decide +kernel
theorem dX7_run_37 : decode cX7_run 37 = .ok (.aload_n 0, 1) := dchk_at dall_X7_run_40_pub06_1 (k := 0) rfl
theorem dX7_run_38 : decode cX7_run 38 = .ok (.getfield 35, 3) := dchk_at dall_X7_run_40_pub06_1 (k := 1) rfl
theorem dX7_run_41 : decode cX7_run 41 = .ok (.invokevirtual 237, 3) := dchk_at dall_X7_run_40_pub06_1 (k := 2) rfl
theorem dX7_run_44 : decode cX7_run 44 = .ok (.aload_n 0, 1) := dchk_at dall_X7_run_40_pub06_1 (k := 3) rfl
theorem dX7_run_45 : decode cX7_run 45 = .ok (.getfield 28, 3) := dchk_at dall_X7_run_40_pub06_1 (k := 4) rfl
theorem dX7_run_48 : decode cX7_run 48 = .ok (.iload_n 1, 1) := dchk_at dall_X7_run_40_pub06_1 (k := 5) rfl
theorem dX7_run_49 : decode cX7_run 49 = .ok (.invokevirtual 293, 3) := dchk_at dall_X7_run_40_pub06_1 (k := 6) rfl
theorem dX7_run_52 : decode cX7_run 52 = .ok (.istore_n 3, 1) := dchk_at dall_X7_run_40_pub06_1 (k := 7) rfl
theorem dX7_run_53 : decode cX7_run 53 = .ok (.iconst 0, 1) := dchk_at dall_X7_run_40_pub06_1 (k := 8) rfl
theorem dX7_run_54 : decode cX7_run 54 = .ok (.istore 4, 2) := dchk_at dall_X7_run_40_pub06_1 (k := 9) rfl
def dl_X7_span_40_pub06_0 : List (Nat × Instr × Nat) := [(81, .iload_n 2, 1), (82, .ifCond .ne 7, 3), (89, .iload 7, 2), (91, .invokevirtual 217, 3), (94, .ifCond .ne 6, 3), (100, .iload 7, 2), (102, .istore 5, 2), (104, .iinc 6 1, 3), (107, .goto (-56), 3), (85, .iconst 0, 1), (86, .goto 5, 3), (51, .iload 6, 2), (53, .sipush 200, 3), (56, .if_icmp .gt 54, 3), (59, .iload 4, 2), (61, .iload 6, 2), (63, .imul, 1), (64, .istore 7, 2), (66, .aload_n 0, 1), (67, .getfield 35, 3), (70, .iload_n 1, 1), (71, .iload_n 2, 1), (72, .ifCond .ne 8, 3), (80, .iconst 0, 1), (75, .iload 7, 2), (77, .goto 4, 3), (43, .istore 4, 2), (45, .iconst 0, 1), (46, .istore 5, 2), (48, .iconst 1, 1), (49, .istore 6, 2), (97, .goto 13, 3), (110, .iload 5, 2), (112, .ireturn, 1), (0, .aload_n 0, 1), (1, .getfield 35, 3), (4, .iload_n 1, 1), (5, .invokevirtual 120, 3), (8, .ifCond .eq 23, 3), (31, .ldc 113, 2), (33, .ireturn, 1), (11, .iload_n 2, 1), (12, .ifCond .lt 19, 3), (15, .iload_n 2, 1), (16, .iconst 1, 1), (17, .if_icmp .gt 14, 3), (20, .aload_n 0, 1), (21, .getfield 35, 3), (24, .iload_n 1, 1), (25, .invokevirtual 137, 3)]
set_option maxRecDepth 100000 in
theorem dall_X7_span_40_pub06_0 : dchk cX7_span dl_X7_span_40_pub06_0 = true := by decide +kernel
theorem dX7_span_81 : decode cX7_span 81 = .ok (.iload_n 2, 1) := dchk_at dall_X7_span_40_pub06_0 (k := 0) rfl
theorem dX7_span_82 : decode cX7_span 82 = .ok (.ifCond .ne 7, 3) := dchk_at dall_X7_span_40_pub06_0 (k := 1) rfl
theorem dX7_span_89 : decode cX7_span 89 = .ok (.iload 7, 2) := dchk_at dall_X7_span_40_pub06_0 (k := 2) rfl
theorem dX7_span_91 : decode cX7_span 91 = .ok (.invokevirtual 217, 3) := dchk_at dall_X7_span_40_pub06_0 (k := 3) rfl
theorem dX7_span_94 : decode cX7_span 94 = .ok (.ifCond .ne 6, 3) := dchk_at dall_X7_span_40_pub06_0 (k := 4) rfl
theorem dX7_span_100 : decode cX7_span 100 = .ok (.iload 7, 2) := dchk_at dall_X7_span_40_pub06_0 (k := 5) rfl
theorem dX7_span_102 : decode cX7_span 102 = .ok (.istore 5, 2) := dchk_at dall_X7_span_40_pub06_0 (k := 6) rfl
theorem dX7_span_104 : decode cX7_span 104 = .ok (.iinc 6 1, 3) := dchk_at dall_X7_span_40_pub06_0 (k := 7) rfl
theorem dX7_span_107 : decode cX7_span 107 = .ok (.goto (-56), 3) := dchk_at dall_X7_span_40_pub06_0 (k := 8) rfl
theorem dX7_span_85 : decode cX7_span 85 = .ok (.iconst 0, 1) := dchk_at dall_X7_span_40_pub06_0 (k := 9) rfl
theorem dX7_span_86 : decode cX7_span 86 = .ok (.goto 5, 3) := dchk_at dall_X7_span_40_pub06_0 (k := 10) rfl
theorem dX7_span_51 : decode cX7_span 51 = .ok (.iload 6, 2) := dchk_at dall_X7_span_40_pub06_0 (k := 11) rfl
theorem dX7_span_53 : decode cX7_span 53 = .ok (.sipush 200, 3) := dchk_at dall_X7_span_40_pub06_0 (k := 12) rfl
theorem dX7_span_56 : decode cX7_span 56 = .ok (.if_icmp .gt 54, 3) := dchk_at dall_X7_span_40_pub06_0 (k := 13) rfl
theorem dX7_span_59 : decode cX7_span 59 = .ok (.iload 4, 2) := dchk_at dall_X7_span_40_pub06_0 (k := 14) rfl
theorem dX7_span_61 : decode cX7_span 61 = .ok (.iload 6, 2) := dchk_at dall_X7_span_40_pub06_0 (k := 15) rfl
theorem dX7_span_63 : decode cX7_span 63 = .ok (.imul, 1) := dchk_at dall_X7_span_40_pub06_0 (k := 16) rfl
theorem dX7_span_64 : decode cX7_span 64 = .ok (.istore 7, 2) := dchk_at dall_X7_span_40_pub06_0 (k := 17) rfl
theorem dX7_span_66 : decode cX7_span 66 = .ok (.aload_n 0, 1) := dchk_at dall_X7_span_40_pub06_0 (k := 18) rfl
theorem dX7_span_67 : decode cX7_span 67 = .ok (.getfield 35, 3) := dchk_at dall_X7_span_40_pub06_0 (k := 19) rfl
theorem dX7_span_70 : decode cX7_span 70 = .ok (.iload_n 1, 1) := dchk_at dall_X7_span_40_pub06_0 (k := 20) rfl
theorem dX7_span_71 : decode cX7_span 71 = .ok (.iload_n 2, 1) := dchk_at dall_X7_span_40_pub06_0 (k := 21) rfl
theorem dX7_span_72 : decode cX7_span 72 = .ok (.ifCond .ne 8, 3) := dchk_at dall_X7_span_40_pub06_0 (k := 22) rfl
theorem dX7_span_80 : decode cX7_span 80 = .ok (.iconst 0, 1) := dchk_at dall_X7_span_40_pub06_0 (k := 23) rfl
theorem dX7_span_75 : decode cX7_span 75 = .ok (.iload 7, 2) := dchk_at dall_X7_span_40_pub06_0 (k := 24) rfl
theorem dX7_span_77 : decode cX7_span 77 = .ok (.goto 4, 3) := dchk_at dall_X7_span_40_pub06_0 (k := 25) rfl
theorem dX7_span_43 : decode cX7_span 43 = .ok (.istore 4, 2) := dchk_at dall_X7_span_40_pub06_0 (k := 26) rfl
theorem dX7_span_45 : decode cX7_span 45 = .ok (.iconst 0, 1) := dchk_at dall_X7_span_40_pub06_0 (k := 27) rfl
theorem dX7_span_46 : decode cX7_span 46 = .ok (.istore 5, 2) := dchk_at dall_X7_span_40_pub06_0 (k := 28) rfl
theorem dX7_span_48 : decode cX7_span 48 = .ok (.iconst 1, 1) := dchk_at dall_X7_span_40_pub06_0 (k := 29) rfl
theorem dX7_span_49 : decode cX7_span 49 = .ok (.istore 6, 2) := dchk_at dall_X7_span_40_pub06_0 (k := 30) rfl
theorem dX7_span_97 : decode cX7_span 97 = .ok (.goto 13, 3) := dchk_at dall_X7_span_40_pub06_0 (k := 31) rfl
theorem dX7_span_110 : decode cX7_span 110 = .ok (.iload 5, 2) := dchk_at dall_X7_span_40_pub06_0 (k := 32) rfl
theorem dX7_span_112 : decode cX7_span 112 = .ok (.ireturn, 1) := dchk_at dall_X7_span_40_pub06_0 (k := 33) rfl
theorem dX7_span_0 : decode cX7_span 0 = .ok (.aload_n 0, 1) := dchk_at dall_X7_span_40_pub06_0 (k := 34) rfl
theorem dX7_span_1 : decode cX7_span 1 = .ok (.getfield 35, 3) := dchk_at dall_X7_span_40_pub06_0 (k := 35) rfl
theorem dX7_span_4 : decode cX7_span 4 = .ok (.iload_n 1, 1) := dchk_at dall_X7_span_40_pub06_0 (k := 36) rfl
theorem dX7_span_5 : decode cX7_span 5 = .ok (.invokevirtual 120, 3) := dchk_at dall_X7_span_40_pub06_0 (k := 37) rfl
theorem dX7_span_8 : decode cX7_span 8 = .ok (.ifCond .eq 23, 3) := dchk_at dall_X7_span_40_pub06_0 (k := 38) rfl
theorem dX7_span_31 : decode cX7_span 31 = .ok (.ldc 113, 2) := dchk_at dall_X7_span_40_pub06_0 (k := 39) rfl
theorem dX7_span_33 : decode cX7_span 33 = .ok (.ireturn, 1) := dchk_at dall_X7_span_40_pub06_0 (k := 40) rfl
theorem dX7_span_11 : decode cX7_span 11 = .ok (.iload_n 2, 1) := dchk_at dall_X7_span_40_pub06_0 (k := 41) rfl
theorem dX7_span_12 : decode cX7_span 12 = .ok (.ifCond .lt 19, 3) := dchk_at dall_X7_span_40_pub06_0 (k := 42) rfl
theorem dX7_span_15 : decode cX7_span 15 = .ok (.iload_n 2, 1) := dchk_at dall_X7_span_40_pub06_0 (k := 43) rfl
theorem dX7_span_16 : decode cX7_span 16 = .ok (.iconst 1, 1) := dchk_at dall_X7_span_40_pub06_0 (k := 44) rfl
theorem dX7_span_17 : decode cX7_span 17 = .ok (.if_icmp .gt 14, 3) := dchk_at dall_X7_span_40_pub06_0 (k := 45) rfl
theorem dX7_span_20 : decode cX7_span 20 = .ok (.aload_n 0, 1) := dchk_at dall_X7_span_40_pub06_0 (k := 46) rfl
theorem dX7_span_21 : decode cX7_span 21 = .ok (.getfield 35, 3) := dchk_at dall_X7_span_40_pub06_0 (k := 47) rfl
theorem dX7_span_24 : decode cX7_span 24 = .ok (.iload_n 1, 1) := dchk_at dall_X7_span_40_pub06_0 (k := 48) rfl
theorem dX7_span_25 : decode cX7_span 25 = .ok (.invokevirtual 137, 3) := dchk_at dall_X7_span_40_pub06_0 (k := 49) rfl
def dl_X7_span_40_pub06_1 : List (Nat × Instr × Nat) := [(28, .ifCond .ne 6, 3), (34, .iload_n 3, 1), (35, .ifCond .eq 7, 3), (42, .iconst (-1), 1), (38, .iconst 1, 1), (39, .goto 4, 3)]
set_option maxRecDepth 100000 in
theorem dall_X7_span_40_pub06_1 : dchk cX7_span dl_X7_span_40_pub06_1 = true := by decide +kernel
theorem dX7_span_28 : decode cX7_span 28 = .ok (.ifCond .ne 6, 3) := dchk_at dall_X7_span_40_pub06_1 (k := 0) rfl
theorem dX7_span_34 : decode cX7_span 34 = .ok (.iload_n 3, 1) := dchk_at dall_X7_span_40_pub06_1 (k := 1) rfl
theorem dX7_span_35 : decode cX7_span 35 = .ok (.ifCond .eq 7, 3) := dchk_at dall_X7_span_40_pub06_1 (k := 2) rfl
theorem dX7_span_42 : decode cX7_span 42 = .ok (.iconst (-1), 1) := dchk_at dall_X7_span_40_pub06_1 (k := 3) rfl
theorem dX7_span_38 : decode cX7_span 38 = .ok (.iconst 1, 1) := dchk_at dall_X7_span_40_pub06_1 (k := 4) rfl
theorem dX7_span_39 : decode cX7_span 39 = .ok (.goto 4, 3) := dchk_at dall_X7_span_40_pub06_1 (k := 5) rfl
def F_X7_tryStep (K : Nat) (p1 : Int32) (p2 : Int32) (c_scripts_steps : Nat → Int32) (c_scripts_counts : Nat → Int32) (c_scripts_held : Int32) (c_trial_row : Nat → Int32) (c_trial_partners : Nat → Int32) (c_trial_askedCount : Int32) (c_trial_outcome : Int32) (c_trial_share : Nat → Int32) (c_trial_leftOver : Nat → Int32) : Option (Int32 × (Nat → Int32) × (Nat → Int32) × Int32 × Int32 × (Nat → Int32) × (Nat → Int32)) :=
  bd1 (F_X4_sortOf p1 p2 c_scripts_steps c_scripts_counts c_scripts_held) (fun r_1 => bd1 (F_X4_read p1 p2 (1 : Int32) c_scripts_steps c_scripts_counts c_scripts_held) (fun r_3 => bd1 (F_X4_read p1 p2 (2 : Int32) c_scripts_steps c_scripts_counts c_scripts_held) (fun r_5 => bd1 (F_X4_read p1 p2 (3 : Int32) c_scripts_steps c_scripts_counts c_scripts_held) (fun r_7 => bd1 (F_X5_refusal r_1 r_3 r_5 r_7 c_trial_row) (fun r_9 => if r_9 = (-1 : Int32) then bd7 (F_X5_doAct K r_1 r_3 r_5 r_7 c_trial_row c_trial_partners c_trial_askedCount c_trial_outcome c_trial_share c_trial_leftOver) (fun r_12 w_13 w_14 w_15 w_16 w_17 w_18 => some ((1 : Int32), w_13, w_14, w_15, w_16, w_17, w_18)) else some ((0 : Int32), c_trial_row, c_trial_partners, c_trial_askedCount, c_trial_outcome, c_trial_share, c_trial_leftOver))))))
abbrev w_X7_tryStep (E : EE) (a_ a_tape a_reader a_scripts a_now a_trial a_kept a_book a_keptBook a_history a_draws a_refused a_scripts_steps a_scripts_counts a_trial_row a_trial_partners a_trial_share a_trial_leftOver : Nat) (c_hasImage : Int32) (c_scripts_held : Int32) (c_scripts_steps : Nat → Int32) (c_scripts_counts : Nat → Int32) (c_trial_askedCount : Int32) (c_trial_outcome : Int32) (c_trial_row : Nat → Int32) (c_trial_partners : Nat → Int32) (c_trial_share : Nat → Int32) (c_trial_leftOver : Nat → Int32) : va_W := [(a_, .inr (8, [.ref a_tape, .ref a_reader, .ref a_scripts, .ref a_now, .ref a_trial, .ref a_kept, .ref a_book, .ref a_keptBook, .ref a_history, .ref a_draws, .ref a_refused, .int c_hasImage])), (a_scripts, .inr (5, [.ref a_scripts_steps, .ref a_scripts_counts, .int c_scripts_held])), (a_scripts_steps, .inl (E.2.1, 192, .inl c_scripts_steps)), (a_scripts_counts, .inl (E.2.1, 4, .inl c_scripts_counts)), (a_trial, .inr (6, [.ref a_trial_row, .ref a_trial_partners, .int c_trial_askedCount, .int c_trial_outcome, .ref a_trial_share, .ref a_trial_leftOver])), (a_trial_row, .inl (E.2.1, 81, .inl c_trial_row)), (a_trial_partners, .inl (E.2.1, 8, .inl c_trial_partners)), (a_trial_share, .inl (E.2.1, 2, .inl c_trial_share)), (a_trial_leftOver, .inl (E.2.1, 2, .inl c_trial_leftOver))]
def v_f_X7_tryStep : List Cond := .code yX7_tryStep cX7_tryStep 7 (some .boolean) :: ([.fieldLink RX7 28 "HushWatch" "scripts" "LHushWatch$Scripts;", .fieldLink RX7 39 "HushWatch" "trial" "LHushWatch$State;", .methodLink RX7 299 yX4_sortOf, .instanceMethod yX4_sortOf, .selects RX4 yX4_sortOf yX4_sortOf, .initialized RX4, .methodLink RX7 288 yX4_read, .instanceMethod yX4_read, .selects RX4 yX4_read yX4_read, .methodLink RX7 220 yX5_refusal, .instanceMethod yX5_refusal, .selects RX5 yX5_refusal yX5_refusal, .initialized RX5, .methodLink RX7 241 yX5_doAct, .instanceMethod yX5_doAct, .selects RX5 yX5_doAct yX5_doAct] ++ (wsX70 ++ (v_f_X4_sortOf ++ (v_f_X4_read ++ (v_f_X5_refusal ++ (v_f_X5_doAct ++ ([])))))))
theorem gw_f_X7_tryStep : v_f_X7_tryStep.all goodWord = true := by decide +kernel
theorem i_f_X7_tryStep_X7 : ∀ w ∈ wsX70, w ∈ v_f_X7_tryStep := fun _ h => List.mem_cons_of_mem _ (List.mem_append_right _ (List.mem_append_left _ h))
theorem g_f_X7_tryStep_f_X4_sortOf_299 : GoodIn v_f_X7_tryStep (wsV RX7 299 RX4 yX4_sortOf v_f_X4_sortOf) := goodIn_app (goodIn_of _ (by decide +kernel)) (goodIn_sub (fun _ h => List.mem_cons_of_mem _ (List.mem_append_right _ (List.mem_append_right _ (List.mem_append_left _ h)))) gw_f_X4_sortOf)
theorem g_f_X7_tryStep_f_X4_read_288 : GoodIn v_f_X7_tryStep (wsV RX7 288 RX4 yX4_read v_f_X4_read) := goodIn_app (goodIn_of _ (by decide +kernel)) (goodIn_sub (fun _ h => List.mem_cons_of_mem _ (List.mem_append_right _ (List.mem_append_right _ (List.mem_append_right _ (List.mem_append_left _ h))))) gw_f_X4_read)
theorem g_f_X7_tryStep_f_X5_refusal_220 : GoodIn v_f_X7_tryStep (wsV RX7 220 RX5 yX5_refusal v_f_X5_refusal) := goodIn_app (goodIn_of _ (by decide +kernel)) (goodIn_sub (fun _ h => List.mem_cons_of_mem _ (List.mem_append_right _ (List.mem_append_right _ (List.mem_append_right _ (List.mem_append_right _ (List.mem_append_left _ h)))))) gw_f_X5_refusal)
theorem g_f_X7_tryStep_f_X5_doAct_241 : GoodIn v_f_X7_tryStep (wsV RX7 241 RX5 yX5_doAct v_f_X5_doAct) := goodIn_app (goodIn_of _ (by decide +kernel)) (goodIn_sub (fun _ h => List.mem_cons_of_mem _ (List.mem_append_right _ (List.mem_append_right _ (List.mem_append_right _ (List.mem_append_right _ (List.mem_append_right _ (List.mem_append_left _ h))))))) gw_f_X5_doAct)
theorem hd_X7_tryStep : yX7_tryStep.cls = RX7 ∧ yX7_tryStep.cls ≠ "java/lang/invoke/MethodHandle" ∧ yX7_tryStep.cls ≠ "java/lang/invoke/VarHandle" ∧ (parseMethodDescriptor yX7_tryStep.desc).map (fun d => d.parameters.length) = some 2 := by decide +kernel
set_option maxHeartbeats 4000000 in
set_option maxRecDepth 100000 in
theorem f_X7_tryStep (l : Launch) (E : EE) (sz : Nat) (K : Nat) (z9 : Nat → Nat) {a_ a_tape a_reader a_scripts a_now a_trial a_kept a_book a_keptBook a_history a_draws a_refused a_scripts_steps a_scripts_counts a_trial_row a_trial_partners a_trial_share a_trial_leftOver : Nat} {p1 : Int32} {p2 : Int32} {c_hasImage : Int32} {c_scripts_held : Int32} {c_scripts_steps : Nat → Int32} {c_scripts_counts : Nat → Int32} {c_trial_askedCount : Int32} {c_trial_outcome : Int32} {c_trial_row : Nat → Int32} {c_trial_partners : Nat → Int32} {c_trial_share : Nat → Int32} {c_trial_leftOver : Nat → Int32} {rr : Int32} {n_trial_row : Nat → Int32} {n_trial_partners : Nat → Int32} {n_trial_askedCount : Int32} {n_trial_outcome : Int32} {n_trial_share : Nat → Int32} {n_trial_leftOver : Nat → Int32} (hF : F_X7_tryStep K p1 p2 c_scripts_steps c_scripts_counts c_scripts_held c_trial_row c_trial_partners c_trial_askedCount c_trial_outcome c_trial_share c_trial_leftOver = some (rr, n_trial_row, n_trial_partners, n_trial_askedCount, n_trial_outcome, n_trial_share, n_trial_leftOver)) : Met l yX7_tryStep v_f_X7_tryStep (({ frames := 5, cells := 0, slots := 0, locals := 124 } : Room)) (va_Pc [.ref a_, .int p1, .int p2] (qWZ E z9 sz (w_X7_tryStep E a_ a_tape a_reader a_scripts a_now a_trial a_kept a_book a_keptBook a_history a_draws a_refused a_scripts_steps a_scripts_counts a_trial_row a_trial_partners a_trial_share a_trial_leftOver c_hasImage c_scripts_held c_scripts_steps c_scripts_counts c_trial_askedCount c_trial_outcome c_trial_row c_trial_partners c_trial_share c_trial_leftOver))) (va_Qi (fun (q : Int32) (_u : Unit) => q = rr ∧ (q = 0 ∨ q = 1)) (fun (_u : Unit) tt => va_P E.1 vwCl (w_X7_tryStep E a_ a_tape a_reader a_scripts a_now a_trial a_kept a_book a_keptBook a_history a_draws a_refused a_scripts_steps a_scripts_counts a_trial_row a_trial_partners a_trial_share a_trial_leftOver c_hasImage c_scripts_held c_scripts_steps c_scripts_counts n_trial_askedCount n_trial_outcome n_trial_row n_trial_partners n_trial_share n_trial_leftOver) tt.heap ∧ va_D (va_A (w_X7_tryStep E a_ a_tape a_reader a_scripts a_now a_trial a_kept a_book a_keptBook a_history a_draws a_refused a_scripts_steps a_scripts_counts a_trial_row a_trial_partners a_trial_share a_trial_leftOver c_hasImage c_scripts_held c_scripts_steps c_scripts_counts c_trial_askedCount c_trial_outcome c_trial_row c_trial_partners c_trial_share c_trial_leftOver) sz) (w_X7_tryStep E a_ a_tape a_reader a_scripts a_now a_trial a_kept a_book a_keptBook a_history a_draws a_refused a_scripts_steps a_scripts_counts a_trial_row a_trial_partners a_trial_share a_trial_leftOver c_hasImage c_scripts_held c_scripts_steps c_scripts_counts n_trial_askedCount n_trial_outcome n_trial_row n_trial_partners n_trial_share n_trial_leftOver)) (va_A (w_X7_tryStep E a_ a_tape a_reader a_scripts a_now a_trial a_kept a_book a_keptBook a_history a_draws a_refused a_scripts_steps a_scripts_counts a_trial_row a_trial_partners a_trial_share a_trial_leftOver c_hasImage c_scripts_held c_scripts_steps c_scripts_counts c_trial_askedCount c_trial_outcome c_trial_row c_trial_partners c_trial_share c_trial_leftOver) sz)) 0 0 (va_A (w_X7_tryStep E a_ a_tape a_reader a_scripts a_now a_trial a_kept a_book a_keptBook a_history a_draws a_refused a_scripts_steps a_scripts_counts a_trial_row a_trial_partners a_trial_share a_trial_leftOver c_hasImage c_scripts_held c_scripts_steps c_scripts_counts c_trial_askedCount c_trial_outcome c_trial_row c_trial_partners c_trial_share c_trial_leftOver) sz) := by
  refine Met.ofW (cc := cX7_tryStep) (maxL := 7) (ret := (some .boolean)) (by decide) rfl ?_
  intro p e s m args below meth c s₁ B hml hv
  obtain ⟨rfl, hsz, ⟨hK, hN⟩, hP, hD0, hZ⟩ := hv
  have hx := B.exec
  have hb := B.bytes
  have hr := B.returns
  have hts := atoms_spec (ws := v_f_X7_tryStep) B.pre
  have hown : s.vm.findClass RX7 = some m.cls := own_of hd_X7_tryStep.1 (findClass_of_methodNamed B.named)
  have hlocks : meth.locks = false := B.notSynchronized
  subst hsz
  have hD := hD0.self (sz := s.heap.size)
  generalize hAe : va_A (w_X7_tryStep E a_ a_tape a_reader a_scripts a_now a_trial a_kept a_book a_keptBook a_history a_draws a_refused a_scripts_steps a_scripts_counts a_trial_row a_trial_partners a_trial_share a_trial_leftOver c_hasImage c_scripts_held c_scripts_steps c_scripts_counts c_trial_askedCount c_trial_outcome c_trial_row c_trial_partners c_trial_share c_trial_leftOver) s.heap.size = A at hD hZ ⊢
  have hA : ∀ q : Nat, s.heap.size ≤ q → A q := fun q h => by rw [← hAe]; exact Or.inr h
  have hS : va_S A s.heap s.heap [] := va_S.rf
  have hl := lv_entry ([.ref a_, .int p1, .int p2]) (n := 7) (Nat.le_of_ble_eq_true rfl)
  rw [lg_entry_eq]
  generalize (lg_sl ([.ref a_, .int p1, .int p2]) ++ List.replicate (7 - (lg_sl ([.ref a_, .int p1, .int p2])).length) Slot.unset).toArray = ls at hl ⊢
  have hl : lv_has ls 7 [(0, .ref a_), (1, .int p1), (2, .int p2)] := hl
  obtain ⟨Q, hQ⟩ : ∃ Q : State → Prop, Q = MQ below (va_Qi (fun (q : Int32) (_u : Unit) => q = rr ∧ (q = 0 ∨ q = 1)) (fun (_u : Unit) tt => va_P E.1 vwCl (w_X7_tryStep E a_ a_tape a_reader a_scripts a_now a_trial a_kept a_book a_keptBook a_history a_draws a_refused a_scripts_steps a_scripts_counts a_trial_row a_trial_partners a_trial_share a_trial_leftOver c_hasImage c_scripts_held c_scripts_steps c_scripts_counts n_trial_askedCount n_trial_outcome n_trial_row n_trial_partners n_trial_share n_trial_leftOver) tt.heap ∧ va_D A (w_X7_tryStep E a_ a_tape a_reader a_scripts a_now a_trial a_kept a_book a_keptBook a_history a_draws a_refused a_scripts_steps a_scripts_counts a_trial_row a_trial_partners a_trial_share a_trial_leftOver c_hasImage c_scripts_held c_scripts_steps c_scripts_counts n_trial_askedCount n_trial_outcome n_trial_row n_trial_partners n_trial_share n_trial_leftOver)) A) #[Value.ref a_, Value.int p1, Value.int p2] s 0 0 A := ⟨_, rfl⟩
  rw [← hQ]
  change W p l e ({ frames := 5, cells := 0, slots := 0, locals := 124 } : Room) s m #[Value.ref a_, Value.int p1, Value.int p2] below meth c s.heap [] 0 0 Q (F0 m 0 ls [])
  suffices hh9 : ∀ (H : Heap) (locs : List Loc), va_P E.1 vwCl (w_X7_tryStep E a_ a_tape a_reader a_scripts a_now a_trial a_kept a_book a_keptBook a_history a_draws a_refused a_scripts_steps a_scripts_counts a_trial_row a_trial_partners a_trial_share a_trial_leftOver c_hasImage c_scripts_held c_scripts_steps c_scripts_counts c_trial_askedCount c_trial_outcome c_trial_row c_trial_partners c_trial_share c_trial_leftOver) H → va_D A (w_X7_tryStep E a_ a_tape a_reader a_scripts a_now a_trial a_kept a_book a_keptBook a_history a_draws a_refused a_scripts_steps a_scripts_counts a_trial_row a_trial_partners a_trial_share a_trial_leftOver c_hasImage c_scripts_held c_scripts_steps c_scripts_counts c_trial_askedCount c_trial_outcome c_trial_row c_trial_partners c_trial_share c_trial_leftOver) → va_S A s.heap H locs → W p l e ({ frames := 5, cells := 0, slots := 0, locals := 124 } : Room) s m #[Value.ref a_, Value.int p1, Value.int p2] below meth c H locs 0 0 Q (F0 m 0 ls []) from hh9 s.heap [] hP hD hS
  clear hP hD hS
  intro H locs hP hD hS
  replace hP : va_P E.1 vwCl [(a_, .inr (8, [.ref a_tape, .ref a_reader, .ref a_scripts, .ref a_now, .ref a_trial, .ref a_kept, .ref a_book, .ref a_keptBook, .ref a_history, .ref a_draws, .ref a_refused, .int c_hasImage])), (a_scripts, .inr (5, [.ref a_scripts_steps, .ref a_scripts_counts, .int c_scripts_held])), (a_scripts_steps, .inl (E.2.1, 192, .inl c_scripts_steps)), (a_scripts_counts, .inl (E.2.1, 4, .inl c_scripts_counts)), (a_trial, .inr (6, [.ref a_trial_row, .ref a_trial_partners, .int c_trial_askedCount, .int c_trial_outcome, .ref a_trial_share, .ref a_trial_leftOver])), (a_trial_row, .inl (E.2.1, 81, .inl c_trial_row)), (a_trial_partners, .inl (E.2.1, 8, .inl c_trial_partners)), (a_trial_share, .inl (E.2.1, 2, .inl c_trial_share)), (a_trial_leftOver, .inl (E.2.1, 2, .inl c_trial_leftOver))] H := hP
  replace hD : va_D A [(a_, .inr (8, [.ref a_tape, .ref a_reader, .ref a_scripts, .ref a_now, .ref a_trial, .ref a_kept, .ref a_book, .ref a_keptBook, .ref a_history, .ref a_draws, .ref a_refused, .int c_hasImage])), (a_scripts, .inr (5, [.ref a_scripts_steps, .ref a_scripts_counts, .int c_scripts_held])), (a_scripts_steps, .inl (E.2.1, 192, .inl c_scripts_steps)), (a_scripts_counts, .inl (E.2.1, 4, .inl c_scripts_counts)), (a_trial, .inr (6, [.ref a_trial_row, .ref a_trial_partners, .int c_trial_askedCount, .int c_trial_outcome, .ref a_trial_share, .ref a_trial_leftOver])), (a_trial_row, .inl (E.2.1, 81, .inl c_trial_row)), (a_trial_partners, .inl (E.2.1, 8, .inl c_trial_partners)), (a_trial_share, .inl (E.2.1, 2, .inl c_trial_share)), (a_trial_leftOver, .inl (E.2.1, 2, .inl c_trial_leftOver))] := hD
  unfold F_X7_tryStep at hF
  refine lv_aload_n hx hb dX7_tryStep_0 rfl (lv_at hl 0 rfl) ?_
  refine gt_X7_2 (v := .ref a_scripts) hx hb hts i_f_X7_tryStep_X7 hown hK hP 0 rfl (hts (.fieldLink RX7 28 "HushWatch" "scripts" "LHushWatch$Scripts;") (List.mem_of_getElem? (i := 1) rfl)) rfl dX7_tryStep_1 ?_
  refine lv_iload_n hx hb dX7_tryStep_4 rfl (lv_at hl 1 rfl) ?_
  refine lv_iload_n hx hb dX7_tryStep_5 rfl (lv_at hl 2 rfl) ?_
  replace hF := bd1_s hF
  obtain ⟨r_1, hc_2, hF⟩ := hF
  have hPc : va_P E.1 vwCl (w_X4_sortOf E a_scripts a_scripts_steps a_scripts_counts c_scripts_held c_scripts_steps c_scripts_counts) H := hP.sub (ws' := [(a_scripts, .inr (5, [.ref a_scripts_steps, .ref a_scripts_counts, .int c_scripts_held])), (a_scripts_steps, .inl (E.2.1, 192, .inl c_scripts_steps)), (a_scripts_counts, .inl (E.2.1, 4, .inl c_scripts_counts))]) [1, 2, 3] rfl
  have hrc := va_recv hK hPc (ci := 5) (q0 := 0) rfl rfl
  refine pE_i (va_runV (As := [.int p1, .int p2]) (rest := [])  ⟨hx, hb, hml, hown, hts⟩ (f_X4_sortOf l E z9 (a_ := a_scripts) (a_steps := a_scripts_steps) (a_counts := a_scripts_counts) (p1 := p1) (p2 := p2) (c_held := c_scripts_held) (c_steps := c_scripts_steps) (c_counts := c_scripts_counts) hc_2) (cwV 2 hts g_f_X7_tryStep_f_X4_sortOf_299 rfl rfl rfl hd_X4_sortOf ⟨Nat.le_of_ble_eq_true rfl, Nat.le_of_ble_eq_true rfl⟩) ⟨qPZ.blind, hrc, (qPZ.pre ⟨hK, hN⟩ hPc hZ hS)⟩ rfl rfl hl.1 rfl (lv_room (Nat.le_of_ble_eq_true rfl)) dX7_tryStep_6 ⟨Nat.le_of_ble_eq_true rfl, Nat.le_of_ble_eq_true rfl⟩) ?_
  refine lv_istore_n (lv' := [(3, .int r_1), (0, .ref a_), (1, .int p1), (2, .int p2)]) hx hb dX7_tryStep_9 rfl hl (by decide) rfl (fun ls hl => ?_)
  refine lv_aload_n hx hb dX7_tryStep_10 rfl (lv_at hl 1 rfl) ?_
  refine gt_X7_2 (v := .ref a_scripts) hx hb hts i_f_X7_tryStep_X7 hown hK hP 0 rfl (hts (.fieldLink RX7 28 "HushWatch" "scripts" "LHushWatch$Scripts;") (List.mem_of_getElem? (i := 1) rfl)) rfl dX7_tryStep_11 ?_
  refine lv_iload_n hx hb dX7_tryStep_14 rfl (lv_at hl 2 rfl) ?_
  refine lv_iload_n hx hb dX7_tryStep_15 rfl (lv_at hl 3 rfl) ?_
  refine lv_iconst (v := 1) hx hb dX7_tryStep_16 (by decide) ?_
  replace hF := bd1_s hF
  obtain ⟨r_3, hc_4, hF⟩ := hF
  have hPc : va_P E.1 vwCl (w_X4_read E a_scripts a_scripts_steps a_scripts_counts c_scripts_held c_scripts_steps c_scripts_counts) H := hP.sub (ws' := [(a_scripts, .inr (5, [.ref a_scripts_steps, .ref a_scripts_counts, .int c_scripts_held])), (a_scripts_steps, .inl (E.2.1, 192, .inl c_scripts_steps)), (a_scripts_counts, .inl (E.2.1, 4, .inl c_scripts_counts))]) [1, 2, 3] rfl
  have hrc := va_recv hK hPc (ci := 5) (q0 := 0) rfl rfl
  refine pE_i (va_runV (As := [.int p1, .int p2, .int (1 : Int32)]) (rest := [])  ⟨hx, hb, hml, hown, hts⟩ (f_X4_read l E (a_ := a_scripts) (a_steps := a_scripts_steps) (a_counts := a_scripts_counts) (p1 := p1) (p2 := p2) (p3 := (1 : Int32)) (c_held := c_scripts_held) (c_steps := c_scripts_steps) (c_counts := c_scripts_counts) hc_4) (cwV 3 hts g_f_X7_tryStep_f_X4_read_288 rfl rfl rfl hd_X4_read ⟨Nat.le_of_ble_eq_true rfl, Nat.le_of_ble_eq_true rfl⟩) ⟨pP.blind, hrc, (pP.pre ⟨hK, hN⟩ hPc)⟩ rfl rfl hl.1 rfl (lv_room (Nat.le_of_ble_eq_true rfl)) dX7_tryStep_17 ⟨Nat.le_of_ble_eq_true rfl, Nat.le_of_ble_eq_true rfl⟩) ?_
  refine lv_istore (lv' := [(4, .int r_3), (3, .int r_1), (0, .ref a_), (1, .int p1), (2, .int p2)]) hx hb dX7_tryStep_20 hl (by decide) rfl (fun ls hl => ?_)
  refine lv_aload_n hx hb dX7_tryStep_22 rfl (lv_at hl 2 rfl) ?_
  refine gt_X7_2 (v := .ref a_scripts) hx hb hts i_f_X7_tryStep_X7 hown hK hP 0 rfl (hts (.fieldLink RX7 28 "HushWatch" "scripts" "LHushWatch$Scripts;") (List.mem_of_getElem? (i := 1) rfl)) rfl dX7_tryStep_23 ?_
  refine lv_iload_n hx hb dX7_tryStep_26 rfl (lv_at hl 3 rfl) ?_
  refine lv_iload_n hx hb dX7_tryStep_27 rfl (lv_at hl 4 rfl) ?_
  refine lv_iconst (v := 2) hx hb dX7_tryStep_28 (by decide) ?_
  replace hF := bd1_s hF
  obtain ⟨r_5, hc_6, hF⟩ := hF
  have hPc : va_P E.1 vwCl (w_X4_read E a_scripts a_scripts_steps a_scripts_counts c_scripts_held c_scripts_steps c_scripts_counts) H := hP.sub (ws' := [(a_scripts, .inr (5, [.ref a_scripts_steps, .ref a_scripts_counts, .int c_scripts_held])), (a_scripts_steps, .inl (E.2.1, 192, .inl c_scripts_steps)), (a_scripts_counts, .inl (E.2.1, 4, .inl c_scripts_counts))]) [1, 2, 3] rfl
  have hrc := va_recv hK hPc (ci := 5) (q0 := 0) rfl rfl
  refine pE_i (va_runV (As := [.int p1, .int p2, .int (2 : Int32)]) (rest := [])  ⟨hx, hb, hml, hown, hts⟩ (f_X4_read l E (a_ := a_scripts) (a_steps := a_scripts_steps) (a_counts := a_scripts_counts) (p1 := p1) (p2 := p2) (p3 := (2 : Int32)) (c_held := c_scripts_held) (c_steps := c_scripts_steps) (c_counts := c_scripts_counts) hc_6) (cwV 3 hts g_f_X7_tryStep_f_X4_read_288 rfl rfl rfl hd_X4_read ⟨Nat.le_of_ble_eq_true rfl, Nat.le_of_ble_eq_true rfl⟩) ⟨pP.blind, hrc, (pP.pre ⟨hK, hN⟩ hPc)⟩ rfl rfl hl.1 rfl (lv_room (Nat.le_of_ble_eq_true rfl)) dX7_tryStep_29 ⟨Nat.le_of_ble_eq_true rfl, Nat.le_of_ble_eq_true rfl⟩) ?_
  refine lv_istore (lv' := [(5, .int r_5), (4, .int r_3), (3, .int r_1), (0, .ref a_), (1, .int p1), (2, .int p2)]) hx hb dX7_tryStep_32 hl (by decide) rfl (fun ls hl => ?_)
  refine lv_aload_n hx hb dX7_tryStep_34 rfl (lv_at hl 3 rfl) ?_
  refine gt_X7_2 (v := .ref a_scripts) hx hb hts i_f_X7_tryStep_X7 hown hK hP 0 rfl (hts (.fieldLink RX7 28 "HushWatch" "scripts" "LHushWatch$Scripts;") (List.mem_of_getElem? (i := 1) rfl)) rfl dX7_tryStep_35 ?_
  refine lv_iload_n hx hb dX7_tryStep_38 rfl (lv_at hl 4 rfl) ?_
  refine lv_iload_n hx hb dX7_tryStep_39 rfl (lv_at hl 5 rfl) ?_
  refine lv_iconst (v := 3) hx hb dX7_tryStep_40 (by decide) ?_
  replace hF := bd1_s hF
  obtain ⟨r_7, hc_8, hF⟩ := hF
  have hPc : va_P E.1 vwCl (w_X4_read E a_scripts a_scripts_steps a_scripts_counts c_scripts_held c_scripts_steps c_scripts_counts) H := hP.sub (ws' := [(a_scripts, .inr (5, [.ref a_scripts_steps, .ref a_scripts_counts, .int c_scripts_held])), (a_scripts_steps, .inl (E.2.1, 192, .inl c_scripts_steps)), (a_scripts_counts, .inl (E.2.1, 4, .inl c_scripts_counts))]) [1, 2, 3] rfl
  have hrc := va_recv hK hPc (ci := 5) (q0 := 0) rfl rfl
  refine pE_i (va_runV (As := [.int p1, .int p2, .int (3 : Int32)]) (rest := [])  ⟨hx, hb, hml, hown, hts⟩ (f_X4_read l E (a_ := a_scripts) (a_steps := a_scripts_steps) (a_counts := a_scripts_counts) (p1 := p1) (p2 := p2) (p3 := (3 : Int32)) (c_held := c_scripts_held) (c_steps := c_scripts_steps) (c_counts := c_scripts_counts) hc_8) (cwV 3 hts g_f_X7_tryStep_f_X4_read_288 rfl rfl rfl hd_X4_read ⟨Nat.le_of_ble_eq_true rfl, Nat.le_of_ble_eq_true rfl⟩) ⟨pP.blind, hrc, (pP.pre ⟨hK, hN⟩ hPc)⟩ rfl rfl hl.1 rfl (lv_room (Nat.le_of_ble_eq_true rfl)) dX7_tryStep_41 ⟨Nat.le_of_ble_eq_true rfl, Nat.le_of_ble_eq_true rfl⟩) ?_
  refine lv_istore (lv' := [(6, .int r_7), (5, .int r_5), (4, .int r_3), (3, .int r_1), (0, .ref a_), (1, .int p1), (2, .int p2)]) hx hb dX7_tryStep_44 hl (by decide) rfl (fun ls hl => ?_)
  refine lv_aload_n hx hb dX7_tryStep_46 rfl (lv_at hl 4 rfl) ?_
  refine gt_X7_4 (v := .ref a_trial) hx hb hts i_f_X7_tryStep_X7 hown hK hP 0 rfl (hts (.fieldLink RX7 39 "HushWatch" "trial" "LHushWatch$State;") (List.mem_of_getElem? (i := 2) rfl)) rfl dX7_tryStep_47 ?_
  refine lv_iload_n hx hb dX7_tryStep_50 rfl (lv_at hl 3 rfl) ?_
  refine lv_iload hx hb dX7_tryStep_51 (lv_at hl 2 rfl) ?_
  refine lv_iload hx hb dX7_tryStep_53 (lv_at hl 1 rfl) ?_
  refine lv_iload hx hb dX7_tryStep_55 (lv_at hl 0 rfl) ?_
  replace hF := bd1_s hF
  obtain ⟨r_9, hc_10, hF⟩ := hF
  have hPc : va_P E.1 vwCl (w_X5_refusal E a_trial a_trial_row a_trial_partners a_trial_share a_trial_leftOver c_trial_askedCount c_trial_outcome c_trial_row) H := hP.sub (ws' := [(a_trial, .inr (6, [.ref a_trial_row, .ref a_trial_partners, .int c_trial_askedCount, .int c_trial_outcome, .ref a_trial_share, .ref a_trial_leftOver])), (a_trial_row, .inl (E.2.1, 81, .inl c_trial_row))]) [4, 5] rfl
  have hrc := va_recv hK hPc (ci := 6) (q0 := 0) rfl rfl
  refine pE_i (va_runV (As := [.int r_1, .int r_3, .int r_5, .int r_7]) (rest := [])  ⟨hx, hb, hml, hown, hts⟩ (f_X5_refusal l E (a_ := a_trial) (a_row := a_trial_row) (a_partners := a_trial_partners) (a_share := a_trial_share) (a_leftOver := a_trial_leftOver) (p1 := r_1) (p2 := r_3) (p3 := r_5) (p4 := r_7) (c_askedCount := c_trial_askedCount) (c_outcome := c_trial_outcome) (c_row := c_trial_row) hc_10) (cwV 4 hts g_f_X7_tryStep_f_X5_refusal_220 rfl rfl rfl hd_X5_refusal ⟨Nat.le_of_ble_eq_true rfl, Nat.le_of_ble_eq_true rfl⟩) ⟨pP.blind, hrc, (pP.pre ⟨hK, hN⟩ hPc)⟩ rfl rfl hl.1 rfl (lv_room (Nat.le_of_ble_eq_true rfl)) dX7_tryStep_57 ⟨Nat.le_of_ble_eq_true rfl, Nat.le_of_ble_eq_true rfl⟩) ?_
  refine lv_iconst (v := -1) hx hb dX7_tryStep_60 (by decide) ?_
  refine lv_icmp_eq (tgt := 66) hx hb dX7_tryStep_61 (by decide) (fun c_11 => ?_) (fun c_11 => ?_)
  ·
    replace hF := ip c_11 hF
    refine lv_aload_n hx hb dX7_tryStep_66 rfl (lv_at hl 4 rfl) ?_
    refine gt_X7_4 (v := .ref a_trial) hx hb hts i_f_X7_tryStep_X7 hown hK hP 0 rfl (hts (.fieldLink RX7 39 "HushWatch" "trial" "LHushWatch$State;") (List.mem_of_getElem? (i := 2) rfl)) rfl dX7_tryStep_67 ?_
    refine lv_iload_n hx hb dX7_tryStep_70 rfl (lv_at hl 3 rfl) ?_
    refine lv_iload hx hb dX7_tryStep_71 (lv_at hl 2 rfl) ?_
    refine lv_iload hx hb dX7_tryStep_73 (lv_at hl 1 rfl) ?_
    refine lv_iload hx hb dX7_tryStep_75 (lv_at hl 0 rfl) ?_
    replace hF := bd7_s hF
    obtain ⟨r_12, w_13, w_14, w_15, w_16, w_17, w_18, hc_19, hF⟩ := hF
    obtain ⟨hPc, hDc, hFc⟩ := wcut (wc := (w_X5_doAct E a_trial a_trial_row a_trial_partners a_trial_share a_trial_leftOver c_trial_askedCount c_trial_outcome c_trial_row c_trial_partners c_trial_share c_trial_leftOver)) hP hD hS hA [4, 5, 6, 7, 8] (by decide) rfl
    have hrc := va_recv hK hPc (ci := 6) (q0 := 0) rfl rfl
    refine cE_i (wc := (w_X5_doAct E a_trial a_trial_row a_trial_partners a_trial_share a_trial_leftOver c_trial_askedCount c_trial_outcome c_trial_row c_trial_partners c_trial_share c_trial_leftOver)) (wr := [(a_, .inr (8, [.ref a_tape, .ref a_reader, .ref a_scripts, .ref a_now, .ref a_trial, .ref a_kept, .ref a_book, .ref a_keptBook, .ref a_history, .ref a_draws, .ref a_refused, .int c_hasImage])), (a_scripts, .inr (5, [.ref a_scripts_steps, .ref a_scripts_counts, .int c_scripts_held])), (a_scripts_steps, .inl (E.2.1, 192, .inl c_scripts_steps)), (a_scripts_counts, .inl (E.2.1, 4, .inl c_scripts_counts))]) (w1 := (w_X5_doAct E a_trial a_trial_row a_trial_partners a_trial_share a_trial_leftOver w_15 w_16 w_13 w_14 w_17 w_18)) (va_runV (As := [.int r_1, .int r_3, .int r_5, .int r_7]) (rest := [])  ⟨hx, hb, hml, hown, hts⟩ (f_X5_doAct l E H.size K (a_ := a_trial) (a_row := a_trial_row) (a_partners := a_trial_partners) (a_share := a_trial_share) (a_leftOver := a_trial_leftOver) (p1 := r_1) (p2 := r_3) (p3 := r_5) (p4 := r_7) (c_askedCount := c_trial_askedCount) (c_outcome := c_trial_outcome) (c_row := c_trial_row) (c_partners := c_trial_partners) (c_share := c_trial_share) (c_leftOver := c_trial_leftOver) hc_19) (cwV 4 hts g_f_X7_tryStep_f_X5_doAct_241 rfl rfl rfl hd_X5_doAct ⟨Nat.le_of_ble_eq_true rfl, Nat.le_of_ble_eq_true rfl⟩) ⟨pW.blind, hrc, (pW.pre ⟨hK, hN⟩ hPc hDc)⟩ rfl rfl hl.1 rfl (lv_room (Nat.le_of_ble_eq_true rfl)) dX7_tryStep_77 ⟨Nat.le_of_ble_eq_true rfl, Nat.le_of_ble_eq_true rfl⟩) hS hFc hP hD [4, 5, 6, 7, 8] [0, 1, 2, 3] rfl rfl (by decide) (by decide) (fun H locs hP hD hS => ?_)
    replace hP : va_P E.1 vwCl [(a_, .inr (8, [.ref a_tape, .ref a_reader, .ref a_scripts, .ref a_now, .ref a_trial, .ref a_kept, .ref a_book, .ref a_keptBook, .ref a_history, .ref a_draws, .ref a_refused, .int c_hasImage])), (a_scripts, .inr (5, [.ref a_scripts_steps, .ref a_scripts_counts, .int c_scripts_held])), (a_scripts_steps, .inl (E.2.1, 192, .inl c_scripts_steps)), (a_scripts_counts, .inl (E.2.1, 4, .inl c_scripts_counts)), (a_trial, .inr (6, [.ref a_trial_row, .ref a_trial_partners, .int w_15, .int w_16, .ref a_trial_share, .ref a_trial_leftOver])), (a_trial_row, .inl (E.2.1, 81, .inl w_13)), (a_trial_partners, .inl (E.2.1, 8, .inl w_14)), (a_trial_share, .inl (E.2.1, 2, .inl w_17)), (a_trial_leftOver, .inl (E.2.1, 2, .inl w_18))] H := hP
    replace hD : va_D A [(a_, .inr (8, [.ref a_tape, .ref a_reader, .ref a_scripts, .ref a_now, .ref a_trial, .ref a_kept, .ref a_book, .ref a_keptBook, .ref a_history, .ref a_draws, .ref a_refused, .int c_hasImage])), (a_scripts, .inr (5, [.ref a_scripts_steps, .ref a_scripts_counts, .int c_scripts_held])), (a_scripts_steps, .inl (E.2.1, 192, .inl c_scripts_steps)), (a_scripts_counts, .inl (E.2.1, 4, .inl c_scripts_counts)), (a_trial, .inr (6, [.ref a_trial_row, .ref a_trial_partners, .int w_15, .int w_16, .ref a_trial_share, .ref a_trial_leftOver])), (a_trial_row, .inl (E.2.1, 81, .inl w_13)), (a_trial_partners, .inl (E.2.1, 8, .inl w_14)), (a_trial_share, .inl (E.2.1, 2, .inl w_17)), (a_trial_leftOver, .inl (E.2.1, 2, .inl w_18))] := hD
    refine lv_pop hx hb dX7_tryStep_80 rfl ?_
    refine lv_iconst (v := 1) hx hb dX7_tryStep_81 (by decide) ?_
    rw [hQ]
    have h9 := fin9 (P := fun u9 : Int32 × (Nat → Int32) × (Nat → Int32) × Int32 × Int32 × (Nat → Int32) × (Nat → Int32) => (1 : Int32) = u9.1 ∧ va_P E.1 vwCl (w_X7_tryStep E a_ a_tape a_reader a_scripts a_now a_trial a_kept a_book a_keptBook a_history a_draws a_refused a_scripts_steps a_scripts_counts a_trial_row a_trial_partners a_trial_share a_trial_leftOver c_hasImage c_scripts_held c_scripts_steps c_scripts_counts u9.2.2.2.1 u9.2.2.2.2.1 u9.2.1 u9.2.2.1 u9.2.2.2.2.2.1 u9.2.2.2.2.2.2) H ∧ va_D A (w_X7_tryStep E a_ a_tape a_reader a_scripts a_now a_trial a_kept a_book a_keptBook a_history a_draws a_refused a_scripts_steps a_scripts_counts a_trial_row a_trial_partners a_trial_share a_trial_leftOver c_hasImage c_scripts_held c_scripts_steps c_scripts_counts u9.2.2.2.1 u9.2.2.2.2.1 u9.2.1 u9.2.2.1 u9.2.2.2.2.2.1 u9.2.2.2.2.2.2)) hF ⟨rfl, hP, hD⟩
    obtain ⟨e9_0, hP9, hD9⟩ := h9
    exact W.zret (v := (1 : Int32)) hx hb hr rfl (fun tt ht hW => ⟨⟨_, (), rfl, ⟨e9_0, Or.inr rfl⟩, ht ▸ hP9, hD9⟩, hS.F ht⟩) hS.2.2 dX7_tryStep_82
  ·
    replace hF := inn c_11 hF
    refine lv_iconst (v := 0) hx hb dX7_tryStep_64 (by decide) ?_
    rw [hQ]
    have h9 := fin9 (P := fun u9 : Int32 × (Nat → Int32) × (Nat → Int32) × Int32 × Int32 × (Nat → Int32) × (Nat → Int32) => (0 : Int32) = u9.1 ∧ va_P E.1 vwCl (w_X7_tryStep E a_ a_tape a_reader a_scripts a_now a_trial a_kept a_book a_keptBook a_history a_draws a_refused a_scripts_steps a_scripts_counts a_trial_row a_trial_partners a_trial_share a_trial_leftOver c_hasImage c_scripts_held c_scripts_steps c_scripts_counts u9.2.2.2.1 u9.2.2.2.2.1 u9.2.1 u9.2.2.1 u9.2.2.2.2.2.1 u9.2.2.2.2.2.2) H ∧ va_D A (w_X7_tryStep E a_ a_tape a_reader a_scripts a_now a_trial a_kept a_book a_keptBook a_history a_draws a_refused a_scripts_steps a_scripts_counts a_trial_row a_trial_partners a_trial_share a_trial_leftOver c_hasImage c_scripts_held c_scripts_steps c_scripts_counts u9.2.2.2.1 u9.2.2.2.2.1 u9.2.1 u9.2.2.1 u9.2.2.2.2.2.1 u9.2.2.2.2.2.2)) hF ⟨rfl, hP, hD⟩
    obtain ⟨e9_0, hP9, hD9⟩ := h9
    exact W.zret (v := (0 : Int32)) hx hb hr rfl (fun tt ht hW => ⟨⟨_, (), rfl, ⟨e9_0, Or.inl rfl⟩, ht ▸ hP9, hD9⟩, hS.F ht⟩) hS.2.2 dX7_tryStep_65

def B_X7_run_56 (K : Nat) (p1 : Int32) (c_scripts_held : Int32) (c_scripts_steps : Nat → Int32) (c_scripts_counts : Nat → Int32) (x3 : Int32) (x4 : Int32) (c_trial_row : Nat → Int32) (c_trial_partners : Nat → Int32) (c_trial_askedCount : Int32) (c_trial_outcome : Int32) (c_trial_share : Nat → Int32) (c_trial_leftOver : Nat → Int32) : Option ((Int32 × (Nat → Int32) × (Nat → Int32) × Int32 × Int32 × (Nat → Int32) × (Nat → Int32)) ⊕ (Int32 × (Nat → Int32) × (Nat → Int32) × Int32 × Int32 × (Nat → Int32) × (Nat → Int32))) :=
  if x3 ≤ x4 then some (.inr (x4, c_trial_row, c_trial_partners, c_trial_askedCount, c_trial_outcome, c_trial_share, c_trial_leftOver)) else bd7 (F_X7_tryStep K p1 x4 c_scripts_steps c_scripts_counts c_scripts_held c_trial_row c_trial_partners c_trial_askedCount c_trial_outcome c_trial_share c_trial_leftOver) (fun r_16 w_17 w_18 w_19 w_20 w_21 w_22 => if r_16 = (0 : Int32) then some (.inr (x4, w_17, w_18, w_19, w_20, w_21, w_22)) else some (.inl (x4 + (1 : Int32), w_17, w_18, w_19, w_20, w_21, w_22)))
def J_X7_run_78 (p2 : Int32) (c_now_row : Nat → Int32) (x3 : Int32) (x4 : Int32) (c_trial_row : Nat → Int32) (c_trial_partners : Nat → Int32) (c_trial_askedCount : Int32) (c_trial_outcome : Int32) (c_trial_share : Nat → Int32) (c_trial_leftOver : Nat → Int32) : Option (Int32 × (Nat → Int32) × (Nat → Int32) × Int32 × Int32 × (Nat → Int32) × (Nat → Int32)) :=
  if p2 = (1 : Int32) then some ((c_trial_row 11) - (c_now_row 11), c_trial_row, c_trial_partners, c_trial_askedCount, c_trial_outcome, c_trial_share, c_trial_leftOver) else if x3 ≤ x4 then some ((-1 : Int32), c_trial_row, c_trial_partners, c_trial_askedCount, c_trial_outcome, c_trial_share, c_trial_leftOver) else some (x4, c_trial_row, c_trial_partners, c_trial_askedCount, c_trial_outcome, c_trial_share, c_trial_leftOver)
def F_X7_run (K : Nat) (p1 : Int32) (p2 : Int32) (c_scripts_steps : Nat → Int32) (c_scripts_counts : Nat → Int32) (c_scripts_held : Int32) (c_now_row : Nat → Int32) (c_trial_row : Nat → Int32) (c_trial_partners : Nat → Int32) (c_trial_askedCount : Int32) (c_trial_outcome : Int32) (c_trial_share : Nat → Int32) (c_trial_leftOver : Nat → Int32) : Option (Int32 × (Nat → Int32) × (Nat → Int32) × Int32 × Int32 × (Nat → Int32) × (Nat → Int32)) :=
  bd1 (F_X4_has p1 c_scripts_held) (fun r_1 => if r_1 = (0 : Int32) then some ((-100000000 : Int32), c_trial_row, c_trial_partners, c_trial_askedCount, c_trial_outcome, c_trial_share, c_trial_leftOver) else bd1 (F_X5_stands c_now_row) (fun r_5 => if r_5 = (0 : Int32) then some ((-100000000 : Int32), c_trial_row, c_trial_partners, c_trial_askedCount, c_trial_outcome, c_trial_share, c_trial_leftOver) else if p2 < (0 : Int32) then some ((-100000000 : Int32), c_trial_row, c_trial_partners, c_trial_askedCount, c_trial_outcome, c_trial_share, c_trial_leftOver) else if p2 ≤ (1 : Int32) then bd1 (F_X5_copyFrom c_trial_row c_now_row) (fun w_11 => bd1 (F_X4_stepsOf p1 c_scripts_counts c_scripts_held) (fun r_13 => bd7 (lpF (fun u9 : Int32 × (Nat → Int32) × (Nat → Int32) × Int32 × Int32 × (Nat → Int32) × (Nat → Int32) => B_X7_run_56 K p1 c_scripts_held c_scripts_steps c_scripts_counts r_13 u9.1 u9.2.1 u9.2.2.1 u9.2.2.2.1 u9.2.2.2.2.1 u9.2.2.2.2.2.1 u9.2.2.2.2.2.2) K ((0 : Int32), w_11, c_trial_partners, c_trial_askedCount, c_trial_outcome, c_trial_share, c_trial_leftOver)) (fun x4_26 c_trial_row_27 c_trial_partners_28 c_trial_askedCount_29 c_trial_outcome_30 c_trial_share_31 c_trial_leftOver_32 => J_X7_run_78 p2 c_now_row r_13 x4_26 c_trial_row_27 c_trial_partners_28 c_trial_askedCount_29 c_trial_outcome_30 c_trial_share_31 c_trial_leftOver_32))) else some ((-100000000 : Int32), c_trial_row, c_trial_partners, c_trial_askedCount, c_trial_outcome, c_trial_share, c_trial_leftOver)))
abbrev w_X7_run (E : EE) (a_ a_tape a_reader a_scripts a_now a_trial a_kept a_book a_keptBook a_history a_draws a_refused a_scripts_steps a_scripts_counts a_now_row a_now_partners a_now_share a_now_leftOver a_trial_row a_trial_partners a_trial_share a_trial_leftOver : Nat) (c_hasImage : Int32) (c_scripts_held : Int32) (c_scripts_steps : Nat → Int32) (c_scripts_counts : Nat → Int32) (c_now_askedCount : Int32) (c_now_outcome : Int32) (c_now_row : Nat → Int32) (c_trial_askedCount : Int32) (c_trial_outcome : Int32) (c_trial_row : Nat → Int32) (c_trial_partners : Nat → Int32) (c_trial_share : Nat → Int32) (c_trial_leftOver : Nat → Int32) : va_W := [(a_, .inr (8, [.ref a_tape, .ref a_reader, .ref a_scripts, .ref a_now, .ref a_trial, .ref a_kept, .ref a_book, .ref a_keptBook, .ref a_history, .ref a_draws, .ref a_refused, .int c_hasImage])), (a_scripts, .inr (5, [.ref a_scripts_steps, .ref a_scripts_counts, .int c_scripts_held])), (a_scripts_steps, .inl (E.2.1, 192, .inl c_scripts_steps)), (a_scripts_counts, .inl (E.2.1, 4, .inl c_scripts_counts)), (a_now, .inr (6, [.ref a_now_row, .ref a_now_partners, .int c_now_askedCount, .int c_now_outcome, .ref a_now_share, .ref a_now_leftOver])), (a_now_row, .inl (E.2.1, 81, .inl c_now_row)), (a_trial, .inr (6, [.ref a_trial_row, .ref a_trial_partners, .int c_trial_askedCount, .int c_trial_outcome, .ref a_trial_share, .ref a_trial_leftOver])), (a_trial_row, .inl (E.2.1, 81, .inl c_trial_row)), (a_trial_partners, .inl (E.2.1, 8, .inl c_trial_partners)), (a_trial_share, .inl (E.2.1, 2, .inl c_trial_share)), (a_trial_leftOver, .inl (E.2.1, 2, .inl c_trial_leftOver))]
def v_f_X7_run : List Cond := .code yX7_run cX7_run 5 (some .int) :: ([.fieldLink RX7 28 "HushWatch" "scripts" "LHushWatch$Scripts;", .constant RX7 113 (-100000000), .fieldLink RX7 35 "HushWatch" "now" "LHushWatch$State;", .fieldLink RX7 39 "HushWatch" "trial" "LHushWatch$State;", .methodLink RX7 290 yX4_has, .instanceMethod yX4_has, .selects RX4 yX4_has yX4_has, .initialized RX4, .methodLink RX7 110 yX5_stands, .instanceMethod yX5_stands, .selects RX5 yX5_stands yX5_stands, .initialized RX5, .methodLink RX7 237 yX5_copyFrom, .instanceMethod yX5_copyFrom, .selects RX5 yX5_copyFrom yX5_copyFrom, .methodLink RX7 293 yX4_stepsOf, .instanceMethod yX4_stepsOf, .selects RX4 yX4_stepsOf yX4_stepsOf, .methodLink RX7 296 yX7_tryStep, .instanceMethod yX7_tryStep, .selects RX7 yX7_tryStep yX7_tryStep, .initialized RX7] ++ (wsX70 ++ (v_f_X4_has ++ (v_f_X5_stands ++ (v_f_X5_copyFrom ++ (v_f_X4_stepsOf ++ (v_f_X7_tryStep ++ (wsX50 ++ ([])))))))))
theorem gw_f_X7_run : v_f_X7_run.all goodWord = true := by decide +kernel
theorem i_f_X7_run_X7 : ∀ w ∈ wsX70, w ∈ v_f_X7_run := fun _ h => List.mem_cons_of_mem _ (List.mem_append_right _ (List.mem_append_left _ h))
theorem i_f_X7_run_X5 : ∀ w ∈ wsX50, w ∈ v_f_X7_run := fun _ h => List.mem_cons_of_mem _ (List.mem_append_right _ (List.mem_append_right _ (List.mem_append_right _ (List.mem_append_right _ (List.mem_append_right _ (List.mem_append_right _ (List.mem_append_right _ (List.mem_append_left _ h))))))))
theorem g_f_X7_run_f_X4_has_290 : GoodIn v_f_X7_run (wsV RX7 290 RX4 yX4_has v_f_X4_has) := goodIn_app (goodIn_of _ (by decide +kernel)) (goodIn_sub (fun _ h => List.mem_cons_of_mem _ (List.mem_append_right _ (List.mem_append_right _ (List.mem_append_left _ h)))) gw_f_X4_has)
theorem g_f_X7_run_f_X5_stands_110 : GoodIn v_f_X7_run (wsV RX7 110 RX5 yX5_stands v_f_X5_stands) := goodIn_app (goodIn_of _ (by decide +kernel)) (goodIn_sub (fun _ h => List.mem_cons_of_mem _ (List.mem_append_right _ (List.mem_append_right _ (List.mem_append_right _ (List.mem_append_left _ h))))) gw_f_X5_stands)
theorem g_f_X7_run_f_X5_copyFrom_237 : GoodIn v_f_X7_run (wsV RX7 237 RX5 yX5_copyFrom v_f_X5_copyFrom) := goodIn_app (goodIn_of _ (by decide +kernel)) (goodIn_sub (fun _ h => List.mem_cons_of_mem _ (List.mem_append_right _ (List.mem_append_right _ (List.mem_append_right _ (List.mem_append_right _ (List.mem_append_left _ h)))))) gw_f_X5_copyFrom)
theorem g_f_X7_run_f_X4_stepsOf_293 : GoodIn v_f_X7_run (wsV RX7 293 RX4 yX4_stepsOf v_f_X4_stepsOf) := goodIn_app (goodIn_of _ (by decide +kernel)) (goodIn_sub (fun _ h => List.mem_cons_of_mem _ (List.mem_append_right _ (List.mem_append_right _ (List.mem_append_right _ (List.mem_append_right _ (List.mem_append_right _ (List.mem_append_left _ h))))))) gw_f_X4_stepsOf)
theorem g_f_X7_run_f_X7_tryStep_296 : GoodIn v_f_X7_run (wsV RX7 296 RX7 yX7_tryStep v_f_X7_tryStep) := goodIn_app (goodIn_of _ (by decide +kernel)) (goodIn_sub (fun _ h => List.mem_cons_of_mem _ (List.mem_append_right _ (List.mem_append_right _ (List.mem_append_right _ (List.mem_append_right _ (List.mem_append_right _ (List.mem_append_right _ (List.mem_append_left _ h)))))))) gw_f_X7_tryStep)
theorem hd_X7_run : yX7_run.cls = RX7 ∧ yX7_run.cls ≠ "java/lang/invoke/MethodHandle" ∧ yX7_run.cls ≠ "java/lang/invoke/VarHandle" ∧ (parseMethodDescriptor yX7_run.desc).map (fun d => d.parameters.length) = some 2 := by decide +kernel
set_option maxHeartbeats 4000000 in
set_option maxRecDepth 100000 in
theorem wb_X7_run_56 {p : Program} (l : Launch) {e : Env} {s : State} {m : MethodId} {below : List Frame} {meth : Method} {c : Code} {Q : State → Prop} (E : EE) (K : Nat) {z9 : Nat → Nat} {a_ a_tape a_reader a_scripts a_now a_trial a_kept a_book a_keptBook a_history a_draws a_refused a_scripts_steps a_scripts_counts a_now_row a_now_partners a_now_share a_now_leftOver a_trial_row a_trial_partners a_trial_share a_trial_leftOver : Nat} {p1 : Int32} {p2 : Int32} {c_hasImage : Int32} {c_scripts_held : Int32} {c_scripts_steps : Nat → Int32} {c_scripts_counts : Nat → Int32} {c_now_askedCount : Int32} {c_now_outcome : Int32} {c_now_row : Nat → Int32} {x3 : Int32} {x4 : Int32} {c_trial_row : Nat → Int32} {c_trial_partners : Nat → Int32} {c_trial_askedCount : Int32} {c_trial_outcome : Int32} {c_trial_share : Nat → Int32} {c_trial_leftOver : Nat → Int32} (hx : p.tables.exec = Jvm.exec) (hb : c.code = cX7_run) (hml : c.maxLocals = 5) (hown : s.vm.findClass RX7 = some m.cls) (hts : ∀ w ∈ v_f_X7_run, w.before #[Value.ref a_, Value.int p1, Value.int p2] s = true) (hK : va_K E.1 vwCl (TY E) s) (hN : NX s) {A : Nat → Prop} (hA : ∀ q : Nat, s.heap.size ≤ q → A q) (hZ : ZZ z9 A s s.heap) {xx : (Int32 × (Nat → Int32) × (Nat → Int32) × Int32 × Int32 × (Nat → Int32) × (Nat → Int32)) ⊕ (Int32 × (Nat → Int32) × (Nat → Int32) × Int32 × Int32 × (Nat → Int32) × (Nat → Int32))} (hC : ∀ (x4 : Int32), ∀ (c_trial_row : Nat → Int32), ∀ (c_trial_partners : Nat → Int32), ∀ (c_trial_askedCount : Int32), ∀ (c_trial_outcome : Int32), ∀ (c_trial_share : Nat → Int32), ∀ (c_trial_leftOver : Nat → Int32), xx = .inl (x4, c_trial_row, c_trial_partners, c_trial_askedCount, c_trial_outcome, c_trial_share, c_trial_leftOver) → ∀ (H : Heap) (locs : List Loc) (ls : Array Slot), va_P E.1 vwCl (w_X7_run E a_ a_tape a_reader a_scripts a_now a_trial a_kept a_book a_keptBook a_history a_draws a_refused a_scripts_steps a_scripts_counts a_now_row a_now_partners a_now_share a_now_leftOver a_trial_row a_trial_partners a_trial_share a_trial_leftOver c_hasImage c_scripts_held c_scripts_steps c_scripts_counts c_now_askedCount c_now_outcome c_now_row c_trial_askedCount c_trial_outcome c_trial_row c_trial_partners c_trial_share c_trial_leftOver) H → va_D A (w_X7_run E a_ a_tape a_reader a_scripts a_now a_trial a_kept a_book a_keptBook a_history a_draws a_refused a_scripts_steps a_scripts_counts a_now_row a_now_partners a_now_share a_now_leftOver a_trial_row a_trial_partners a_trial_share a_trial_leftOver c_hasImage c_scripts_held c_scripts_steps c_scripts_counts c_now_askedCount c_now_outcome c_now_row c_trial_askedCount c_trial_outcome c_trial_row c_trial_partners c_trial_share c_trial_leftOver) → va_S A s.heap H locs → lv_has ls 5 [(0, .ref a_), (1, .int p1), (2, .int p2), (3, .int x3), (4, .int x4)] → W p l e ({ frames := 6, cells := 0, slots := 0, locals := 150 } : Room) s m #[Value.ref a_, Value.int p1, Value.int p2] below meth c H locs 0 0 Q (F0 m 56 ls [])) (hE : ∀ (x4 : Int32), ∀ (c_trial_row : Nat → Int32), ∀ (c_trial_partners : Nat → Int32), ∀ (c_trial_askedCount : Int32), ∀ (c_trial_outcome : Int32), ∀ (c_trial_share : Nat → Int32), ∀ (c_trial_leftOver : Nat → Int32), xx = .inr (x4, c_trial_row, c_trial_partners, c_trial_askedCount, c_trial_outcome, c_trial_share, c_trial_leftOver) → ((∀ (H : Heap) (locs : List Loc) (ls : Array Slot), va_P E.1 vwCl (w_X7_run E a_ a_tape a_reader a_scripts a_now a_trial a_kept a_book a_keptBook a_history a_draws a_refused a_scripts_steps a_scripts_counts a_now_row a_now_partners a_now_share a_now_leftOver a_trial_row a_trial_partners a_trial_share a_trial_leftOver c_hasImage c_scripts_held c_scripts_steps c_scripts_counts c_now_askedCount c_now_outcome c_now_row c_trial_askedCount c_trial_outcome c_trial_row c_trial_partners c_trial_share c_trial_leftOver) H → va_D A (w_X7_run E a_ a_tape a_reader a_scripts a_now a_trial a_kept a_book a_keptBook a_history a_draws a_refused a_scripts_steps a_scripts_counts a_now_row a_now_partners a_now_share a_now_leftOver a_trial_row a_trial_partners a_trial_share a_trial_leftOver c_hasImage c_scripts_held c_scripts_steps c_scripts_counts c_now_askedCount c_now_outcome c_now_row c_trial_askedCount c_trial_outcome c_trial_row c_trial_partners c_trial_share c_trial_leftOver) → va_S A s.heap H locs → lv_has ls 5 [(0, .ref a_), (2, .int p2), (3, .int x3), (4, .int x4)] → W p l e ({ frames := 6, cells := 0, slots := 0, locals := 150 } : Room) s m #[Value.ref a_, Value.int p1, Value.int p2] below meth c H locs 0 0 Q (F0 m 78 ls [])))) (hF : B_X7_run_56 K p1 c_scripts_held c_scripts_steps c_scripts_counts x3 x4 c_trial_row c_trial_partners c_trial_askedCount c_trial_outcome c_trial_share c_trial_leftOver = some xx) : ∀ (H : Heap) (locs : List Loc) (ls : Array Slot), va_P E.1 vwCl (w_X7_run E a_ a_tape a_reader a_scripts a_now a_trial a_kept a_book a_keptBook a_history a_draws a_refused a_scripts_steps a_scripts_counts a_now_row a_now_partners a_now_share a_now_leftOver a_trial_row a_trial_partners a_trial_share a_trial_leftOver c_hasImage c_scripts_held c_scripts_steps c_scripts_counts c_now_askedCount c_now_outcome c_now_row c_trial_askedCount c_trial_outcome c_trial_row c_trial_partners c_trial_share c_trial_leftOver) H → va_D A (w_X7_run E a_ a_tape a_reader a_scripts a_now a_trial a_kept a_book a_keptBook a_history a_draws a_refused a_scripts_steps a_scripts_counts a_now_row a_now_partners a_now_share a_now_leftOver a_trial_row a_trial_partners a_trial_share a_trial_leftOver c_hasImage c_scripts_held c_scripts_steps c_scripts_counts c_now_askedCount c_now_outcome c_now_row c_trial_askedCount c_trial_outcome c_trial_row c_trial_partners c_trial_share c_trial_leftOver) → va_S A s.heap H locs → lv_has ls 5 [(0, .ref a_), (1, .int p1), (2, .int p2), (3, .int x3), (4, .int x4)] → W p l e ({ frames := 6, cells := 0, slots := 0, locals := 150 } : Room) s m #[Value.ref a_, Value.int p1, Value.int p2] below meth c H locs 0 0 Q (F0 m 56 ls []) := by
  unfold B_X7_run_56 at hF
  intro H locs ls hP hD hS hl
  replace hP : va_P E.1 vwCl [(a_, .inr (8, [.ref a_tape, .ref a_reader, .ref a_scripts, .ref a_now, .ref a_trial, .ref a_kept, .ref a_book, .ref a_keptBook, .ref a_history, .ref a_draws, .ref a_refused, .int c_hasImage])), (a_scripts, .inr (5, [.ref a_scripts_steps, .ref a_scripts_counts, .int c_scripts_held])), (a_scripts_steps, .inl (E.2.1, 192, .inl c_scripts_steps)), (a_scripts_counts, .inl (E.2.1, 4, .inl c_scripts_counts)), (a_now, .inr (6, [.ref a_now_row, .ref a_now_partners, .int c_now_askedCount, .int c_now_outcome, .ref a_now_share, .ref a_now_leftOver])), (a_now_row, .inl (E.2.1, 81, .inl c_now_row)), (a_trial, .inr (6, [.ref a_trial_row, .ref a_trial_partners, .int c_trial_askedCount, .int c_trial_outcome, .ref a_trial_share, .ref a_trial_leftOver])), (a_trial_row, .inl (E.2.1, 81, .inl c_trial_row)), (a_trial_partners, .inl (E.2.1, 8, .inl c_trial_partners)), (a_trial_share, .inl (E.2.1, 2, .inl c_trial_share)), (a_trial_leftOver, .inl (E.2.1, 2, .inl c_trial_leftOver))] H := hP
  replace hD : va_D A [(a_, .inr (8, [.ref a_tape, .ref a_reader, .ref a_scripts, .ref a_now, .ref a_trial, .ref a_kept, .ref a_book, .ref a_keptBook, .ref a_history, .ref a_draws, .ref a_refused, .int c_hasImage])), (a_scripts, .inr (5, [.ref a_scripts_steps, .ref a_scripts_counts, .int c_scripts_held])), (a_scripts_steps, .inl (E.2.1, 192, .inl c_scripts_steps)), (a_scripts_counts, .inl (E.2.1, 4, .inl c_scripts_counts)), (a_now, .inr (6, [.ref a_now_row, .ref a_now_partners, .int c_now_askedCount, .int c_now_outcome, .ref a_now_share, .ref a_now_leftOver])), (a_now_row, .inl (E.2.1, 81, .inl c_now_row)), (a_trial, .inr (6, [.ref a_trial_row, .ref a_trial_partners, .int c_trial_askedCount, .int c_trial_outcome, .ref a_trial_share, .ref a_trial_leftOver])), (a_trial_row, .inl (E.2.1, 81, .inl c_trial_row)), (a_trial_partners, .inl (E.2.1, 8, .inl c_trial_partners)), (a_trial_share, .inl (E.2.1, 2, .inl c_trial_share)), (a_trial_leftOver, .inl (E.2.1, 2, .inl c_trial_leftOver))] := hD
  refine lv_iload hx hb dX7_run_56 (lv_at hl 4 rfl) ?_
  refine lv_iload_n hx hb dX7_run_58 rfl (lv_at hl 3 rfl) ?_
  refine lv_icmp_ge (tgt := 78) hx hb dX7_run_59 (by decide) (fun c_15 => ?_) (fun c_15 => ?_)
  ·
    replace hF := ip c_15 hF
    cases hF
    exact hE x4 c_trial_row c_trial_partners c_trial_askedCount c_trial_outcome c_trial_share c_trial_leftOver rfl H locs ls (hP.sub [0, 1, 2, 3, 4, 5, 6, 7, 8, 9, 10] rfl) (hD.sub [0, 1, 2, 3, 4, 5, 6, 7, 8, 9, 10] (by decide) rfl) hS (lv_sub hl [0, 2, 3, 4] rfl)
  ·
    replace hF := inn c_15 hF
    refine lv_aload_n hx hb dX7_run_62 rfl (lv_at hl 0 rfl) ?_
    refine lv_iload_n hx hb dX7_run_63 rfl (lv_at hl 1 rfl) ?_
    refine lv_iload hx hb dX7_run_64 (lv_at hl 4 rfl) ?_
    replace hF := bd7_s hF
    obtain ⟨r_16, w_17, w_18, w_19, w_20, w_21, w_22, hc_23, hF⟩ := hF
    obtain ⟨hPc, hDc, hFc⟩ := wcut (wc := (w_X7_tryStep E a_ a_tape a_reader a_scripts a_now a_trial a_kept a_book a_keptBook a_history a_draws a_refused a_scripts_steps a_scripts_counts a_trial_row a_trial_partners a_trial_share a_trial_leftOver c_hasImage c_scripts_held c_scripts_steps c_scripts_counts c_trial_askedCount c_trial_outcome c_trial_row c_trial_partners c_trial_share c_trial_leftOver)) hP hD hS hA [0, 1, 2, 3, 6, 7, 8, 9, 10] (by decide) rfl
    have hrc := va_recv hK hPc (ci := 8) (q0 := 0) rfl rfl
    refine cE_z (wc := (w_X7_tryStep E a_ a_tape a_reader a_scripts a_now a_trial a_kept a_book a_keptBook a_history a_draws a_refused a_scripts_steps a_scripts_counts a_trial_row a_trial_partners a_trial_share a_trial_leftOver c_hasImage c_scripts_held c_scripts_steps c_scripts_counts c_trial_askedCount c_trial_outcome c_trial_row c_trial_partners c_trial_share c_trial_leftOver)) (wr := [(a_now, .inr (6, [.ref a_now_row, .ref a_now_partners, .int c_now_askedCount, .int c_now_outcome, .ref a_now_share, .ref a_now_leftOver])), (a_now_row, .inl (E.2.1, 81, .inl c_now_row))]) (w1 := (w_X7_tryStep E a_ a_tape a_reader a_scripts a_now a_trial a_kept a_book a_keptBook a_history a_draws a_refused a_scripts_steps a_scripts_counts a_trial_row a_trial_partners a_trial_share a_trial_leftOver c_hasImage c_scripts_held c_scripts_steps c_scripts_counts w_19 w_20 w_17 w_18 w_21 w_22)) (va_runV (As := [.int p1, .int x4]) (rest := [])  ⟨hx, hb, hml, hown, hts⟩ (f_X7_tryStep l E H.size K z9 (a_ := a_) (a_tape := a_tape) (a_reader := a_reader) (a_scripts := a_scripts) (a_now := a_now) (a_trial := a_trial) (a_kept := a_kept) (a_book := a_book) (a_keptBook := a_keptBook) (a_history := a_history) (a_draws := a_draws) (a_refused := a_refused) (a_scripts_steps := a_scripts_steps) (a_scripts_counts := a_scripts_counts) (a_trial_row := a_trial_row) (a_trial_partners := a_trial_partners) (a_trial_share := a_trial_share) (a_trial_leftOver := a_trial_leftOver) (p1 := p1) (p2 := x4) (c_hasImage := c_hasImage) (c_scripts_held := c_scripts_held) (c_scripts_steps := c_scripts_steps) (c_scripts_counts := c_scripts_counts) (c_trial_askedCount := c_trial_askedCount) (c_trial_outcome := c_trial_outcome) (c_trial_row := c_trial_row) (c_trial_partners := c_trial_partners) (c_trial_share := c_trial_share) (c_trial_leftOver := c_trial_leftOver) hc_23) (cwV 2 hts g_f_X7_run_f_X7_tryStep_296 rfl rfl rfl hd_X7_tryStep ⟨Nat.le_of_ble_eq_true rfl, Nat.le_of_ble_eq_true rfl⟩) ⟨qWZ.blind, hrc, (qWZ.pre ⟨hK, hN⟩ hPc hDc hZ hS hFc)⟩ rfl rfl hl.1 rfl (lv_room (Nat.le_of_ble_eq_true rfl)) dX7_run_66 ⟨Nat.le_of_ble_eq_true rfl, Nat.le_of_ble_eq_true rfl⟩) hS hFc hP hD [0, 1, 2, 3, 6, 7, 8, 9, 10] [4, 5] rfl rfl (by decide) (by decide) (fun hb_24 H locs hP hD hS => ?_)
    replace hP : va_P E.1 vwCl [(a_now, .inr (6, [.ref a_now_row, .ref a_now_partners, .int c_now_askedCount, .int c_now_outcome, .ref a_now_share, .ref a_now_leftOver])), (a_now_row, .inl (E.2.1, 81, .inl c_now_row)), (a_, .inr (8, [.ref a_tape, .ref a_reader, .ref a_scripts, .ref a_now, .ref a_trial, .ref a_kept, .ref a_book, .ref a_keptBook, .ref a_history, .ref a_draws, .ref a_refused, .int c_hasImage])), (a_scripts, .inr (5, [.ref a_scripts_steps, .ref a_scripts_counts, .int c_scripts_held])), (a_scripts_steps, .inl (E.2.1, 192, .inl c_scripts_steps)), (a_scripts_counts, .inl (E.2.1, 4, .inl c_scripts_counts)), (a_trial, .inr (6, [.ref a_trial_row, .ref a_trial_partners, .int w_19, .int w_20, .ref a_trial_share, .ref a_trial_leftOver])), (a_trial_row, .inl (E.2.1, 81, .inl w_17)), (a_trial_partners, .inl (E.2.1, 8, .inl w_18)), (a_trial_share, .inl (E.2.1, 2, .inl w_21)), (a_trial_leftOver, .inl (E.2.1, 2, .inl w_22))] H := hP
    replace hD : va_D A [(a_now, .inr (6, [.ref a_now_row, .ref a_now_partners, .int c_now_askedCount, .int c_now_outcome, .ref a_now_share, .ref a_now_leftOver])), (a_now_row, .inl (E.2.1, 81, .inl c_now_row)), (a_, .inr (8, [.ref a_tape, .ref a_reader, .ref a_scripts, .ref a_now, .ref a_trial, .ref a_kept, .ref a_book, .ref a_keptBook, .ref a_history, .ref a_draws, .ref a_refused, .int c_hasImage])), (a_scripts, .inr (5, [.ref a_scripts_steps, .ref a_scripts_counts, .int c_scripts_held])), (a_scripts_steps, .inl (E.2.1, 192, .inl c_scripts_steps)), (a_scripts_counts, .inl (E.2.1, 4, .inl c_scripts_counts)), (a_trial, .inr (6, [.ref a_trial_row, .ref a_trial_partners, .int w_19, .int w_20, .ref a_trial_share, .ref a_trial_leftOver])), (a_trial_row, .inl (E.2.1, 81, .inl w_17)), (a_trial_partners, .inl (E.2.1, 8, .inl w_18)), (a_trial_share, .inl (E.2.1, 2, .inl w_21)), (a_trial_leftOver, .inl (E.2.1, 2, .inl w_22))] := hD
    refine lv_if_eq (tgt := 78) hx hb dX7_run_69 (by decide) (fun c_25 => ?_) (fun c_25 => ?_)
    ·
      replace hF := ip c_25 hF
      cases hF
      exact hE x4 w_17 w_18 w_19 w_20 w_21 w_22 rfl H locs ls (hP.sub [2, 3, 4, 5, 0, 1, 6, 7, 8, 9, 10] rfl) (hD.sub [2, 3, 4, 5, 0, 1, 6, 7, 8, 9, 10] (by decide) rfl) hS (lv_sub hl [0, 2, 3, 4] rfl)
    ·
      replace hF := inn c_25 hF
      refine lv_iinc (v := x4 + (1 : Int32)) (lv' := [(4, .int (x4 + (1 : Int32))), (0, .ref a_), (1, .int p1), (2, .int p2), (3, .int x3)]) hx hb dX7_run_72 hl (k := 4) rfl (rfl) (by decide) rfl (fun ls hl => ?_)
      refine lv_goto (tgt := 56) hx hb dX7_run_75 (by decide) ?_
      cases hF
      exact hC (x4 + (1 : Int32)) w_17 w_18 w_19 w_20 w_21 w_22 rfl H locs ls (hP.sub [2, 3, 4, 5, 0, 1, 6, 7, 8, 9, 10] rfl) (hD.sub [2, 3, 4, 5, 0, 1, 6, 7, 8, 9, 10] (by decide) rfl) hS (lv_sub hl [1, 2, 3, 4, 0] rfl)

set_option maxHeartbeats 4000000 in
set_option maxRecDepth 100000 in
theorem lw_X7_run_56 {p : Program} (l : Launch) {e : Env} {s : State} {m : MethodId} {below : List Frame} {meth : Method} {c : Code} {Q : State → Prop} (E : EE) (K : Nat) {z9 : Nat → Nat} {a_ a_tape a_reader a_scripts a_now a_trial a_kept a_book a_keptBook a_history a_draws a_refused a_scripts_steps a_scripts_counts a_now_row a_now_partners a_now_share a_now_leftOver a_trial_row a_trial_partners a_trial_share a_trial_leftOver : Nat} {p1 : Int32} {p2 : Int32} {c_hasImage : Int32} {c_scripts_held : Int32} {c_scripts_steps : Nat → Int32} {c_scripts_counts : Nat → Int32} {c_now_askedCount : Int32} {c_now_outcome : Int32} {c_now_row : Nat → Int32} {x3 : Int32} (hx : p.tables.exec = Jvm.exec) (hb : c.code = cX7_run) (hml : c.maxLocals = 5) (hown : s.vm.findClass RX7 = some m.cls) (hts : ∀ w ∈ v_f_X7_run, w.before #[Value.ref a_, Value.int p1, Value.int p2] s = true) (hK : va_K E.1 vwCl (TY E) s) (hN : NX s) {A : Nat → Prop} (hA : ∀ q : Nat, s.heap.size ≤ q → A q) (hZ : ZZ z9 A s s.heap) (j9 : Nat) (x4 : Int32) (c_trial_row : Nat → Int32) (c_trial_partners : Nat → Int32) (c_trial_askedCount : Int32) (c_trial_outcome : Int32) (c_trial_share : Nat → Int32) (c_trial_leftOver : Nat → Int32) (x4' : Int32) (c_trial_row' : Nat → Int32) (c_trial_partners' : Nat → Int32) (c_trial_askedCount' : Int32) (c_trial_outcome' : Int32) (c_trial_share' : Nat → Int32) (c_trial_leftOver' : Nat → Int32) (hL : lpF (fun u9 : Int32 × (Nat → Int32) × (Nat → Int32) × Int32 × Int32 × (Nat → Int32) × (Nat → Int32) => B_X7_run_56 K p1 c_scripts_held c_scripts_steps c_scripts_counts x3 u9.1 u9.2.1 u9.2.2.1 u9.2.2.2.1 u9.2.2.2.2.1 u9.2.2.2.2.2.1 u9.2.2.2.2.2.2) j9 (x4, c_trial_row, c_trial_partners, c_trial_askedCount, c_trial_outcome, c_trial_share, c_trial_leftOver) = some (x4', c_trial_row', c_trial_partners', c_trial_askedCount', c_trial_outcome', c_trial_share', c_trial_leftOver')) (hX : (∀ (H : Heap) (locs : List Loc) (ls : Array Slot), va_P E.1 vwCl (w_X7_run E a_ a_tape a_reader a_scripts a_now a_trial a_kept a_book a_keptBook a_history a_draws a_refused a_scripts_steps a_scripts_counts a_now_row a_now_partners a_now_share a_now_leftOver a_trial_row a_trial_partners a_trial_share a_trial_leftOver c_hasImage c_scripts_held c_scripts_steps c_scripts_counts c_now_askedCount c_now_outcome c_now_row c_trial_askedCount' c_trial_outcome' c_trial_row' c_trial_partners' c_trial_share' c_trial_leftOver') H → va_D A (w_X7_run E a_ a_tape a_reader a_scripts a_now a_trial a_kept a_book a_keptBook a_history a_draws a_refused a_scripts_steps a_scripts_counts a_now_row a_now_partners a_now_share a_now_leftOver a_trial_row a_trial_partners a_trial_share a_trial_leftOver c_hasImage c_scripts_held c_scripts_steps c_scripts_counts c_now_askedCount c_now_outcome c_now_row c_trial_askedCount' c_trial_outcome' c_trial_row' c_trial_partners' c_trial_share' c_trial_leftOver') → va_S A s.heap H locs → lv_has ls 5 [(0, .ref a_), (2, .int p2), (3, .int x3), (4, .int x4')] → W p l e ({ frames := 6, cells := 0, slots := 0, locals := 150 } : Room) s m #[Value.ref a_, Value.int p1, Value.int p2] below meth c H locs 0 0 Q (F0 m 78 ls []))) : ∀ (H : Heap) (locs : List Loc) (ls : Array Slot), va_P E.1 vwCl (w_X7_run E a_ a_tape a_reader a_scripts a_now a_trial a_kept a_book a_keptBook a_history a_draws a_refused a_scripts_steps a_scripts_counts a_now_row a_now_partners a_now_share a_now_leftOver a_trial_row a_trial_partners a_trial_share a_trial_leftOver c_hasImage c_scripts_held c_scripts_steps c_scripts_counts c_now_askedCount c_now_outcome c_now_row c_trial_askedCount c_trial_outcome c_trial_row c_trial_partners c_trial_share c_trial_leftOver) H → va_D A (w_X7_run E a_ a_tape a_reader a_scripts a_now a_trial a_kept a_book a_keptBook a_history a_draws a_refused a_scripts_steps a_scripts_counts a_now_row a_now_partners a_now_share a_now_leftOver a_trial_row a_trial_partners a_trial_share a_trial_leftOver c_hasImage c_scripts_held c_scripts_steps c_scripts_counts c_now_askedCount c_now_outcome c_now_row c_trial_askedCount c_trial_outcome c_trial_row c_trial_partners c_trial_share c_trial_leftOver) → va_S A s.heap H locs → lv_has ls 5 [(0, .ref a_), (1, .int p1), (2, .int p2), (3, .int x3), (4, .int x4)] → W p l e ({ frames := 6, cells := 0, slots := 0, locals := 150 } : Room) s m #[Value.ref a_, Value.int p1, Value.int p2] below meth c H locs 0 0 Q (F0 m 56 ls []) := by
  exact lp_rule (P := (fun u9 : Int32 × (Nat → Int32) × (Nat → Int32) × Int32 × Int32 × (Nat → Int32) × (Nat → Int32) => ∀ (H : Heap) (locs : List Loc) (ls : Array Slot), va_P E.1 vwCl (w_X7_run E a_ a_tape a_reader a_scripts a_now a_trial a_kept a_book a_keptBook a_history a_draws a_refused a_scripts_steps a_scripts_counts a_now_row a_now_partners a_now_share a_now_leftOver a_trial_row a_trial_partners a_trial_share a_trial_leftOver c_hasImage c_scripts_held c_scripts_steps c_scripts_counts c_now_askedCount c_now_outcome c_now_row u9.2.2.2.1 u9.2.2.2.2.1 u9.2.1 u9.2.2.1 u9.2.2.2.2.2.1 u9.2.2.2.2.2.2) H → va_D A (w_X7_run E a_ a_tape a_reader a_scripts a_now a_trial a_kept a_book a_keptBook a_history a_draws a_refused a_scripts_steps a_scripts_counts a_now_row a_now_partners a_now_share a_now_leftOver a_trial_row a_trial_partners a_trial_share a_trial_leftOver c_hasImage c_scripts_held c_scripts_steps c_scripts_counts c_now_askedCount c_now_outcome c_now_row u9.2.2.2.1 u9.2.2.2.2.1 u9.2.1 u9.2.2.1 u9.2.2.2.2.2.1 u9.2.2.2.2.2.2) → va_S A s.heap H locs → lv_has ls 5 [(0, .ref a_), (1, .int p1), (2, .int p2), (3, .int x3), (4, .int u9.1)] → W p l e ({ frames := 6, cells := 0, slots := 0, locals := 150 } : Room) s m #[Value.ref a_, Value.int p1, Value.int p2] below meth c H locs 0 0 Q (F0 m 56 ls []))) (R := (fun r9 : Int32 × (Nat → Int32) × (Nat → Int32) × Int32 × Int32 × (Nat → Int32) × (Nat → Int32) => (∀ (H : Heap) (locs : List Loc) (ls : Array Slot), va_P E.1 vwCl (w_X7_run E a_ a_tape a_reader a_scripts a_now a_trial a_kept a_book a_keptBook a_history a_draws a_refused a_scripts_steps a_scripts_counts a_now_row a_now_partners a_now_share a_now_leftOver a_trial_row a_trial_partners a_trial_share a_trial_leftOver c_hasImage c_scripts_held c_scripts_steps c_scripts_counts c_now_askedCount c_now_outcome c_now_row r9.2.2.2.1 r9.2.2.2.2.1 r9.2.1 r9.2.2.1 r9.2.2.2.2.2.1 r9.2.2.2.2.2.2) H → va_D A (w_X7_run E a_ a_tape a_reader a_scripts a_now a_trial a_kept a_book a_keptBook a_history a_draws a_refused a_scripts_steps a_scripts_counts a_now_row a_now_partners a_now_share a_now_leftOver a_trial_row a_trial_partners a_trial_share a_trial_leftOver c_hasImage c_scripts_held c_scripts_steps c_scripts_counts c_now_askedCount c_now_outcome c_now_row r9.2.2.2.1 r9.2.2.2.2.1 r9.2.1 r9.2.2.1 r9.2.2.2.2.2.1 r9.2.2.2.2.2.2) → va_S A s.heap H locs → lv_has ls 5 [(0, .ref a_), (2, .int p2), (3, .int x3), (4, .int r9.1)] → W p l e ({ frames := 6, cells := 0, slots := 0, locals := 150 } : Room) s m #[Value.ref a_, Value.int p1, Value.int p2] below meth c H locs 0 0 Q (F0 m 78 ls [])))) (fun u9 xx hF hC hE => wb_X7_run_56 l E K (p1 := p1) (p2 := p2) (c_hasImage := c_hasImage) (c_scripts_held := c_scripts_held) (c_scripts_steps := c_scripts_steps) (c_scripts_counts := c_scripts_counts) (c_now_askedCount := c_now_askedCount) (c_now_outcome := c_now_outcome) (c_now_row := c_now_row) (x3 := x3) (x4 := u9.1) (c_trial_row := u9.2.1) (c_trial_partners := u9.2.2.1) (c_trial_askedCount := u9.2.2.2.1) (c_trial_outcome := u9.2.2.2.2.1) (c_trial_share := u9.2.2.2.2.2.1) (c_trial_leftOver := u9.2.2.2.2.2.2) hx hb hml hown hts hK hN hA hZ (fun x4 c_trial_row c_trial_partners c_trial_askedCount c_trial_outcome c_trial_share c_trial_leftOver q9 => hC _ q9) (fun x4 c_trial_row c_trial_partners c_trial_askedCount c_trial_outcome c_trial_share c_trial_leftOver q9 => hE _ q9) hF) j9 (x4, c_trial_row, c_trial_partners, c_trial_askedCount, c_trial_outcome, c_trial_share, c_trial_leftOver) (x4', c_trial_row', c_trial_partners', c_trial_askedCount', c_trial_outcome', c_trial_share', c_trial_leftOver') hL hX

set_option maxHeartbeats 4000000 in
set_option maxRecDepth 100000 in
theorem j_X7_run_78 {p : Program} (l : Launch) {e : Env} {s : State} {m : MethodId} {below : List Frame} {meth : Method} {c : Code} {Q : State → Prop} (E : EE) (K : Nat) {z9 : Nat → Nat} {a_ a_tape a_reader a_scripts a_now a_trial a_kept a_book a_keptBook a_history a_draws a_refused a_scripts_steps a_scripts_counts a_now_row a_now_partners a_now_share a_now_leftOver a_trial_row a_trial_partners a_trial_share a_trial_leftOver : Nat} {p1 : Int32} {p2 : Int32} {c_hasImage : Int32} {c_scripts_held : Int32} {c_scripts_steps : Nat → Int32} {c_scripts_counts : Nat → Int32} {c_now_askedCount : Int32} {c_now_outcome : Int32} {c_now_row : Nat → Int32} {x3 : Int32} {x4 : Int32} {c_trial_row : Nat → Int32} {c_trial_partners : Nat → Int32} {c_trial_askedCount : Int32} {c_trial_outcome : Int32} {c_trial_share : Nat → Int32} {c_trial_leftOver : Nat → Int32} (hx : p.tables.exec = Jvm.exec) (hb : c.code = cX7_run) (hml : c.maxLocals = 5) (hown : s.vm.findClass RX7 = some m.cls) (hts : ∀ w ∈ v_f_X7_run, w.before #[Value.ref a_, Value.int p1, Value.int p2] s = true) (hK : va_K E.1 vwCl (TY E) s) (hN : NX s) {A : Nat → Prop} (hA : ∀ q : Nat, s.heap.size ≤ q → A q) (hZ : ZZ z9 A s s.heap) {rr : Int32} {n_trial_row : Nat → Int32} {n_trial_partners : Nat → Int32} {n_trial_askedCount : Int32} {n_trial_outcome : Int32} {n_trial_share : Nat → Int32} {n_trial_leftOver : Nat → Int32} (hr : meth.sig.returnType = (some .int)) (hlocks : meth.locks = false) (hQ : Q = MQ below (va_Qi (fun (q : Int32) (_u : Unit) => q = rr) (fun (_u : Unit) tt => va_P E.1 vwCl (w_X7_run E a_ a_tape a_reader a_scripts a_now a_trial a_kept a_book a_keptBook a_history a_draws a_refused a_scripts_steps a_scripts_counts a_now_row a_now_partners a_now_share a_now_leftOver a_trial_row a_trial_partners a_trial_share a_trial_leftOver c_hasImage c_scripts_held c_scripts_steps c_scripts_counts c_now_askedCount c_now_outcome c_now_row n_trial_askedCount n_trial_outcome n_trial_row n_trial_partners n_trial_share n_trial_leftOver) tt.heap ∧ va_D A (w_X7_run E a_ a_tape a_reader a_scripts a_now a_trial a_kept a_book a_keptBook a_history a_draws a_refused a_scripts_steps a_scripts_counts a_now_row a_now_partners a_now_share a_now_leftOver a_trial_row a_trial_partners a_trial_share a_trial_leftOver c_hasImage c_scripts_held c_scripts_steps c_scripts_counts c_now_askedCount c_now_outcome c_now_row n_trial_askedCount n_trial_outcome n_trial_row n_trial_partners n_trial_share n_trial_leftOver)) A) #[Value.ref a_, Value.int p1, Value.int p2] s 0 0 A) (hF : J_X7_run_78 p2 c_now_row x3 x4 c_trial_row c_trial_partners c_trial_askedCount c_trial_outcome c_trial_share c_trial_leftOver = some (rr, n_trial_row, n_trial_partners, n_trial_askedCount, n_trial_outcome, n_trial_share, n_trial_leftOver)) : ∀ (H : Heap) (locs : List Loc) (ls : Array Slot), va_P E.1 vwCl (w_X7_run E a_ a_tape a_reader a_scripts a_now a_trial a_kept a_book a_keptBook a_history a_draws a_refused a_scripts_steps a_scripts_counts a_now_row a_now_partners a_now_share a_now_leftOver a_trial_row a_trial_partners a_trial_share a_trial_leftOver c_hasImage c_scripts_held c_scripts_steps c_scripts_counts c_now_askedCount c_now_outcome c_now_row c_trial_askedCount c_trial_outcome c_trial_row c_trial_partners c_trial_share c_trial_leftOver) H → va_D A (w_X7_run E a_ a_tape a_reader a_scripts a_now a_trial a_kept a_book a_keptBook a_history a_draws a_refused a_scripts_steps a_scripts_counts a_now_row a_now_partners a_now_share a_now_leftOver a_trial_row a_trial_partners a_trial_share a_trial_leftOver c_hasImage c_scripts_held c_scripts_steps c_scripts_counts c_now_askedCount c_now_outcome c_now_row c_trial_askedCount c_trial_outcome c_trial_row c_trial_partners c_trial_share c_trial_leftOver) → va_S A s.heap H locs → lv_has ls 5 [(0, .ref a_), (2, .int p2), (3, .int x3), (4, .int x4)] → W p l e ({ frames := 6, cells := 0, slots := 0, locals := 150 } : Room) s m #[Value.ref a_, Value.int p1, Value.int p2] below meth c H locs 0 0 Q (F0 m 78 ls []) := by
  unfold J_X7_run_78 at hF
  intro H locs ls hP hD hS hl
  replace hP : va_P E.1 vwCl [(a_, .inr (8, [.ref a_tape, .ref a_reader, .ref a_scripts, .ref a_now, .ref a_trial, .ref a_kept, .ref a_book, .ref a_keptBook, .ref a_history, .ref a_draws, .ref a_refused, .int c_hasImage])), (a_scripts, .inr (5, [.ref a_scripts_steps, .ref a_scripts_counts, .int c_scripts_held])), (a_scripts_steps, .inl (E.2.1, 192, .inl c_scripts_steps)), (a_scripts_counts, .inl (E.2.1, 4, .inl c_scripts_counts)), (a_now, .inr (6, [.ref a_now_row, .ref a_now_partners, .int c_now_askedCount, .int c_now_outcome, .ref a_now_share, .ref a_now_leftOver])), (a_now_row, .inl (E.2.1, 81, .inl c_now_row)), (a_trial, .inr (6, [.ref a_trial_row, .ref a_trial_partners, .int c_trial_askedCount, .int c_trial_outcome, .ref a_trial_share, .ref a_trial_leftOver])), (a_trial_row, .inl (E.2.1, 81, .inl c_trial_row)), (a_trial_partners, .inl (E.2.1, 8, .inl c_trial_partners)), (a_trial_share, .inl (E.2.1, 2, .inl c_trial_share)), (a_trial_leftOver, .inl (E.2.1, 2, .inl c_trial_leftOver))] H := hP
  replace hD : va_D A [(a_, .inr (8, [.ref a_tape, .ref a_reader, .ref a_scripts, .ref a_now, .ref a_trial, .ref a_kept, .ref a_book, .ref a_keptBook, .ref a_history, .ref a_draws, .ref a_refused, .int c_hasImage])), (a_scripts, .inr (5, [.ref a_scripts_steps, .ref a_scripts_counts, .int c_scripts_held])), (a_scripts_steps, .inl (E.2.1, 192, .inl c_scripts_steps)), (a_scripts_counts, .inl (E.2.1, 4, .inl c_scripts_counts)), (a_now, .inr (6, [.ref a_now_row, .ref a_now_partners, .int c_now_askedCount, .int c_now_outcome, .ref a_now_share, .ref a_now_leftOver])), (a_now_row, .inl (E.2.1, 81, .inl c_now_row)), (a_trial, .inr (6, [.ref a_trial_row, .ref a_trial_partners, .int c_trial_askedCount, .int c_trial_outcome, .ref a_trial_share, .ref a_trial_leftOver])), (a_trial_row, .inl (E.2.1, 81, .inl c_trial_row)), (a_trial_partners, .inl (E.2.1, 8, .inl c_trial_partners)), (a_trial_share, .inl (E.2.1, 2, .inl c_trial_share)), (a_trial_leftOver, .inl (E.2.1, 2, .inl c_trial_leftOver))] := hD
  refine lv_iload_n hx hb dX7_run_78 rfl (lv_at hl 1 rfl) ?_
  refine lv_iconst (v := 1) hx hb dX7_run_79 (by decide) ?_
  refine lv_icmp_ne (tgt := 105) hx hb dX7_run_80 (by decide) (fun c_34 => ?_) (fun c_34 => ?_)
  ·
    replace hF := inn c_34 hF
    refine lv_iload hx hb dX7_run_105 (lv_at hl 3 rfl) ?_
    refine lv_iload_n hx hb dX7_run_107 rfl (lv_at hl 2 rfl) ?_
    refine lv_icmp_ge (tgt := 116) hx hb dX7_run_108 (by decide) (fun c_35 => ?_) (fun c_35 => ?_)
    ·
      replace hF := ip c_35 hF
      refine lv_iconst (v := -1) hx hb dX7_run_116 (by decide) ?_
      rw [hQ]
      have h9 := fin9 (P := fun u9 : Int32 × (Nat → Int32) × (Nat → Int32) × Int32 × Int32 × (Nat → Int32) × (Nat → Int32) => (-1 : Int32) = u9.1 ∧ va_P E.1 vwCl (w_X7_run E a_ a_tape a_reader a_scripts a_now a_trial a_kept a_book a_keptBook a_history a_draws a_refused a_scripts_steps a_scripts_counts a_now_row a_now_partners a_now_share a_now_leftOver a_trial_row a_trial_partners a_trial_share a_trial_leftOver c_hasImage c_scripts_held c_scripts_steps c_scripts_counts c_now_askedCount c_now_outcome c_now_row u9.2.2.2.1 u9.2.2.2.2.1 u9.2.1 u9.2.2.1 u9.2.2.2.2.2.1 u9.2.2.2.2.2.2) H ∧ va_D A (w_X7_run E a_ a_tape a_reader a_scripts a_now a_trial a_kept a_book a_keptBook a_history a_draws a_refused a_scripts_steps a_scripts_counts a_now_row a_now_partners a_now_share a_now_leftOver a_trial_row a_trial_partners a_trial_share a_trial_leftOver c_hasImage c_scripts_held c_scripts_steps c_scripts_counts c_now_askedCount c_now_outcome c_now_row u9.2.2.2.1 u9.2.2.2.2.1 u9.2.1 u9.2.2.1 u9.2.2.2.2.2.1 u9.2.2.2.2.2.2)) hF ⟨rfl, hP, hD⟩
      obtain ⟨e9_0, hP9, hD9⟩ := h9
      exact W.iret (v := (-1 : Int32)) hx hb hr (fun tt ht hW => ⟨⟨_, (), rfl, e9_0, ht ▸ hP9, hD9⟩, hS.F ht⟩) hS.2.2 dX7_run_117
    ·
      replace hF := inn c_35 hF
      refine lv_iload hx hb dX7_run_111 (lv_at hl 3 rfl) ?_
      refine lv_goto (tgt := 117) hx hb dX7_run_113 (by decide) ?_
      rw [hQ]
      have h9 := fin9 (P := fun u9 : Int32 × (Nat → Int32) × (Nat → Int32) × Int32 × Int32 × (Nat → Int32) × (Nat → Int32) => x4 = u9.1 ∧ va_P E.1 vwCl (w_X7_run E a_ a_tape a_reader a_scripts a_now a_trial a_kept a_book a_keptBook a_history a_draws a_refused a_scripts_steps a_scripts_counts a_now_row a_now_partners a_now_share a_now_leftOver a_trial_row a_trial_partners a_trial_share a_trial_leftOver c_hasImage c_scripts_held c_scripts_steps c_scripts_counts c_now_askedCount c_now_outcome c_now_row u9.2.2.2.1 u9.2.2.2.2.1 u9.2.1 u9.2.2.1 u9.2.2.2.2.2.1 u9.2.2.2.2.2.2) H ∧ va_D A (w_X7_run E a_ a_tape a_reader a_scripts a_now a_trial a_kept a_book a_keptBook a_history a_draws a_refused a_scripts_steps a_scripts_counts a_now_row a_now_partners a_now_share a_now_leftOver a_trial_row a_trial_partners a_trial_share a_trial_leftOver c_hasImage c_scripts_held c_scripts_steps c_scripts_counts c_now_askedCount c_now_outcome c_now_row u9.2.2.2.1 u9.2.2.2.2.1 u9.2.1 u9.2.2.1 u9.2.2.2.2.2.1 u9.2.2.2.2.2.2)) hF ⟨rfl, hP, hD⟩
      obtain ⟨e9_0, hP9, hD9⟩ := h9
      exact W.iret (v := x4) hx hb hr (fun tt ht hW => ⟨⟨_, (), rfl, e9_0, ht ▸ hP9, hD9⟩, hS.F ht⟩) hS.2.2 dX7_run_117
  ·
    replace hF := ip c_34 hF
    refine lv_aload_n hx hb dX7_run_83 rfl (lv_at hl 0 rfl) ?_
    refine gt_X7_4 (v := .ref a_trial) hx hb hts i_f_X7_run_X7 hown hK hP 0 rfl (hts (.fieldLink RX7 39 "HushWatch" "trial" "LHushWatch$State;") (List.mem_of_getElem? (i := 4) rfl)) rfl dX7_run_84 ?_
    refine va_getN (D := E.1) (ci := 6) (v := .ref a_trial_row) (C := RX5) (T := TX5) (N := 6) hx hb hts i_f_X7_run_X5 hown hK hP 6 rfl rfl 0 (by decide) (nx hN 12 rfl) (fun _ h9 => h9) rfl dX7_run_87 ?_
    refine lv_bipush (v := 11) hx hb dX7_run_90 (by decide) ?_
    refine va_iald hx hb hK hP 7 0 rfl rfl (vin rfl) dX7_run_92 ?_
    refine W.eq (g2 := F0 m 93 ls [.int (c_trial_row 11)]) rfl ?_
    refine lv_aload_n hx hb dX7_run_93 rfl (lv_at hl 0 rfl) ?_
    refine gt_X7_3 (v := .ref a_now) hx hb hts i_f_X7_run_X7 hown hK hP 0 rfl (hts (.fieldLink RX7 35 "HushWatch" "now" "LHushWatch$State;") (List.mem_of_getElem? (i := 3) rfl)) rfl dX7_run_94 ?_
    refine va_getN (D := E.1) (ci := 6) (v := .ref a_now_row) (C := RX5) (T := TX5) (N := 6) hx hb hts i_f_X7_run_X5 hown hK hP 4 rfl rfl 0 (by decide) (nx hN 12 rfl) (fun _ h9 => h9) rfl dX7_run_97 ?_
    refine lv_bipush (v := 11) hx hb dX7_run_100 (by decide) ?_
    refine va_iald hx hb hK hP 5 0 rfl rfl (vin rfl) dX7_run_102 ?_
    refine W.eq (g2 := F0 m 103 ls [.int (c_now_row 11), .int (c_trial_row 11)]) rfl ?_
    refine lv_isub hx hb dX7_run_103 ?_
    rw [hQ]
    have h9 := fin9 (P := fun u9 : Int32 × (Nat → Int32) × (Nat → Int32) × Int32 × Int32 × (Nat → Int32) × (Nat → Int32) => ((c_trial_row 11) - (c_now_row 11)) = u9.1 ∧ va_P E.1 vwCl (w_X7_run E a_ a_tape a_reader a_scripts a_now a_trial a_kept a_book a_keptBook a_history a_draws a_refused a_scripts_steps a_scripts_counts a_now_row a_now_partners a_now_share a_now_leftOver a_trial_row a_trial_partners a_trial_share a_trial_leftOver c_hasImage c_scripts_held c_scripts_steps c_scripts_counts c_now_askedCount c_now_outcome c_now_row u9.2.2.2.1 u9.2.2.2.2.1 u9.2.1 u9.2.2.1 u9.2.2.2.2.2.1 u9.2.2.2.2.2.2) H ∧ va_D A (w_X7_run E a_ a_tape a_reader a_scripts a_now a_trial a_kept a_book a_keptBook a_history a_draws a_refused a_scripts_steps a_scripts_counts a_now_row a_now_partners a_now_share a_now_leftOver a_trial_row a_trial_partners a_trial_share a_trial_leftOver c_hasImage c_scripts_held c_scripts_steps c_scripts_counts c_now_askedCount c_now_outcome c_now_row u9.2.2.2.1 u9.2.2.2.2.1 u9.2.1 u9.2.2.1 u9.2.2.2.2.2.1 u9.2.2.2.2.2.2)) hF ⟨rfl, hP, hD⟩
    obtain ⟨e9_0, hP9, hD9⟩ := h9
    exact W.iret (v := (c_trial_row 11) - (c_now_row 11)) hx hb hr (fun tt ht hW => ⟨⟨_, (), rfl, e9_0, ht ▸ hP9, hD9⟩, hS.F ht⟩) hS.2.2 dX7_run_104

set_option maxHeartbeats 4000000 in
set_option maxRecDepth 100000 in
theorem f_X7_run (l : Launch) (E : EE) (sz : Nat) (K : Nat) (z9 : Nat → Nat) {a_ a_tape a_reader a_scripts a_now a_trial a_kept a_book a_keptBook a_history a_draws a_refused a_scripts_steps a_scripts_counts a_now_row a_now_partners a_now_share a_now_leftOver a_trial_row a_trial_partners a_trial_share a_trial_leftOver : Nat} {p1 : Int32} {p2 : Int32} {c_hasImage : Int32} {c_scripts_held : Int32} {c_scripts_steps : Nat → Int32} {c_scripts_counts : Nat → Int32} {c_now_askedCount : Int32} {c_now_outcome : Int32} {c_now_row : Nat → Int32} {c_trial_askedCount : Int32} {c_trial_outcome : Int32} {c_trial_row : Nat → Int32} {c_trial_partners : Nat → Int32} {c_trial_share : Nat → Int32} {c_trial_leftOver : Nat → Int32} {rr : Int32} {n_trial_row : Nat → Int32} {n_trial_partners : Nat → Int32} {n_trial_askedCount : Int32} {n_trial_outcome : Int32} {n_trial_share : Nat → Int32} {n_trial_leftOver : Nat → Int32} (hF : F_X7_run K p1 p2 c_scripts_steps c_scripts_counts c_scripts_held c_now_row c_trial_row c_trial_partners c_trial_askedCount c_trial_outcome c_trial_share c_trial_leftOver = some (rr, n_trial_row, n_trial_partners, n_trial_askedCount, n_trial_outcome, n_trial_share, n_trial_leftOver)) : Met l yX7_run v_f_X7_run (({ frames := 6, cells := 0, slots := 0, locals := 150 } : Room)) (va_Pc [.ref a_, .int p1, .int p2] (qWZ E z9 sz (w_X7_run E a_ a_tape a_reader a_scripts a_now a_trial a_kept a_book a_keptBook a_history a_draws a_refused a_scripts_steps a_scripts_counts a_now_row a_now_partners a_now_share a_now_leftOver a_trial_row a_trial_partners a_trial_share a_trial_leftOver c_hasImage c_scripts_held c_scripts_steps c_scripts_counts c_now_askedCount c_now_outcome c_now_row c_trial_askedCount c_trial_outcome c_trial_row c_trial_partners c_trial_share c_trial_leftOver))) (va_Qi (fun (q : Int32) (_u : Unit) => q = rr) (fun (_u : Unit) tt => va_P E.1 vwCl (w_X7_run E a_ a_tape a_reader a_scripts a_now a_trial a_kept a_book a_keptBook a_history a_draws a_refused a_scripts_steps a_scripts_counts a_now_row a_now_partners a_now_share a_now_leftOver a_trial_row a_trial_partners a_trial_share a_trial_leftOver c_hasImage c_scripts_held c_scripts_steps c_scripts_counts c_now_askedCount c_now_outcome c_now_row n_trial_askedCount n_trial_outcome n_trial_row n_trial_partners n_trial_share n_trial_leftOver) tt.heap ∧ va_D (va_A (w_X7_run E a_ a_tape a_reader a_scripts a_now a_trial a_kept a_book a_keptBook a_history a_draws a_refused a_scripts_steps a_scripts_counts a_now_row a_now_partners a_now_share a_now_leftOver a_trial_row a_trial_partners a_trial_share a_trial_leftOver c_hasImage c_scripts_held c_scripts_steps c_scripts_counts c_now_askedCount c_now_outcome c_now_row c_trial_askedCount c_trial_outcome c_trial_row c_trial_partners c_trial_share c_trial_leftOver) sz) (w_X7_run E a_ a_tape a_reader a_scripts a_now a_trial a_kept a_book a_keptBook a_history a_draws a_refused a_scripts_steps a_scripts_counts a_now_row a_now_partners a_now_share a_now_leftOver a_trial_row a_trial_partners a_trial_share a_trial_leftOver c_hasImage c_scripts_held c_scripts_steps c_scripts_counts c_now_askedCount c_now_outcome c_now_row n_trial_askedCount n_trial_outcome n_trial_row n_trial_partners n_trial_share n_trial_leftOver)) (va_A (w_X7_run E a_ a_tape a_reader a_scripts a_now a_trial a_kept a_book a_keptBook a_history a_draws a_refused a_scripts_steps a_scripts_counts a_now_row a_now_partners a_now_share a_now_leftOver a_trial_row a_trial_partners a_trial_share a_trial_leftOver c_hasImage c_scripts_held c_scripts_steps c_scripts_counts c_now_askedCount c_now_outcome c_now_row c_trial_askedCount c_trial_outcome c_trial_row c_trial_partners c_trial_share c_trial_leftOver) sz)) 0 0 (va_A (w_X7_run E a_ a_tape a_reader a_scripts a_now a_trial a_kept a_book a_keptBook a_history a_draws a_refused a_scripts_steps a_scripts_counts a_now_row a_now_partners a_now_share a_now_leftOver a_trial_row a_trial_partners a_trial_share a_trial_leftOver c_hasImage c_scripts_held c_scripts_steps c_scripts_counts c_now_askedCount c_now_outcome c_now_row c_trial_askedCount c_trial_outcome c_trial_row c_trial_partners c_trial_share c_trial_leftOver) sz) := by
  refine Met.ofW (cc := cX7_run) (maxL := 5) (ret := (some .int)) (by decide) rfl ?_
  intro p e s m args below meth c s₁ B hml hv
  obtain ⟨rfl, hsz, ⟨hK, hN⟩, hP, hD0, hZ⟩ := hv
  have hx := B.exec
  have hb := B.bytes
  have hr := B.returns
  have hts := atoms_spec (ws := v_f_X7_run) B.pre
  have hown : s.vm.findClass RX7 = some m.cls := own_of hd_X7_run.1 (findClass_of_methodNamed B.named)
  have hlocks : meth.locks = false := B.notSynchronized
  subst hsz
  have hD := hD0.self (sz := s.heap.size)
  generalize hAe : va_A (w_X7_run E a_ a_tape a_reader a_scripts a_now a_trial a_kept a_book a_keptBook a_history a_draws a_refused a_scripts_steps a_scripts_counts a_now_row a_now_partners a_now_share a_now_leftOver a_trial_row a_trial_partners a_trial_share a_trial_leftOver c_hasImage c_scripts_held c_scripts_steps c_scripts_counts c_now_askedCount c_now_outcome c_now_row c_trial_askedCount c_trial_outcome c_trial_row c_trial_partners c_trial_share c_trial_leftOver) s.heap.size = A at hD hZ ⊢
  have hA : ∀ q : Nat, s.heap.size ≤ q → A q := fun q h => by rw [← hAe]; exact Or.inr h
  have hS : va_S A s.heap s.heap [] := va_S.rf
  have hl := lv_entry ([.ref a_, .int p1, .int p2]) (n := 5) (Nat.le_of_ble_eq_true rfl)
  rw [lg_entry_eq]
  generalize (lg_sl ([.ref a_, .int p1, .int p2]) ++ List.replicate (5 - (lg_sl ([.ref a_, .int p1, .int p2])).length) Slot.unset).toArray = ls at hl ⊢
  have hl : lv_has ls 5 [(0, .ref a_), (1, .int p1), (2, .int p2)] := hl
  obtain ⟨Q, hQ⟩ : ∃ Q : State → Prop, Q = MQ below (va_Qi (fun (q : Int32) (_u : Unit) => q = rr) (fun (_u : Unit) tt => va_P E.1 vwCl (w_X7_run E a_ a_tape a_reader a_scripts a_now a_trial a_kept a_book a_keptBook a_history a_draws a_refused a_scripts_steps a_scripts_counts a_now_row a_now_partners a_now_share a_now_leftOver a_trial_row a_trial_partners a_trial_share a_trial_leftOver c_hasImage c_scripts_held c_scripts_steps c_scripts_counts c_now_askedCount c_now_outcome c_now_row n_trial_askedCount n_trial_outcome n_trial_row n_trial_partners n_trial_share n_trial_leftOver) tt.heap ∧ va_D A (w_X7_run E a_ a_tape a_reader a_scripts a_now a_trial a_kept a_book a_keptBook a_history a_draws a_refused a_scripts_steps a_scripts_counts a_now_row a_now_partners a_now_share a_now_leftOver a_trial_row a_trial_partners a_trial_share a_trial_leftOver c_hasImage c_scripts_held c_scripts_steps c_scripts_counts c_now_askedCount c_now_outcome c_now_row n_trial_askedCount n_trial_outcome n_trial_row n_trial_partners n_trial_share n_trial_leftOver)) A) #[Value.ref a_, Value.int p1, Value.int p2] s 0 0 A := ⟨_, rfl⟩
  rw [← hQ]
  change W p l e ({ frames := 6, cells := 0, slots := 0, locals := 150 } : Room) s m #[Value.ref a_, Value.int p1, Value.int p2] below meth c s.heap [] 0 0 Q (F0 m 0 ls [])
  suffices hh9 : ∀ (H : Heap) (locs : List Loc), va_P E.1 vwCl (w_X7_run E a_ a_tape a_reader a_scripts a_now a_trial a_kept a_book a_keptBook a_history a_draws a_refused a_scripts_steps a_scripts_counts a_now_row a_now_partners a_now_share a_now_leftOver a_trial_row a_trial_partners a_trial_share a_trial_leftOver c_hasImage c_scripts_held c_scripts_steps c_scripts_counts c_now_askedCount c_now_outcome c_now_row c_trial_askedCount c_trial_outcome c_trial_row c_trial_partners c_trial_share c_trial_leftOver) H → va_D A (w_X7_run E a_ a_tape a_reader a_scripts a_now a_trial a_kept a_book a_keptBook a_history a_draws a_refused a_scripts_steps a_scripts_counts a_now_row a_now_partners a_now_share a_now_leftOver a_trial_row a_trial_partners a_trial_share a_trial_leftOver c_hasImage c_scripts_held c_scripts_steps c_scripts_counts c_now_askedCount c_now_outcome c_now_row c_trial_askedCount c_trial_outcome c_trial_row c_trial_partners c_trial_share c_trial_leftOver) → va_S A s.heap H locs → W p l e ({ frames := 6, cells := 0, slots := 0, locals := 150 } : Room) s m #[Value.ref a_, Value.int p1, Value.int p2] below meth c H locs 0 0 Q (F0 m 0 ls []) from hh9 s.heap [] hP hD hS
  clear hP hD hS
  intro H locs hP hD hS
  replace hP : va_P E.1 vwCl [(a_, .inr (8, [.ref a_tape, .ref a_reader, .ref a_scripts, .ref a_now, .ref a_trial, .ref a_kept, .ref a_book, .ref a_keptBook, .ref a_history, .ref a_draws, .ref a_refused, .int c_hasImage])), (a_scripts, .inr (5, [.ref a_scripts_steps, .ref a_scripts_counts, .int c_scripts_held])), (a_scripts_steps, .inl (E.2.1, 192, .inl c_scripts_steps)), (a_scripts_counts, .inl (E.2.1, 4, .inl c_scripts_counts)), (a_now, .inr (6, [.ref a_now_row, .ref a_now_partners, .int c_now_askedCount, .int c_now_outcome, .ref a_now_share, .ref a_now_leftOver])), (a_now_row, .inl (E.2.1, 81, .inl c_now_row)), (a_trial, .inr (6, [.ref a_trial_row, .ref a_trial_partners, .int c_trial_askedCount, .int c_trial_outcome, .ref a_trial_share, .ref a_trial_leftOver])), (a_trial_row, .inl (E.2.1, 81, .inl c_trial_row)), (a_trial_partners, .inl (E.2.1, 8, .inl c_trial_partners)), (a_trial_share, .inl (E.2.1, 2, .inl c_trial_share)), (a_trial_leftOver, .inl (E.2.1, 2, .inl c_trial_leftOver))] H := hP
  replace hD : va_D A [(a_, .inr (8, [.ref a_tape, .ref a_reader, .ref a_scripts, .ref a_now, .ref a_trial, .ref a_kept, .ref a_book, .ref a_keptBook, .ref a_history, .ref a_draws, .ref a_refused, .int c_hasImage])), (a_scripts, .inr (5, [.ref a_scripts_steps, .ref a_scripts_counts, .int c_scripts_held])), (a_scripts_steps, .inl (E.2.1, 192, .inl c_scripts_steps)), (a_scripts_counts, .inl (E.2.1, 4, .inl c_scripts_counts)), (a_now, .inr (6, [.ref a_now_row, .ref a_now_partners, .int c_now_askedCount, .int c_now_outcome, .ref a_now_share, .ref a_now_leftOver])), (a_now_row, .inl (E.2.1, 81, .inl c_now_row)), (a_trial, .inr (6, [.ref a_trial_row, .ref a_trial_partners, .int c_trial_askedCount, .int c_trial_outcome, .ref a_trial_share, .ref a_trial_leftOver])), (a_trial_row, .inl (E.2.1, 81, .inl c_trial_row)), (a_trial_partners, .inl (E.2.1, 8, .inl c_trial_partners)), (a_trial_share, .inl (E.2.1, 2, .inl c_trial_share)), (a_trial_leftOver, .inl (E.2.1, 2, .inl c_trial_leftOver))] := hD
  unfold F_X7_run at hF
  refine lv_aload_n hx hb dX7_run_0 rfl (lv_at hl 0 rfl) ?_
  refine gt_X7_2 (v := .ref a_scripts) hx hb hts i_f_X7_run_X7 hown hK hP 0 rfl (hts (.fieldLink RX7 28 "HushWatch" "scripts" "LHushWatch$Scripts;") (List.mem_of_getElem? (i := 1) rfl)) rfl dX7_run_1 ?_
  refine lv_iload_n hx hb dX7_run_4 rfl (lv_at hl 1 rfl) ?_
  replace hF := bd1_s hF
  obtain ⟨r_1, hc_2, hF⟩ := hF
  have hPc : va_P E.1 vwCl (w_X4_has E a_scripts a_scripts_steps a_scripts_counts c_scripts_held) H := hP.sub (ws' := [(a_scripts, .inr (5, [.ref a_scripts_steps, .ref a_scripts_counts, .int c_scripts_held]))]) [1] rfl
  have hrc := va_recv hK hPc (ci := 5) (q0 := 0) rfl rfl
  refine pE_z (va_runV (As := [.int p1]) (rest := [])  ⟨hx, hb, hml, hown, hts⟩ (f_X4_has l E (a_ := a_scripts) (a_steps := a_scripts_steps) (a_counts := a_scripts_counts) (p1 := p1) (c_held := c_scripts_held) hc_2) (cwV 1 hts g_f_X7_run_f_X4_has_290 rfl rfl rfl hd_X4_has ⟨Nat.le_of_ble_eq_true rfl, Nat.le_of_ble_eq_true rfl⟩) ⟨pP.blind, hrc, (pP.pre ⟨hK, hN⟩ hPc)⟩ rfl rfl hl.1 rfl (lv_room (Nat.le_of_ble_eq_true rfl)) dX7_run_5 ⟨Nat.le_of_ble_eq_true rfl, Nat.le_of_ble_eq_true rfl⟩) (fun hb_3 => ?_)
  refine lv_if_eq (tgt := 30) hx hb dX7_run_8 (by decide) (fun c_4 => ?_) (fun c_4 => ?_)
  ·
    replace hF := ip c_4 hF
    refine lv_ldc (v := -100000000) hx hb hown (hts (.constant RX7 113 (-100000000)) (List.mem_of_getElem? (i := 2) rfl)) dX7_run_30 ?_
    rw [hQ]
    have h9 := fin9 (P := fun u9 : Int32 × (Nat → Int32) × (Nat → Int32) × Int32 × Int32 × (Nat → Int32) × (Nat → Int32) => (-100000000 : Int32) = u9.1 ∧ va_P E.1 vwCl (w_X7_run E a_ a_tape a_reader a_scripts a_now a_trial a_kept a_book a_keptBook a_history a_draws a_refused a_scripts_steps a_scripts_counts a_now_row a_now_partners a_now_share a_now_leftOver a_trial_row a_trial_partners a_trial_share a_trial_leftOver c_hasImage c_scripts_held c_scripts_steps c_scripts_counts c_now_askedCount c_now_outcome c_now_row u9.2.2.2.1 u9.2.2.2.2.1 u9.2.1 u9.2.2.1 u9.2.2.2.2.2.1 u9.2.2.2.2.2.2) H ∧ va_D A (w_X7_run E a_ a_tape a_reader a_scripts a_now a_trial a_kept a_book a_keptBook a_history a_draws a_refused a_scripts_steps a_scripts_counts a_now_row a_now_partners a_now_share a_now_leftOver a_trial_row a_trial_partners a_trial_share a_trial_leftOver c_hasImage c_scripts_held c_scripts_steps c_scripts_counts c_now_askedCount c_now_outcome c_now_row u9.2.2.2.1 u9.2.2.2.2.1 u9.2.1 u9.2.2.1 u9.2.2.2.2.2.1 u9.2.2.2.2.2.2)) hF ⟨rfl, hP, hD⟩
    obtain ⟨e9_0, hP9, hD9⟩ := h9
    exact W.iret (v := (-100000000 : Int32)) hx hb hr (fun tt ht hW => ⟨⟨_, (), rfl, e9_0, ht ▸ hP9, hD9⟩, hS.F ht⟩) hS.2.2 dX7_run_32
  ·
    replace hF := inn c_4 hF
    refine lv_aload_n hx hb dX7_run_11 rfl (lv_at hl 0 rfl) ?_
    refine gt_X7_3 (v := .ref a_now) hx hb hts i_f_X7_run_X7 hown hK hP 0 rfl (hts (.fieldLink RX7 35 "HushWatch" "now" "LHushWatch$State;") (List.mem_of_getElem? (i := 3) rfl)) rfl dX7_run_12 ?_
    replace hF := bd1_s hF
    obtain ⟨r_5, hc_6, hF⟩ := hF
    have hPc : va_P E.1 vwCl (w_X5_stands E a_now a_now_row a_now_partners a_now_share a_now_leftOver c_now_askedCount c_now_outcome c_now_row) H := hP.sub (ws' := [(a_now, .inr (6, [.ref a_now_row, .ref a_now_partners, .int c_now_askedCount, .int c_now_outcome, .ref a_now_share, .ref a_now_leftOver])), (a_now_row, .inl (E.2.1, 81, .inl c_now_row))]) [4, 5] rfl
    have hrc := va_recv hK hPc (ci := 6) (q0 := 0) rfl rfl
    refine pE_z (va_runV (As := []) (rest := [])  ⟨hx, hb, hml, hown, hts⟩ (f_X5_stands l E (a_ := a_now) (a_row := a_now_row) (a_partners := a_now_partners) (a_share := a_now_share) (a_leftOver := a_now_leftOver) (c_askedCount := c_now_askedCount) (c_outcome := c_now_outcome) (c_row := c_now_row) hc_6) (cwV 0 hts g_f_X7_run_f_X5_stands_110 rfl rfl rfl hd_X5_stands ⟨Nat.le_of_ble_eq_true rfl, Nat.le_of_ble_eq_true rfl⟩) ⟨pP.blind, hrc, (pP.pre ⟨hK, hN⟩ hPc)⟩ rfl rfl hl.1 rfl (lv_room (Nat.le_of_ble_eq_true rfl)) dX7_run_15 ⟨Nat.le_of_ble_eq_true rfl, Nat.le_of_ble_eq_true rfl⟩) (fun hb_7 => ?_)
    refine lv_if_eq (tgt := 30) hx hb dX7_run_18 (by decide) (fun c_8 => ?_) (fun c_8 => ?_)
    ·
      replace hF := ip c_8 hF
      refine lv_ldc (v := -100000000) hx hb hown (hts (.constant RX7 113 (-100000000)) (List.mem_of_getElem? (i := 2) rfl)) dX7_run_30 ?_
      rw [hQ]
      have h9 := fin9 (P := fun u9 : Int32 × (Nat → Int32) × (Nat → Int32) × Int32 × Int32 × (Nat → Int32) × (Nat → Int32) => (-100000000 : Int32) = u9.1 ∧ va_P E.1 vwCl (w_X7_run E a_ a_tape a_reader a_scripts a_now a_trial a_kept a_book a_keptBook a_history a_draws a_refused a_scripts_steps a_scripts_counts a_now_row a_now_partners a_now_share a_now_leftOver a_trial_row a_trial_partners a_trial_share a_trial_leftOver c_hasImage c_scripts_held c_scripts_steps c_scripts_counts c_now_askedCount c_now_outcome c_now_row u9.2.2.2.1 u9.2.2.2.2.1 u9.2.1 u9.2.2.1 u9.2.2.2.2.2.1 u9.2.2.2.2.2.2) H ∧ va_D A (w_X7_run E a_ a_tape a_reader a_scripts a_now a_trial a_kept a_book a_keptBook a_history a_draws a_refused a_scripts_steps a_scripts_counts a_now_row a_now_partners a_now_share a_now_leftOver a_trial_row a_trial_partners a_trial_share a_trial_leftOver c_hasImage c_scripts_held c_scripts_steps c_scripts_counts c_now_askedCount c_now_outcome c_now_row u9.2.2.2.1 u9.2.2.2.2.1 u9.2.1 u9.2.2.1 u9.2.2.2.2.2.1 u9.2.2.2.2.2.2)) hF ⟨rfl, hP, hD⟩
      obtain ⟨e9_0, hP9, hD9⟩ := h9
      exact W.iret (v := (-100000000 : Int32)) hx hb hr (fun tt ht hW => ⟨⟨_, (), rfl, e9_0, ht ▸ hP9, hD9⟩, hS.F ht⟩) hS.2.2 dX7_run_32
    ·
      replace hF := inn c_8 hF
      refine lv_iload_n hx hb dX7_run_21 rfl (lv_at hl 2 rfl) ?_
      refine lv_if_lt (tgt := 30) hx hb dX7_run_22 (by decide) (fun c_9 => ?_) (fun c_9 => ?_)
      ·
        replace hF := ip c_9 hF
        refine lv_ldc (v := -100000000) hx hb hown (hts (.constant RX7 113 (-100000000)) (List.mem_of_getElem? (i := 2) rfl)) dX7_run_30 ?_
        rw [hQ]
        have h9 := fin9 (P := fun u9 : Int32 × (Nat → Int32) × (Nat → Int32) × Int32 × Int32 × (Nat → Int32) × (Nat → Int32) => (-100000000 : Int32) = u9.1 ∧ va_P E.1 vwCl (w_X7_run E a_ a_tape a_reader a_scripts a_now a_trial a_kept a_book a_keptBook a_history a_draws a_refused a_scripts_steps a_scripts_counts a_now_row a_now_partners a_now_share a_now_leftOver a_trial_row a_trial_partners a_trial_share a_trial_leftOver c_hasImage c_scripts_held c_scripts_steps c_scripts_counts c_now_askedCount c_now_outcome c_now_row u9.2.2.2.1 u9.2.2.2.2.1 u9.2.1 u9.2.2.1 u9.2.2.2.2.2.1 u9.2.2.2.2.2.2) H ∧ va_D A (w_X7_run E a_ a_tape a_reader a_scripts a_now a_trial a_kept a_book a_keptBook a_history a_draws a_refused a_scripts_steps a_scripts_counts a_now_row a_now_partners a_now_share a_now_leftOver a_trial_row a_trial_partners a_trial_share a_trial_leftOver c_hasImage c_scripts_held c_scripts_steps c_scripts_counts c_now_askedCount c_now_outcome c_now_row u9.2.2.2.1 u9.2.2.2.2.1 u9.2.1 u9.2.2.1 u9.2.2.2.2.2.1 u9.2.2.2.2.2.2)) hF ⟨rfl, hP, hD⟩
        obtain ⟨e9_0, hP9, hD9⟩ := h9
        exact W.iret (v := (-100000000 : Int32)) hx hb hr (fun tt ht hW => ⟨⟨_, (), rfl, e9_0, ht ▸ hP9, hD9⟩, hS.F ht⟩) hS.2.2 dX7_run_32
      ·
        replace hF := inn c_9 hF
        refine lv_iload_n hx hb dX7_run_25 rfl (lv_at hl 2 rfl) ?_
        refine lv_iconst (v := 1) hx hb dX7_run_26 (by decide) ?_
        refine lv_icmp_le (tgt := 33) hx hb dX7_run_27 (by decide) (fun c_10 => ?_) (fun c_10 => ?_)
        ·
          replace hF := ip c_10 hF
          refine lv_aload_n hx hb dX7_run_33 rfl (lv_at hl 0 rfl) ?_
          refine gt_X7_4 (v := .ref a_trial) hx hb hts i_f_X7_run_X7 hown hK hP 0 rfl (hts (.fieldLink RX7 39 "HushWatch" "trial" "LHushWatch$State;") (List.mem_of_getElem? (i := 4) rfl)) rfl dX7_run_34 ?_
          refine lv_aload_n hx hb dX7_run_37 rfl (lv_at hl 0 rfl) ?_
          refine gt_X7_3 (v := .ref a_now) hx hb hts i_f_X7_run_X7 hown hK hP 0 rfl (hts (.fieldLink RX7 35 "HushWatch" "now" "LHushWatch$State;") (List.mem_of_getElem? (i := 3) rfl)) rfl dX7_run_38 ?_
          replace hF := bd1_s hF
          obtain ⟨w_11, hc_12, hF⟩ := hF
          obtain ⟨hPc, hDc, hFc⟩ := wcut (wc := (w_X5_copyFrom E a_trial a_trial_row a_trial_partners a_trial_share a_trial_leftOver a_now a_now_row a_now_partners a_now_share a_now_leftOver c_trial_askedCount c_trial_outcome c_trial_row c_now_askedCount c_now_outcome c_now_row)) hP hD hS hA [6, 7, 4, 5] (by decide) rfl
          have hrc := va_recv hK hPc (ci := 6) (q0 := 0) rfl rfl
          refine cE_v (wc := (w_X5_copyFrom E a_trial a_trial_row a_trial_partners a_trial_share a_trial_leftOver a_now a_now_row a_now_partners a_now_share a_now_leftOver c_trial_askedCount c_trial_outcome c_trial_row c_now_askedCount c_now_outcome c_now_row)) (wr := [(a_, .inr (8, [.ref a_tape, .ref a_reader, .ref a_scripts, .ref a_now, .ref a_trial, .ref a_kept, .ref a_book, .ref a_keptBook, .ref a_history, .ref a_draws, .ref a_refused, .int c_hasImage])), (a_scripts, .inr (5, [.ref a_scripts_steps, .ref a_scripts_counts, .int c_scripts_held])), (a_scripts_steps, .inl (E.2.1, 192, .inl c_scripts_steps)), (a_scripts_counts, .inl (E.2.1, 4, .inl c_scripts_counts)), (a_trial_partners, .inl (E.2.1, 8, .inl c_trial_partners)), (a_trial_share, .inl (E.2.1, 2, .inl c_trial_share)), (a_trial_leftOver, .inl (E.2.1, 2, .inl c_trial_leftOver))]) (w1 := (w_X5_copyFrom E a_trial a_trial_row a_trial_partners a_trial_share a_trial_leftOver a_now a_now_row a_now_partners a_now_share a_now_leftOver c_trial_askedCount c_trial_outcome w_11 c_now_askedCount c_now_outcome c_now_row)) (va_runV (As := [.ref a_now]) (rest := [])  ⟨hx, hb, hml, hown, hts⟩ (f_X5_copyFrom l E H.size (a_ := a_trial) (a_row := a_trial_row) (a_partners := a_trial_partners) (a_share := a_trial_share) (a_leftOver := a_trial_leftOver) (a_o1 := a_now) (a_o1_row := a_now_row) (a_o1_partners := a_now_partners) (a_o1_share := a_now_share) (a_o1_leftOver := a_now_leftOver) (c_askedCount := c_trial_askedCount) (c_outcome := c_trial_outcome) (c_row := c_trial_row) (c_o1_askedCount := c_now_askedCount) (c_o1_outcome := c_now_outcome) (c_o1_row := c_now_row) hc_12) (cwV 1 hts g_f_X7_run_f_X5_copyFrom_237 rfl rfl rfl hd_X5_copyFrom ⟨Nat.le_of_ble_eq_true rfl, Nat.le_of_ble_eq_true rfl⟩) ⟨pW.blind, hrc, (pW.pre ⟨hK, hN⟩ hPc hDc)⟩ rfl rfl hl.1 rfl (lv_room (Nat.le_of_ble_eq_true rfl)) dX7_run_41 ⟨Nat.le_of_ble_eq_true rfl, Nat.le_of_ble_eq_true rfl⟩) hS hFc hP hD [6, 7, 4, 5] [0, 1, 2, 3, 8, 9, 10] rfl rfl (by decide) (by decide) (fun H locs hP hD hS => ?_)
          replace hP : va_P E.1 vwCl [(a_, .inr (8, [.ref a_tape, .ref a_reader, .ref a_scripts, .ref a_now, .ref a_trial, .ref a_kept, .ref a_book, .ref a_keptBook, .ref a_history, .ref a_draws, .ref a_refused, .int c_hasImage])), (a_scripts, .inr (5, [.ref a_scripts_steps, .ref a_scripts_counts, .int c_scripts_held])), (a_scripts_steps, .inl (E.2.1, 192, .inl c_scripts_steps)), (a_scripts_counts, .inl (E.2.1, 4, .inl c_scripts_counts)), (a_trial_partners, .inl (E.2.1, 8, .inl c_trial_partners)), (a_trial_share, .inl (E.2.1, 2, .inl c_trial_share)), (a_trial_leftOver, .inl (E.2.1, 2, .inl c_trial_leftOver)), (a_trial, .inr (6, [.ref a_trial_row, .ref a_trial_partners, .int c_trial_askedCount, .int c_trial_outcome, .ref a_trial_share, .ref a_trial_leftOver])), (a_trial_row, .inl (E.2.1, 81, .inl w_11)), (a_now, .inr (6, [.ref a_now_row, .ref a_now_partners, .int c_now_askedCount, .int c_now_outcome, .ref a_now_share, .ref a_now_leftOver])), (a_now_row, .inl (E.2.1, 81, .inl c_now_row))] H := hP
          replace hD : va_D A [(a_, .inr (8, [.ref a_tape, .ref a_reader, .ref a_scripts, .ref a_now, .ref a_trial, .ref a_kept, .ref a_book, .ref a_keptBook, .ref a_history, .ref a_draws, .ref a_refused, .int c_hasImage])), (a_scripts, .inr (5, [.ref a_scripts_steps, .ref a_scripts_counts, .int c_scripts_held])), (a_scripts_steps, .inl (E.2.1, 192, .inl c_scripts_steps)), (a_scripts_counts, .inl (E.2.1, 4, .inl c_scripts_counts)), (a_trial_partners, .inl (E.2.1, 8, .inl c_trial_partners)), (a_trial_share, .inl (E.2.1, 2, .inl c_trial_share)), (a_trial_leftOver, .inl (E.2.1, 2, .inl c_trial_leftOver)), (a_trial, .inr (6, [.ref a_trial_row, .ref a_trial_partners, .int c_trial_askedCount, .int c_trial_outcome, .ref a_trial_share, .ref a_trial_leftOver])), (a_trial_row, .inl (E.2.1, 81, .inl w_11)), (a_now, .inr (6, [.ref a_now_row, .ref a_now_partners, .int c_now_askedCount, .int c_now_outcome, .ref a_now_share, .ref a_now_leftOver])), (a_now_row, .inl (E.2.1, 81, .inl c_now_row))] := hD
          refine lv_aload_n hx hb dX7_run_44 rfl (lv_at hl 0 rfl) ?_
          refine gt_X7_2 (v := .ref a_scripts) hx hb hts i_f_X7_run_X7 hown hK hP 0 rfl (hts (.fieldLink RX7 28 "HushWatch" "scripts" "LHushWatch$Scripts;") (List.mem_of_getElem? (i := 1) rfl)) rfl dX7_run_45 ?_
          refine lv_iload_n hx hb dX7_run_48 rfl (lv_at hl 1 rfl) ?_
          replace hF := bd1_s hF
          obtain ⟨r_13, hc_14, hF⟩ := hF
          have hPc : va_P E.1 vwCl (w_X4_stepsOf E a_scripts a_scripts_steps a_scripts_counts c_scripts_held c_scripts_counts) H := hP.sub (ws' := [(a_scripts, .inr (5, [.ref a_scripts_steps, .ref a_scripts_counts, .int c_scripts_held])), (a_scripts_counts, .inl (E.2.1, 4, .inl c_scripts_counts))]) [1, 3] rfl
          have hrc := va_recv hK hPc (ci := 5) (q0 := 0) rfl rfl
          refine pE_i (va_runV (As := [.int p1]) (rest := [])  ⟨hx, hb, hml, hown, hts⟩ (f_X4_stepsOf l E (a_ := a_scripts) (a_steps := a_scripts_steps) (a_counts := a_scripts_counts) (p1 := p1) (c_held := c_scripts_held) (c_counts := c_scripts_counts) hc_14) (cwV 1 hts g_f_X7_run_f_X4_stepsOf_293 rfl rfl rfl hd_X4_stepsOf ⟨Nat.le_of_ble_eq_true rfl, Nat.le_of_ble_eq_true rfl⟩) ⟨pP.blind, hrc, (pP.pre ⟨hK, hN⟩ hPc)⟩ rfl rfl hl.1 rfl (lv_room (Nat.le_of_ble_eq_true rfl)) dX7_run_49 ⟨Nat.le_of_ble_eq_true rfl, Nat.le_of_ble_eq_true rfl⟩) ?_
          refine lv_istore_n (lv' := [(3, .int r_13), (0, .ref a_), (1, .int p1), (2, .int p2)]) hx hb dX7_run_52 rfl hl (by decide) rfl (fun ls hl => ?_)
          refine lv_iconst (v := 0) hx hb dX7_run_53 (by decide) ?_
          refine lv_istore (lv' := [(4, .int (0 : Int32)), (3, .int r_13), (0, .ref a_), (1, .int p1), (2, .int p2)]) hx hb dX7_run_54 hl (by decide) rfl (fun ls hl => ?_)
          replace hF := bd7_s hF
          obtain ⟨x4_26, c_trial_row_27, c_trial_partners_28, c_trial_askedCount_29, c_trial_outcome_30, c_trial_share_31, c_trial_leftOver_32, hL_33, hF⟩ := hF
          refine lw_X7_run_56 l E K (p1 := p1) (p2 := p2) (c_hasImage := c_hasImage) (c_scripts_held := c_scripts_held) (c_scripts_steps := c_scripts_steps) (c_scripts_counts := c_scripts_counts) (c_now_askedCount := c_now_askedCount) (c_now_outcome := c_now_outcome) (c_now_row := c_now_row) (x3 := r_13) hx hb hml hown hts hK hN hA hZ K (0 : Int32) w_11 c_trial_partners c_trial_askedCount c_trial_outcome c_trial_share c_trial_leftOver x4_26 c_trial_row_27 c_trial_partners_28 c_trial_askedCount_29 c_trial_outcome_30 c_trial_share_31 c_trial_leftOver_32 hL_33 ?_ H locs ls (hP.sub [0, 1, 2, 3, 9, 10, 7, 8, 4, 5, 6] rfl) (hD.sub [0, 1, 2, 3, 9, 10, 7, 8, 4, 5, 6] (by decide) rfl) hS (lv_sub hl [2, 3, 4, 1, 0] rfl)
          ·
            intro H locs ls hP hD hS hl
            replace hP : va_P E.1 vwCl [(a_, .inr (8, [.ref a_tape, .ref a_reader, .ref a_scripts, .ref a_now, .ref a_trial, .ref a_kept, .ref a_book, .ref a_keptBook, .ref a_history, .ref a_draws, .ref a_refused, .int c_hasImage])), (a_scripts, .inr (5, [.ref a_scripts_steps, .ref a_scripts_counts, .int c_scripts_held])), (a_scripts_steps, .inl (E.2.1, 192, .inl c_scripts_steps)), (a_scripts_counts, .inl (E.2.1, 4, .inl c_scripts_counts)), (a_now, .inr (6, [.ref a_now_row, .ref a_now_partners, .int c_now_askedCount, .int c_now_outcome, .ref a_now_share, .ref a_now_leftOver])), (a_now_row, .inl (E.2.1, 81, .inl c_now_row)), (a_trial, .inr (6, [.ref a_trial_row, .ref a_trial_partners, .int c_trial_askedCount_29, .int c_trial_outcome_30, .ref a_trial_share, .ref a_trial_leftOver])), (a_trial_row, .inl (E.2.1, 81, .inl c_trial_row_27)), (a_trial_partners, .inl (E.2.1, 8, .inl c_trial_partners_28)), (a_trial_share, .inl (E.2.1, 2, .inl c_trial_share_31)), (a_trial_leftOver, .inl (E.2.1, 2, .inl c_trial_leftOver_32))] H := hP
            replace hD : va_D A [(a_, .inr (8, [.ref a_tape, .ref a_reader, .ref a_scripts, .ref a_now, .ref a_trial, .ref a_kept, .ref a_book, .ref a_keptBook, .ref a_history, .ref a_draws, .ref a_refused, .int c_hasImage])), (a_scripts, .inr (5, [.ref a_scripts_steps, .ref a_scripts_counts, .int c_scripts_held])), (a_scripts_steps, .inl (E.2.1, 192, .inl c_scripts_steps)), (a_scripts_counts, .inl (E.2.1, 4, .inl c_scripts_counts)), (a_now, .inr (6, [.ref a_now_row, .ref a_now_partners, .int c_now_askedCount, .int c_now_outcome, .ref a_now_share, .ref a_now_leftOver])), (a_now_row, .inl (E.2.1, 81, .inl c_now_row)), (a_trial, .inr (6, [.ref a_trial_row, .ref a_trial_partners, .int c_trial_askedCount_29, .int c_trial_outcome_30, .ref a_trial_share, .ref a_trial_leftOver])), (a_trial_row, .inl (E.2.1, 81, .inl c_trial_row_27)), (a_trial_partners, .inl (E.2.1, 8, .inl c_trial_partners_28)), (a_trial_share, .inl (E.2.1, 2, .inl c_trial_share_31)), (a_trial_leftOver, .inl (E.2.1, 2, .inl c_trial_leftOver_32))] := hD
            exact j_X7_run_78 l E K (p1 := p1) (p2 := p2) (c_hasImage := c_hasImage) (c_scripts_held := c_scripts_held) (c_scripts_steps := c_scripts_steps) (c_scripts_counts := c_scripts_counts) (c_now_askedCount := c_now_askedCount) (c_now_outcome := c_now_outcome) (c_now_row := c_now_row) (x3 := r_13) (x4 := x4_26) (c_trial_row := c_trial_row_27) (c_trial_partners := c_trial_partners_28) (c_trial_askedCount := c_trial_askedCount_29) (c_trial_outcome := c_trial_outcome_30) (c_trial_share := c_trial_share_31) (c_trial_leftOver := c_trial_leftOver_32) hx hb hml hown hts hK hN hA hZ hr hlocks hQ hF H locs ls (hP.sub [0, 1, 2, 3, 4, 5, 6, 7, 8, 9, 10] rfl) (hD.sub [0, 1, 2, 3, 4, 5, 6, 7, 8, 9, 10] (by decide) rfl) hS (lv_sub hl [0, 1, 2, 3] rfl)
        ·
          replace hF := inn c_10 hF
          refine lv_ldc (v := -100000000) hx hb hown (hts (.constant RX7 113 (-100000000)) (List.mem_of_getElem? (i := 2) rfl)) dX7_run_30 ?_
          rw [hQ]
          have h9 := fin9 (P := fun u9 : Int32 × (Nat → Int32) × (Nat → Int32) × Int32 × Int32 × (Nat → Int32) × (Nat → Int32) => (-100000000 : Int32) = u9.1 ∧ va_P E.1 vwCl (w_X7_run E a_ a_tape a_reader a_scripts a_now a_trial a_kept a_book a_keptBook a_history a_draws a_refused a_scripts_steps a_scripts_counts a_now_row a_now_partners a_now_share a_now_leftOver a_trial_row a_trial_partners a_trial_share a_trial_leftOver c_hasImage c_scripts_held c_scripts_steps c_scripts_counts c_now_askedCount c_now_outcome c_now_row u9.2.2.2.1 u9.2.2.2.2.1 u9.2.1 u9.2.2.1 u9.2.2.2.2.2.1 u9.2.2.2.2.2.2) H ∧ va_D A (w_X7_run E a_ a_tape a_reader a_scripts a_now a_trial a_kept a_book a_keptBook a_history a_draws a_refused a_scripts_steps a_scripts_counts a_now_row a_now_partners a_now_share a_now_leftOver a_trial_row a_trial_partners a_trial_share a_trial_leftOver c_hasImage c_scripts_held c_scripts_steps c_scripts_counts c_now_askedCount c_now_outcome c_now_row u9.2.2.2.1 u9.2.2.2.2.1 u9.2.1 u9.2.2.1 u9.2.2.2.2.2.1 u9.2.2.2.2.2.2)) hF ⟨rfl, hP, hD⟩
          obtain ⟨e9_0, hP9, hD9⟩ := h9
          exact W.iret (v := (-100000000 : Int32)) hx hb hr (fun tt ht hW => ⟨⟨_, (), rfl, e9_0, ht ▸ hP9, hD9⟩, hS.F ht⟩) hS.2.2 dX7_run_32

def J_X7_span_81_r52 (p2 : Int32) (c_now_row : Nat → Int32) (k0 : Int32) (k1 : Int32) (x5 : Int32) (x6 : Int32) (x7 : Int32) : Option ((Int32 × Int32) ⊕ (Nat × Int32)) :=
  if p2 = (0 : Int32) then bd1 (F_X5_isQuietWith k1 k0 (0 : Int32) c_now_row) (fun r_19 => if r_19 = (0 : Int32) then some (.inr (0, x5)) else some (.inl (x7, x6 + (1 : Int32)))) else bd1 (F_X5_isQuietWith k1 k0 x7 c_now_row) (fun r_15 => if r_15 = (0 : Int32) then some (.inr (0, x5)) else some (.inl (x7, x6 + (1 : Int32))))
def B_X7_span_51 (p1 : Int32) (p2 : Int32) (c_now_row : Nat → Int32) (x4 : Int32) (x5 : Int32) (x6 : Int32) : Option ((Int32 × Int32) ⊕ (Nat × Int32)) :=
  if (200 : Int32) < x6 then some (.inr (1, x5)) else if p2 = (0 : Int32) then J_X7_span_81_r52 p2 c_now_row (x4 * x6) p1 x5 x6 (x4 * x6) else J_X7_span_81_r52 p2 c_now_row (0 : Int32) p1 x5 x6 (x4 * x6)
def J_X7_span_43 (K : Nat) (p1 : Int32) (p2 : Int32) (c_now_row : Nat → Int32) (k0 : Int32) : Option (Int32) :=
  bd2 (lpF (fun u9 : Int32 × Int32 => B_X7_span_51 p1 p2 c_now_row k0 u9.1 u9.2) K ((0 : Int32), (1 : Int32))) (fun t_23 x5_24 => if t_23 = 0 then some x5_24 else if t_23 = 1 then some x5_24 else none)
def F_X7_span (K : Nat) (p1 : Int32) (p2 : Int32) (p3 : Int32) (c_now_row : Nat → Int32) : Option (Int32) :=
  bd1 (F_X5_hasSite p1 c_now_row) (fun r_1 => if r_1 = (0 : Int32) then some (-100000000 : Int32) else if p2 < (0 : Int32) then some (-100000000 : Int32) else if (1 : Int32) < p2 then some (-100000000 : Int32) else bd1 (F_X5_isQuiet p1 c_now_row) (fun r_7 => if r_7 = (0 : Int32) then some (-100000000 : Int32) else if p3 = (0 : Int32) then J_X7_span_43 K p1 p2 c_now_row (-1 : Int32) else J_X7_span_43 K p1 p2 c_now_row (1 : Int32)))
abbrev w_X7_span (E : EE) (a_ a_tape a_reader a_scripts a_now a_trial a_kept a_book a_keptBook a_history a_draws a_refused a_now_row a_now_partners a_now_share a_now_leftOver : Nat) (c_hasImage : Int32) (c_now_askedCount : Int32) (c_now_outcome : Int32) (c_now_row : Nat → Int32) : va_W := [(a_, .inr (8, [.ref a_tape, .ref a_reader, .ref a_scripts, .ref a_now, .ref a_trial, .ref a_kept, .ref a_book, .ref a_keptBook, .ref a_history, .ref a_draws, .ref a_refused, .int c_hasImage])), (a_now, .inr (6, [.ref a_now_row, .ref a_now_partners, .int c_now_askedCount, .int c_now_outcome, .ref a_now_share, .ref a_now_leftOver])), (a_now_row, .inl (E.2.1, 81, .inl c_now_row))]
def v_f_X7_span : List Cond := .code yX7_span cX7_span 8 (some .int) :: ([.fieldLink RX7 35 "HushWatch" "now" "LHushWatch$State;", .constant RX7 113 (-100000000), .methodLink RX7 120 yX5_hasSite, .instanceMethod yX5_hasSite, .selects RX5 yX5_hasSite yX5_hasSite, .initialized RX5, .methodLink RX7 137 yX5_isQuiet, .instanceMethod yX5_isQuiet, .selects RX5 yX5_isQuiet yX5_isQuiet, .methodLink RX7 217 yX5_isQuietWith, .instanceMethod yX5_isQuietWith, .selects RX5 yX5_isQuietWith yX5_isQuietWith] ++ (wsX70 ++ (v_f_X5_hasSite ++ (v_f_X5_isQuiet ++ (v_f_X5_isQuietWith ++ ([]))))))
theorem gw_f_X7_span : v_f_X7_span.all goodWord = true := by decide +kernel
theorem i_f_X7_span_X7 : ∀ w ∈ wsX70, w ∈ v_f_X7_span := fun _ h => List.mem_cons_of_mem _ (List.mem_append_right _ (List.mem_append_left _ h))
theorem g_f_X7_span_f_X5_hasSite_120 : GoodIn v_f_X7_span (wsV RX7 120 RX5 yX5_hasSite v_f_X5_hasSite) := goodIn_app (goodIn_of _ (by decide +kernel)) (goodIn_sub (fun _ h => List.mem_cons_of_mem _ (List.mem_append_right _ (List.mem_append_right _ (List.mem_append_left _ h)))) gw_f_X5_hasSite)
theorem g_f_X7_span_f_X5_isQuiet_137 : GoodIn v_f_X7_span (wsV RX7 137 RX5 yX5_isQuiet v_f_X5_isQuiet) := goodIn_app (goodIn_of _ (by decide +kernel)) (goodIn_sub (fun _ h => List.mem_cons_of_mem _ (List.mem_append_right _ (List.mem_append_right _ (List.mem_append_right _ (List.mem_append_left _ h))))) gw_f_X5_isQuiet)
theorem g_f_X7_span_f_X5_isQuietWith_217 : GoodIn v_f_X7_span (wsV RX7 217 RX5 yX5_isQuietWith v_f_X5_isQuietWith) := goodIn_app (goodIn_of _ (by decide +kernel)) (goodIn_sub (fun _ h => List.mem_cons_of_mem _ (List.mem_append_right _ (List.mem_append_right _ (List.mem_append_right _ (List.mem_append_right _ (List.mem_append_left _ h)))))) gw_f_X5_isQuietWith)
theorem hd_X7_span : yX7_span.cls = RX7 ∧ yX7_span.cls ≠ "java/lang/invoke/MethodHandle" ∧ yX7_span.cls ≠ "java/lang/invoke/VarHandle" ∧ (parseMethodDescriptor yX7_span.desc).map (fun d => d.parameters.length) = some 3 := by decide +kernel
set_option maxHeartbeats 4000000 in
set_option maxRecDepth 100000 in
theorem j_X7_span_81_r52 {p : Program} (l : Launch) {e : Env} {s : State} {m : MethodId} {below : List Frame} {meth : Method} {c : Code} {Q : State → Prop} (E : EE) (K : Nat) {a_ a_tape a_reader a_scripts a_now a_trial a_kept a_book a_keptBook a_history a_draws a_refused a_now_row a_now_partners a_now_share a_now_leftOver : Nat} {p1 : Int32} {p2 : Int32} {p3 : Int32} {c_hasImage : Int32} {c_now_askedCount : Int32} {c_now_outcome : Int32} {c_now_row : Nat → Int32} {k0 : Int32} {k1 : Int32} {x4 : Int32} {x5 : Int32} {x6 : Int32} {x7 : Int32} (hx : p.tables.exec = Jvm.exec) (hb : c.code = cX7_span) (hml : c.maxLocals = 8) (hown : s.vm.findClass RX7 = some m.cls) (hts : ∀ w ∈ v_f_X7_span, w.before #[Value.ref a_, Value.int p1, Value.int p2, Value.int p3] s = true) (hK : va_K E.1 vwCl (TY E) s) (hN : NX s) {xx : (Int32 × Int32) ⊕ (Nat × Int32)} (hC : ∀ (x5 : Int32), ∀ (x6 : Int32), xx = .inl (x5, x6) → ∀ (ls : Array Slot), lv_has ls 8 [(0, .ref a_), (1, .int p1), (2, .int p2), (4, .int x4), (5, .int x5), (6, .int x6)] → W p l e ({ frames := 3, cells := 0, slots := 0, locals := 73 } : Room) s m #[Value.ref a_, Value.int p1, Value.int p2, Value.int p3] below meth c s.heap [] 0 0 Q (F0 m 51 ls [])) (hE : ∀ (t9 : Nat), ∀ (x5 : Int32), xx = .inr (t9, x5) → ((t9 = 0 → ∀ (ls : Array Slot), lv_has ls 8 [(5, .int x5)] → W p l e ({ frames := 3, cells := 0, slots := 0, locals := 73 } : Room) s m #[Value.ref a_, Value.int p1, Value.int p2, Value.int p3] below meth c s.heap [] 0 0 Q (F0 m 97 ls [])) ∧ (t9 = 1 → ∀ (ls : Array Slot), lv_has ls 8 [(5, .int x5)] → W p l e ({ frames := 3, cells := 0, slots := 0, locals := 73 } : Room) s m #[Value.ref a_, Value.int p1, Value.int p2, Value.int p3] below meth c s.heap [] 0 0 Q (F0 m 110 ls [])))) (hF : J_X7_span_81_r52 p2 c_now_row k0 k1 x5 x6 x7 = some xx) (hP : va_P E.1 vwCl (w_X7_span E a_ a_tape a_reader a_scripts a_now a_trial a_kept a_book a_keptBook a_history a_draws a_refused a_now_row a_now_partners a_now_share a_now_leftOver c_hasImage c_now_askedCount c_now_outcome c_now_row) s.heap) : ∀ (ls : Array Slot), lv_has ls 8 [(0, .ref a_), (1, .int p1), (2, .int p2), (4, .int x4), (5, .int x5), (6, .int x6), (7, .int x7)] → W p l e ({ frames := 3, cells := 0, slots := 0, locals := 73 } : Room) s m #[Value.ref a_, Value.int p1, Value.int p2, Value.int p3] below meth c s.heap [] 0 0 Q (F0 m 81 ls [.int k0, .int k1, .ref a_now]) := by
  unfold J_X7_span_81_r52 at hF
  replace hP : va_P E.1 vwCl [(a_, .inr (8, [.ref a_tape, .ref a_reader, .ref a_scripts, .ref a_now, .ref a_trial, .ref a_kept, .ref a_book, .ref a_keptBook, .ref a_history, .ref a_draws, .ref a_refused, .int c_hasImage])), (a_now, .inr (6, [.ref a_now_row, .ref a_now_partners, .int c_now_askedCount, .int c_now_outcome, .ref a_now_share, .ref a_now_leftOver])), (a_now_row, .inl (E.2.1, 81, .inl c_now_row))] s.heap := hP
  intro ls hl
  refine lv_iload_n hx hb dX7_span_81 rfl (lv_at hl 2 rfl) ?_
  refine lv_if_ne (tgt := 89) hx hb dX7_span_82 (by decide) (fun c_14 => ?_) (fun c_14 => ?_)
  ·
    replace hF := inn c_14 hF
    refine lv_iload hx hb dX7_span_89 (lv_at hl 6 rfl) ?_
    replace hF := bd1_s hF
    obtain ⟨r_15, hc_16, hF⟩ := hF
    have hPc : va_P E.1 vwCl (w_X5_isQuietWith E a_now a_now_row a_now_partners a_now_share a_now_leftOver c_now_askedCount c_now_outcome c_now_row) s.heap := hP.sub (ws' := [(a_now, .inr (6, [.ref a_now_row, .ref a_now_partners, .int c_now_askedCount, .int c_now_outcome, .ref a_now_share, .ref a_now_leftOver])), (a_now_row, .inl (E.2.1, 81, .inl c_now_row))]) [1, 2] rfl
    have hrc := va_recv hK hPc (ci := 6) (q0 := 0) rfl rfl
    refine pE_z (va_runV (As := [.int k1, .int k0, .int x7]) (rest := [])  ⟨hx, hb, hml, hown, hts⟩ (f_X5_isQuietWith l E (a_ := a_now) (a_row := a_now_row) (a_partners := a_now_partners) (a_share := a_now_share) (a_leftOver := a_now_leftOver) (p1 := k1) (p2 := k0) (p3 := x7) (c_askedCount := c_now_askedCount) (c_outcome := c_now_outcome) (c_row := c_now_row) hc_16) (cwV 3 hts g_f_X7_span_f_X5_isQuietWith_217 rfl rfl rfl hd_X5_isQuietWith ⟨Nat.le_of_ble_eq_true rfl, Nat.le_of_ble_eq_true rfl⟩) ⟨pP.blind, hrc, (pP.pre ⟨hK, hN⟩ hPc)⟩ rfl rfl hl.1 rfl (lv_room (Nat.le_of_ble_eq_true rfl)) dX7_span_91 ⟨Nat.le_of_ble_eq_true rfl, Nat.le_of_ble_eq_true rfl⟩) (fun hb_17 => ?_)
    refine lv_if_ne (tgt := 100) hx hb dX7_span_94 (by decide) (fun c_18 => ?_) (fun c_18 => ?_)
    ·
      replace hF := inn c_18 hF
      refine lv_iload hx hb dX7_span_100 (lv_at hl 6 rfl) ?_
      refine lv_istore (lv' := [(5, .int x7), (0, .ref a_), (1, .int p1), (2, .int p2), (4, .int x4), (6, .int x6), (7, .int x7)]) hx hb dX7_span_102 hl (by decide) rfl (fun ls hl => ?_)
      refine lv_iinc (v := x6 + (1 : Int32)) (lv' := [(6, .int (x6 + (1 : Int32))), (5, .int x7), (0, .ref a_), (1, .int p1), (2, .int p2), (4, .int x4), (7, .int x7)]) hx hb dX7_span_104 hl (k := 5) rfl (rfl) (by decide) rfl (fun ls hl => ?_)
      refine lv_goto (tgt := 51) hx hb dX7_span_107 (by decide) ?_
      cases hF
      exact hC x7 (x6 + (1 : Int32)) rfl ls (lv_sub hl [2, 3, 4, 5, 1, 0] rfl)
    ·
      replace hF := ip c_18 hF
      cases hF
      exact (hE 0 x5 rfl).1 rfl ls (lv_sub hl [4] rfl)
  ·
    replace hF := ip c_14 hF
    refine lv_iconst (v := 0) hx hb dX7_span_85 (by decide) ?_
    refine lv_goto (tgt := 91) hx hb dX7_span_86 (by decide) ?_
    replace hF := bd1_s hF
    obtain ⟨r_19, hc_20, hF⟩ := hF
    have hPc : va_P E.1 vwCl (w_X5_isQuietWith E a_now a_now_row a_now_partners a_now_share a_now_leftOver c_now_askedCount c_now_outcome c_now_row) s.heap := hP.sub (ws' := [(a_now, .inr (6, [.ref a_now_row, .ref a_now_partners, .int c_now_askedCount, .int c_now_outcome, .ref a_now_share, .ref a_now_leftOver])), (a_now_row, .inl (E.2.1, 81, .inl c_now_row))]) [1, 2] rfl
    have hrc := va_recv hK hPc (ci := 6) (q0 := 0) rfl rfl
    refine pE_z (va_runV (As := [.int k1, .int k0, .int (0 : Int32)]) (rest := [])  ⟨hx, hb, hml, hown, hts⟩ (f_X5_isQuietWith l E (a_ := a_now) (a_row := a_now_row) (a_partners := a_now_partners) (a_share := a_now_share) (a_leftOver := a_now_leftOver) (p1 := k1) (p2 := k0) (p3 := (0 : Int32)) (c_askedCount := c_now_askedCount) (c_outcome := c_now_outcome) (c_row := c_now_row) hc_20) (cwV 3 hts g_f_X7_span_f_X5_isQuietWith_217 rfl rfl rfl hd_X5_isQuietWith ⟨Nat.le_of_ble_eq_true rfl, Nat.le_of_ble_eq_true rfl⟩) ⟨pP.blind, hrc, (pP.pre ⟨hK, hN⟩ hPc)⟩ rfl rfl hl.1 rfl (lv_room (Nat.le_of_ble_eq_true rfl)) dX7_span_91 ⟨Nat.le_of_ble_eq_true rfl, Nat.le_of_ble_eq_true rfl⟩) (fun hb_21 => ?_)
    refine lv_if_ne (tgt := 100) hx hb dX7_span_94 (by decide) (fun c_22 => ?_) (fun c_22 => ?_)
    ·
      replace hF := inn c_22 hF
      refine lv_iload hx hb dX7_span_100 (lv_at hl 6 rfl) ?_
      refine lv_istore (lv' := [(5, .int x7), (0, .ref a_), (1, .int p1), (2, .int p2), (4, .int x4), (6, .int x6), (7, .int x7)]) hx hb dX7_span_102 hl (by decide) rfl (fun ls hl => ?_)
      refine lv_iinc (v := x6 + (1 : Int32)) (lv' := [(6, .int (x6 + (1 : Int32))), (5, .int x7), (0, .ref a_), (1, .int p1), (2, .int p2), (4, .int x4), (7, .int x7)]) hx hb dX7_span_104 hl (k := 5) rfl (rfl) (by decide) rfl (fun ls hl => ?_)
      refine lv_goto (tgt := 51) hx hb dX7_span_107 (by decide) ?_
      cases hF
      exact hC x7 (x6 + (1 : Int32)) rfl ls (lv_sub hl [2, 3, 4, 5, 1, 0] rfl)
    ·
      replace hF := ip c_22 hF
      cases hF
      exact (hE 0 x5 rfl).1 rfl ls (lv_sub hl [4] rfl)

set_option maxHeartbeats 4000000 in
set_option maxRecDepth 100000 in
theorem wb_X7_span_51 {p : Program} (l : Launch) {e : Env} {s : State} {m : MethodId} {below : List Frame} {meth : Method} {c : Code} {Q : State → Prop} (E : EE) (K : Nat) {a_ a_tape a_reader a_scripts a_now a_trial a_kept a_book a_keptBook a_history a_draws a_refused a_now_row a_now_partners a_now_share a_now_leftOver : Nat} {p1 : Int32} {p2 : Int32} {p3 : Int32} {c_hasImage : Int32} {c_now_askedCount : Int32} {c_now_outcome : Int32} {c_now_row : Nat → Int32} {x4 : Int32} {x5 : Int32} {x6 : Int32} (hx : p.tables.exec = Jvm.exec) (hb : c.code = cX7_span) (hml : c.maxLocals = 8) (hown : s.vm.findClass RX7 = some m.cls) (hts : ∀ w ∈ v_f_X7_span, w.before #[Value.ref a_, Value.int p1, Value.int p2, Value.int p3] s = true) (hK : va_K E.1 vwCl (TY E) s) (hN : NX s) {xx : (Int32 × Int32) ⊕ (Nat × Int32)} (hC : ∀ (x5 : Int32), ∀ (x6 : Int32), xx = .inl (x5, x6) → ∀ (ls : Array Slot), lv_has ls 8 [(0, .ref a_), (1, .int p1), (2, .int p2), (4, .int x4), (5, .int x5), (6, .int x6)] → W p l e ({ frames := 3, cells := 0, slots := 0, locals := 73 } : Room) s m #[Value.ref a_, Value.int p1, Value.int p2, Value.int p3] below meth c s.heap [] 0 0 Q (F0 m 51 ls [])) (hE : ∀ (t9 : Nat), ∀ (x5 : Int32), xx = .inr (t9, x5) → ((t9 = 0 → ∀ (ls : Array Slot), lv_has ls 8 [(5, .int x5)] → W p l e ({ frames := 3, cells := 0, slots := 0, locals := 73 } : Room) s m #[Value.ref a_, Value.int p1, Value.int p2, Value.int p3] below meth c s.heap [] 0 0 Q (F0 m 97 ls [])) ∧ (t9 = 1 → ∀ (ls : Array Slot), lv_has ls 8 [(5, .int x5)] → W p l e ({ frames := 3, cells := 0, slots := 0, locals := 73 } : Room) s m #[Value.ref a_, Value.int p1, Value.int p2, Value.int p3] below meth c s.heap [] 0 0 Q (F0 m 110 ls [])))) (hF : B_X7_span_51 p1 p2 c_now_row x4 x5 x6 = some xx) (hP : va_P E.1 vwCl (w_X7_span E a_ a_tape a_reader a_scripts a_now a_trial a_kept a_book a_keptBook a_history a_draws a_refused a_now_row a_now_partners a_now_share a_now_leftOver c_hasImage c_now_askedCount c_now_outcome c_now_row) s.heap) : ∀ (ls : Array Slot), lv_has ls 8 [(0, .ref a_), (1, .int p1), (2, .int p2), (4, .int x4), (5, .int x5), (6, .int x6)] → W p l e ({ frames := 3, cells := 0, slots := 0, locals := 73 } : Room) s m #[Value.ref a_, Value.int p1, Value.int p2, Value.int p3] below meth c s.heap [] 0 0 Q (F0 m 51 ls []) := by
  unfold B_X7_span_51 at hF
  replace hP : va_P E.1 vwCl [(a_, .inr (8, [.ref a_tape, .ref a_reader, .ref a_scripts, .ref a_now, .ref a_trial, .ref a_kept, .ref a_book, .ref a_keptBook, .ref a_history, .ref a_draws, .ref a_refused, .int c_hasImage])), (a_now, .inr (6, [.ref a_now_row, .ref a_now_partners, .int c_now_askedCount, .int c_now_outcome, .ref a_now_share, .ref a_now_leftOver])), (a_now_row, .inl (E.2.1, 81, .inl c_now_row))] s.heap := hP
  intro ls hl
  refine lv_iload hx hb dX7_span_51 (lv_at hl 5 rfl) ?_
  refine lv_sipush (v := 200) hx hb dX7_span_53 (by decide) ?_
  refine lv_icmp_gt (tgt := 110) hx hb dX7_span_56 (by decide) (fun c_12 => ?_) (fun c_12 => ?_)
  ·
    replace hF := ip c_12 hF
    cases hF
    exact (hE 1 x5 rfl).2 rfl ls (lv_sub hl [4] rfl)
  ·
    replace hF := inn c_12 hF
    refine lv_iload hx hb dX7_span_59 (lv_at hl 3 rfl) ?_
    refine lv_iload hx hb dX7_span_61 (lv_at hl 5 rfl) ?_
    refine lv_imul hx hb dX7_span_63 ?_
    refine lv_istore (lv' := [(7, .int (x4 * x6)), (0, .ref a_), (1, .int p1), (2, .int p2), (4, .int x4), (5, .int x5), (6, .int x6)]) hx hb dX7_span_64 hl (by decide) rfl (fun ls hl => ?_)
    refine lv_aload_n hx hb dX7_span_66 rfl (lv_at hl 1 rfl) ?_
    refine gt_X7_3 (v := .ref a_now) hx hb hts i_f_X7_span_X7 hown hK hP 0 rfl (hts (.fieldLink RX7 35 "HushWatch" "now" "LHushWatch$State;") (List.mem_of_getElem? (i := 1) rfl)) rfl dX7_span_67 ?_
    refine lv_iload_n hx hb dX7_span_70 rfl (lv_at hl 2 rfl) ?_
    refine lv_iload_n hx hb dX7_span_71 rfl (lv_at hl 3 rfl) ?_
    refine lv_if_ne (tgt := 80) hx hb dX7_span_72 (by decide) (fun c_13 => ?_) (fun c_13 => ?_)
    ·
      replace hF := inn c_13 hF
      refine lv_iconst (v := 0) hx hb dX7_span_80 (by decide) ?_
      exact j_X7_span_81_r52 l E K (p1 := p1) (p2 := p2) (p3 := p3) (c_hasImage := c_hasImage) (c_now_askedCount := c_now_askedCount) (c_now_outcome := c_now_outcome) (c_now_row := c_now_row) (k0 := (0 : Int32)) (k1 := p1) (x4 := x4) (x5 := x5) (x6 := x6) (x7 := x4 * x6) hx hb hml hown hts hK hN hC hE hF hP ls (lv_sub hl [1, 2, 3, 4, 5, 6, 0] rfl)
    ·
      replace hF := ip c_13 hF
      refine lv_iload hx hb dX7_span_75 (lv_at hl 0 rfl) ?_
      refine lv_goto (tgt := 81) hx hb dX7_span_77 (by decide) ?_
      exact j_X7_span_81_r52 l E K (p1 := p1) (p2 := p2) (p3 := p3) (c_hasImage := c_hasImage) (c_now_askedCount := c_now_askedCount) (c_now_outcome := c_now_outcome) (c_now_row := c_now_row) (k0 := x4 * x6) (k1 := p1) (x4 := x4) (x5 := x5) (x6 := x6) (x7 := x4 * x6) hx hb hml hown hts hK hN hC hE hF hP ls (lv_sub hl [1, 2, 3, 4, 5, 6, 0] rfl)

set_option maxHeartbeats 4000000 in
set_option maxRecDepth 100000 in
theorem lw_X7_span_51 {p : Program} (l : Launch) {e : Env} {s : State} {m : MethodId} {below : List Frame} {meth : Method} {c : Code} {Q : State → Prop} (E : EE) (K : Nat) {a_ a_tape a_reader a_scripts a_now a_trial a_kept a_book a_keptBook a_history a_draws a_refused a_now_row a_now_partners a_now_share a_now_leftOver : Nat} {p1 : Int32} {p2 : Int32} {p3 : Int32} {c_hasImage : Int32} {c_now_askedCount : Int32} {c_now_outcome : Int32} {c_now_row : Nat → Int32} {x4 : Int32} (hx : p.tables.exec = Jvm.exec) (hb : c.code = cX7_span) (hml : c.maxLocals = 8) (hown : s.vm.findClass RX7 = some m.cls) (hts : ∀ w ∈ v_f_X7_span, w.before #[Value.ref a_, Value.int p1, Value.int p2, Value.int p3] s = true) (hK : va_K E.1 vwCl (TY E) s) (hN : NX s) (hP : va_P E.1 vwCl (w_X7_span E a_ a_tape a_reader a_scripts a_now a_trial a_kept a_book a_keptBook a_history a_draws a_refused a_now_row a_now_partners a_now_share a_now_leftOver c_hasImage c_now_askedCount c_now_outcome c_now_row) s.heap) (j9 : Nat) (x5 : Int32) (x6 : Int32) (t9' : Nat) (x5' : Int32) (hL : lpF (fun u9 : Int32 × Int32 => B_X7_span_51 p1 p2 c_now_row x4 u9.1 u9.2) j9 (x5, x6) = some (t9', x5')) (hX : (t9' = 0 → ∀ (ls : Array Slot), lv_has ls 8 [(5, .int x5')] → W p l e ({ frames := 3, cells := 0, slots := 0, locals := 73 } : Room) s m #[Value.ref a_, Value.int p1, Value.int p2, Value.int p3] below meth c s.heap [] 0 0 Q (F0 m 97 ls [])) ∧ (t9' = 1 → ∀ (ls : Array Slot), lv_has ls 8 [(5, .int x5')] → W p l e ({ frames := 3, cells := 0, slots := 0, locals := 73 } : Room) s m #[Value.ref a_, Value.int p1, Value.int p2, Value.int p3] below meth c s.heap [] 0 0 Q (F0 m 110 ls []))) : ∀ (ls : Array Slot), lv_has ls 8 [(0, .ref a_), (1, .int p1), (2, .int p2), (4, .int x4), (5, .int x5), (6, .int x6)] → W p l e ({ frames := 3, cells := 0, slots := 0, locals := 73 } : Room) s m #[Value.ref a_, Value.int p1, Value.int p2, Value.int p3] below meth c s.heap [] 0 0 Q (F0 m 51 ls []) := by
  exact lp_rule (P := (fun u9 : Int32 × Int32 => ∀ (ls : Array Slot), lv_has ls 8 [(0, .ref a_), (1, .int p1), (2, .int p2), (4, .int x4), (5, .int u9.1), (6, .int u9.2)] → W p l e ({ frames := 3, cells := 0, slots := 0, locals := 73 } : Room) s m #[Value.ref a_, Value.int p1, Value.int p2, Value.int p3] below meth c s.heap [] 0 0 Q (F0 m 51 ls []))) (R := (fun r9 : Nat × Int32 => (r9.1 = 0 → ∀ (ls : Array Slot), lv_has ls 8 [(5, .int r9.2)] → W p l e ({ frames := 3, cells := 0, slots := 0, locals := 73 } : Room) s m #[Value.ref a_, Value.int p1, Value.int p2, Value.int p3] below meth c s.heap [] 0 0 Q (F0 m 97 ls [])) ∧ (r9.1 = 1 → ∀ (ls : Array Slot), lv_has ls 8 [(5, .int r9.2)] → W p l e ({ frames := 3, cells := 0, slots := 0, locals := 73 } : Room) s m #[Value.ref a_, Value.int p1, Value.int p2, Value.int p3] below meth c s.heap [] 0 0 Q (F0 m 110 ls [])))) (fun u9 xx hF hC hE => wb_X7_span_51 l E K (p1 := p1) (p2 := p2) (p3 := p3) (c_hasImage := c_hasImage) (c_now_askedCount := c_now_askedCount) (c_now_outcome := c_now_outcome) (c_now_row := c_now_row) (x4 := x4) (x5 := u9.1) (x6 := u9.2) hx hb hml hown hts hK hN (fun x5 x6 q9 => hC _ q9) (fun t9 x5 q9 => hE _ q9) hF hP) j9 (x5, x6) (t9', x5') hL hX

set_option maxHeartbeats 4000000 in
set_option maxRecDepth 100000 in
theorem j_X7_span_43 {p : Program} (l : Launch) {e : Env} {s : State} {m : MethodId} {below : List Frame} {meth : Method} {c : Code} {Q : State → Prop} (E : EE) (K : Nat) {a_ a_tape a_reader a_scripts a_now a_trial a_kept a_book a_keptBook a_history a_draws a_refused a_now_row a_now_partners a_now_share a_now_leftOver : Nat} {p1 : Int32} {p2 : Int32} {p3 : Int32} {c_hasImage : Int32} {c_now_askedCount : Int32} {c_now_outcome : Int32} {c_now_row : Nat → Int32} {k0 : Int32} (hx : p.tables.exec = Jvm.exec) (hb : c.code = cX7_span) (hml : c.maxLocals = 8) (hown : s.vm.findClass RX7 = some m.cls) (hts : ∀ w ∈ v_f_X7_span, w.before #[Value.ref a_, Value.int p1, Value.int p2, Value.int p3] s = true) (hK : va_K E.1 vwCl (TY E) s) (hN : NX s) {rr : Int32} (hr : meth.sig.returnType = (some .int)) (hlocks : meth.locks = false) (hQ : Q = MQ below (vp_Si (fun q : Int32 => q = rr)) #[Value.ref a_, Value.int p1, Value.int p2, Value.int p3] s 0 0 (fun _ => False)) (hF : J_X7_span_43 K p1 p2 c_now_row k0 = some rr) (hP : va_P E.1 vwCl (w_X7_span E a_ a_tape a_reader a_scripts a_now a_trial a_kept a_book a_keptBook a_history a_draws a_refused a_now_row a_now_partners a_now_share a_now_leftOver c_hasImage c_now_askedCount c_now_outcome c_now_row) s.heap) : ∀ (ls : Array Slot), lv_has ls 8 [(0, .ref a_), (1, .int p1), (2, .int p2)] → W p l e ({ frames := 3, cells := 0, slots := 0, locals := 73 } : Room) s m #[Value.ref a_, Value.int p1, Value.int p2, Value.int p3] below meth c s.heap [] 0 0 Q (F0 m 43 ls [.int k0]) := by
  unfold J_X7_span_43 at hF
  replace hP : va_P E.1 vwCl [(a_, .inr (8, [.ref a_tape, .ref a_reader, .ref a_scripts, .ref a_now, .ref a_trial, .ref a_kept, .ref a_book, .ref a_keptBook, .ref a_history, .ref a_draws, .ref a_refused, .int c_hasImage])), (a_now, .inr (6, [.ref a_now_row, .ref a_now_partners, .int c_now_askedCount, .int c_now_outcome, .ref a_now_share, .ref a_now_leftOver])), (a_now_row, .inl (E.2.1, 81, .inl c_now_row))] s.heap := hP
  intro ls hl
  refine lv_istore (lv' := [(4, .int k0), (0, .ref a_), (1, .int p1), (2, .int p2)]) hx hb dX7_span_43 hl (by decide) rfl (fun ls hl => ?_)
  refine lv_iconst (v := 0) hx hb dX7_span_45 (by decide) ?_
  refine lv_istore (lv' := [(5, .int (0 : Int32)), (4, .int k0), (0, .ref a_), (1, .int p1), (2, .int p2)]) hx hb dX7_span_46 hl (by decide) rfl (fun ls hl => ?_)
  refine lv_iconst (v := 1) hx hb dX7_span_48 (by decide) ?_
  refine lv_istore (lv' := [(6, .int (1 : Int32)), (5, .int (0 : Int32)), (4, .int k0), (0, .ref a_), (1, .int p1), (2, .int p2)]) hx hb dX7_span_49 hl (by decide) rfl (fun ls hl => ?_)
  replace hF := bd2_s hF
  obtain ⟨t_23, x5_24, hL_25, hF⟩ := hF
  refine lw_X7_span_51 l E K (p1 := p1) (p2 := p2) (p3 := p3) (c_hasImage := c_hasImage) (c_now_askedCount := c_now_askedCount) (c_now_outcome := c_now_outcome) (c_now_row := c_now_row) (x4 := k0) hx hb hml hown hts hK hN hP K (0 : Int32) (1 : Int32) t_23 x5_24 hL_25 ⟨?_, ?_⟩ ls (lv_sub hl [3, 4, 5, 2, 1, 0] rfl)
  ·
    intro t9
    replace hF := ip t9 hF
    intro ls hl
    refine lv_goto (tgt := 110) hx hb dX7_span_97 (by decide) ?_
    refine lv_iload hx hb dX7_span_110 (lv_at hl 0 rfl) ?_
    rw [hQ]
    obtain e9_0 := inj1 hF
    exact W.iret (v := x5_24) hx hb hr (fun tt ht hW => ⟨_, rfl, e9_0, ht⟩) (fun _ h => by cases h) dX7_span_112
  ·
    intro t9
    replace hF := inn (show ¬ t_23 = 0 by omega) hF
    replace hF := ip t9 hF
    intro ls hl
    refine lv_iload hx hb dX7_span_110 (lv_at hl 0 rfl) ?_
    rw [hQ]
    obtain e9_0 := inj1 hF
    exact W.iret (v := x5_24) hx hb hr (fun tt ht hW => ⟨_, rfl, e9_0, ht⟩) (fun _ h => by cases h) dX7_span_112

set_option maxHeartbeats 4000000 in
set_option maxRecDepth 100000 in
theorem f_X7_span (l : Launch) (E : EE) (K : Nat) {a_ a_tape a_reader a_scripts a_now a_trial a_kept a_book a_keptBook a_history a_draws a_refused a_now_row a_now_partners a_now_share a_now_leftOver : Nat} {p1 : Int32} {p2 : Int32} {p3 : Int32} {c_hasImage : Int32} {c_now_askedCount : Int32} {c_now_outcome : Int32} {c_now_row : Nat → Int32} {rr : Int32} (hF : F_X7_span K p1 p2 p3 c_now_row = some rr) : Met l yX7_span v_f_X7_span (({ frames := 3, cells := 0, slots := 0, locals := 73 } : Room)) (va_Pc [.ref a_, .int p1, .int p2, .int p3] (pP E (w_X7_span E a_ a_tape a_reader a_scripts a_now a_trial a_kept a_book a_keptBook a_history a_draws a_refused a_now_row a_now_partners a_now_share a_now_leftOver c_hasImage c_now_askedCount c_now_outcome c_now_row))) (vp_Si (fun q : Int32 => q = rr)) 0 0 (fun _ => False) := by
  refine Met.ofW (cc := cX7_span) (maxL := 8) (ret := (some .int)) (by decide) rfl ?_
  intro p e s m args below meth c s₁ B hml hv
  obtain ⟨rfl, ⟨hK, hN⟩, hP⟩ := hv
  have hx := B.exec
  have hb := B.bytes
  have hr := B.returns
  have hts := atoms_spec (ws := v_f_X7_span) B.pre
  have hown : s.vm.findClass RX7 = some m.cls := own_of hd_X7_span.1 (findClass_of_methodNamed B.named)
  have hlocks : meth.locks = false := B.notSynchronized
  replace hP : va_P E.1 vwCl [(a_, .inr (8, [.ref a_tape, .ref a_reader, .ref a_scripts, .ref a_now, .ref a_trial, .ref a_kept, .ref a_book, .ref a_keptBook, .ref a_history, .ref a_draws, .ref a_refused, .int c_hasImage])), (a_now, .inr (6, [.ref a_now_row, .ref a_now_partners, .int c_now_askedCount, .int c_now_outcome, .ref a_now_share, .ref a_now_leftOver])), (a_now_row, .inl (E.2.1, 81, .inl c_now_row))] s.heap := hP
  have hl := lv_entry ([.ref a_, .int p1, .int p2, .int p3]) (n := 8) (Nat.le_of_ble_eq_true rfl)
  rw [lg_entry_eq]
  generalize (lg_sl ([.ref a_, .int p1, .int p2, .int p3]) ++ List.replicate (8 - (lg_sl ([.ref a_, .int p1, .int p2, .int p3])).length) Slot.unset).toArray = ls at hl ⊢
  have hl : lv_has ls 8 [(0, .ref a_), (1, .int p1), (2, .int p2), (3, .int p3)] := hl
  obtain ⟨Q, hQ⟩ : ∃ Q : State → Prop, Q = MQ below (vp_Si (fun q : Int32 => q = rr)) #[Value.ref a_, Value.int p1, Value.int p2, Value.int p3] s 0 0 (fun _ => False) := ⟨_, rfl⟩
  rw [← hQ]
  change W p l e ({ frames := 3, cells := 0, slots := 0, locals := 73 } : Room) s m #[Value.ref a_, Value.int p1, Value.int p2, Value.int p3] below meth c s.heap [] 0 0 Q (F0 m 0 ls [])
  unfold F_X7_span at hF
  refine lv_aload_n hx hb dX7_span_0 rfl (lv_at hl 0 rfl) ?_
  refine gt_X7_3 (v := .ref a_now) hx hb hts i_f_X7_span_X7 hown hK hP 0 rfl (hts (.fieldLink RX7 35 "HushWatch" "now" "LHushWatch$State;") (List.mem_of_getElem? (i := 1) rfl)) rfl dX7_span_1 ?_
  refine lv_iload_n hx hb dX7_span_4 rfl (lv_at hl 1 rfl) ?_
  replace hF := bd1_s hF
  obtain ⟨r_1, hc_2, hF⟩ := hF
  have hPc : va_P E.1 vwCl (w_X5_hasSite E a_now a_now_row a_now_partners a_now_share a_now_leftOver c_now_askedCount c_now_outcome c_now_row) s.heap := hP.sub (ws' := [(a_now, .inr (6, [.ref a_now_row, .ref a_now_partners, .int c_now_askedCount, .int c_now_outcome, .ref a_now_share, .ref a_now_leftOver])), (a_now_row, .inl (E.2.1, 81, .inl c_now_row))]) [1, 2] rfl
  have hrc := va_recv hK hPc (ci := 6) (q0 := 0) rfl rfl
  refine pE_z (va_runV (As := [.int p1]) (rest := [])  ⟨hx, hb, hml, hown, hts⟩ (f_X5_hasSite l E (a_ := a_now) (a_row := a_now_row) (a_partners := a_now_partners) (a_share := a_now_share) (a_leftOver := a_now_leftOver) (p1 := p1) (c_askedCount := c_now_askedCount) (c_outcome := c_now_outcome) (c_row := c_now_row) hc_2) (cwV 1 hts g_f_X7_span_f_X5_hasSite_120 rfl rfl rfl hd_X5_hasSite ⟨Nat.le_of_ble_eq_true rfl, Nat.le_of_ble_eq_true rfl⟩) ⟨pP.blind, hrc, (pP.pre ⟨hK, hN⟩ hPc)⟩ rfl rfl hl.1 rfl (lv_room (Nat.le_of_ble_eq_true rfl)) dX7_span_5 ⟨Nat.le_of_ble_eq_true rfl, Nat.le_of_ble_eq_true rfl⟩) (fun hb_3 => ?_)
  refine lv_if_eq (tgt := 31) hx hb dX7_span_8 (by decide) (fun c_4 => ?_) (fun c_4 => ?_)
  ·
    replace hF := ip c_4 hF
    refine lv_ldc (v := -100000000) hx hb hown (hts (.constant RX7 113 (-100000000)) (List.mem_of_getElem? (i := 2) rfl)) dX7_span_31 ?_
    rw [hQ]
    obtain e9_0 := inj1 hF
    exact W.iret (v := (-100000000 : Int32)) hx hb hr (fun tt ht hW => ⟨_, rfl, e9_0, ht⟩) (fun _ h => by cases h) dX7_span_33
  ·
    replace hF := inn c_4 hF
    refine lv_iload_n hx hb dX7_span_11 rfl (lv_at hl 2 rfl) ?_
    refine lv_if_lt (tgt := 31) hx hb dX7_span_12 (by decide) (fun c_5 => ?_) (fun c_5 => ?_)
    ·
      replace hF := ip c_5 hF
      refine lv_ldc (v := -100000000) hx hb hown (hts (.constant RX7 113 (-100000000)) (List.mem_of_getElem? (i := 2) rfl)) dX7_span_31 ?_
      rw [hQ]
      obtain e9_0 := inj1 hF
      exact W.iret (v := (-100000000 : Int32)) hx hb hr (fun tt ht hW => ⟨_, rfl, e9_0, ht⟩) (fun _ h => by cases h) dX7_span_33
    ·
      replace hF := inn c_5 hF
      refine lv_iload_n hx hb dX7_span_15 rfl (lv_at hl 2 rfl) ?_
      refine lv_iconst (v := 1) hx hb dX7_span_16 (by decide) ?_
      refine lv_icmp_gt (tgt := 31) hx hb dX7_span_17 (by decide) (fun c_6 => ?_) (fun c_6 => ?_)
      ·
        replace hF := ip c_6 hF
        refine lv_ldc (v := -100000000) hx hb hown (hts (.constant RX7 113 (-100000000)) (List.mem_of_getElem? (i := 2) rfl)) dX7_span_31 ?_
        rw [hQ]
        obtain e9_0 := inj1 hF
        exact W.iret (v := (-100000000 : Int32)) hx hb hr (fun tt ht hW => ⟨_, rfl, e9_0, ht⟩) (fun _ h => by cases h) dX7_span_33
      ·
        replace hF := inn c_6 hF
        refine lv_aload_n hx hb dX7_span_20 rfl (lv_at hl 0 rfl) ?_
        refine gt_X7_3 (v := .ref a_now) hx hb hts i_f_X7_span_X7 hown hK hP 0 rfl (hts (.fieldLink RX7 35 "HushWatch" "now" "LHushWatch$State;") (List.mem_of_getElem? (i := 1) rfl)) rfl dX7_span_21 ?_
        refine lv_iload_n hx hb dX7_span_24 rfl (lv_at hl 1 rfl) ?_
        replace hF := bd1_s hF
        obtain ⟨r_7, hc_8, hF⟩ := hF
        have hPc : va_P E.1 vwCl (w_X5_isQuiet E a_now a_now_row a_now_partners a_now_share a_now_leftOver c_now_askedCount c_now_outcome c_now_row) s.heap := hP.sub (ws' := [(a_now, .inr (6, [.ref a_now_row, .ref a_now_partners, .int c_now_askedCount, .int c_now_outcome, .ref a_now_share, .ref a_now_leftOver])), (a_now_row, .inl (E.2.1, 81, .inl c_now_row))]) [1, 2] rfl
        have hrc := va_recv hK hPc (ci := 6) (q0 := 0) rfl rfl
        refine pE_z (va_runV (As := [.int p1]) (rest := [])  ⟨hx, hb, hml, hown, hts⟩ (f_X5_isQuiet l E (a_ := a_now) (a_row := a_now_row) (a_partners := a_now_partners) (a_share := a_now_share) (a_leftOver := a_now_leftOver) (p1 := p1) (c_askedCount := c_now_askedCount) (c_outcome := c_now_outcome) (c_row := c_now_row) hc_8) (cwV 1 hts g_f_X7_span_f_X5_isQuiet_137 rfl rfl rfl hd_X5_isQuiet ⟨Nat.le_of_ble_eq_true rfl, Nat.le_of_ble_eq_true rfl⟩) ⟨pP.blind, hrc, (pP.pre ⟨hK, hN⟩ hPc)⟩ rfl rfl hl.1 rfl (lv_room (Nat.le_of_ble_eq_true rfl)) dX7_span_25 ⟨Nat.le_of_ble_eq_true rfl, Nat.le_of_ble_eq_true rfl⟩) (fun hb_9 => ?_)
        refine lv_if_ne (tgt := 34) hx hb dX7_span_28 (by decide) (fun c_10 => ?_) (fun c_10 => ?_)
        ·
          replace hF := inn c_10 hF
          refine lv_iload_n hx hb dX7_span_34 rfl (lv_at hl 3 rfl) ?_
          refine lv_if_eq (tgt := 42) hx hb dX7_span_35 (by decide) (fun c_11 => ?_) (fun c_11 => ?_)
          ·
            replace hF := ip c_11 hF
            refine lv_iconst (v := -1) hx hb dX7_span_42 (by decide) ?_
            exact j_X7_span_43 l E K (p1 := p1) (p2 := p2) (p3 := p3) (c_hasImage := c_hasImage) (c_now_askedCount := c_now_askedCount) (c_now_outcome := c_now_outcome) (c_now_row := c_now_row) (k0 := (-1 : Int32)) hx hb hml hown hts hK hN hr hlocks hQ hF hP ls (lv_sub hl [0, 1, 2] rfl)
          ·
            replace hF := inn c_11 hF
            refine lv_iconst (v := 1) hx hb dX7_span_38 (by decide) ?_
            refine lv_goto (tgt := 43) hx hb dX7_span_39 (by decide) ?_
            exact j_X7_span_43 l E K (p1 := p1) (p2 := p2) (p3 := p3) (c_hasImage := c_hasImage) (c_now_askedCount := c_now_askedCount) (c_now_outcome := c_now_outcome) (c_now_row := c_now_row) (k0 := (1 : Int32)) hx hb hml hown hts hK hN hr hlocks hQ hF hP ls (lv_sub hl [0, 1, 2] rfl)
        ·
          replace hF := ip c_10 hF
          refine lv_ldc (v := -100000000) hx hb hown (hts (.constant RX7 113 (-100000000)) (List.mem_of_getElem? (i := 2) rfl)) dX7_span_31 ?_
          rw [hQ]
          obtain e9_0 := inj1 hF
          exact W.iret (v := (-100000000 : Int32)) hx hb hr (fun tt ht hW => ⟨_, rfl, e9_0, ht⟩) (fun _ h => by cases h) dX7_span_33
end
-- 40.pub07
section
def dl_X7_status_40_pub07_0 : List (Nat × Instr × Nat) := [(0, .iload_n 1, 1), (1, .ifCond .lt 21, 3), (22, .iconst (-1), 1), (23, .ireturn, 1), (4, .iload_n 1, 1), (5, .aload_n 0, 1), (6, .getfield 69, 3), (9, .arraylength, 1), (10, .if_icmp .ge 12, 3), (13, .aload_n 0, 1), (14, .getfield 69, 3), (17, .iload_n 1, 1), (18, .iaload, 1), (19, .goto 4, 3)]
set_option maxRecDepth 100000 in
theorem dall_X7_status_40_pub07_0 : dchk cX7_status dl_X7_status_40_pub07_0 = true := by decide +kernel
theorem dX7_status_0 : decode cX7_status 0 = .ok (.iload_n 1, 1) := dchk_at dall_X7_status_40_pub07_0 (k := 0) rfl
theorem dX7_status_1 : decode cX7_status 1 = .ok (.ifCond .lt 21, 3) := dchk_at dall_X7_status_40_pub07_0 (k := 1) rfl
theorem dX7_status_22 : decode cX7_status 22 = .ok (.iconst (-1), 1) := dchk_at dall_X7_status_40_pub07_0 (k := 2) rfl
theorem dX7_status_23 : decode cX7_status 23 = .ok (.ireturn, 1) := dchk_at dall_X7_status_40_pub07_0 (k := 3) rfl
theorem dX7_status_4 : decode cX7_status 4 = .ok (.iload_n 1, 1) := dchk_at dall_X7_status_40_pub07_0 (k := 4) rfl
theorem dX7_status_5 : decode cX7_status 5 = .ok (.aload_n 0, 1) := dchk_at dall_X7_status_40_pub07_0 (k := 5) rfl
theorem dX7_status_6 : decode cX7_status 6 = .ok (.getfield 69, 3) := dchk_at dall_X7_status_40_pub07_0 (k := 6) rfl
theorem dX7_status_9 : decode cX7_status 9 = .ok (.arraylength, 1) := dchk_at dall_X7_status_40_pub07_0 (k := 7) rfl
theorem dX7_status_10 : decode cX7_status 10 = .ok (.if_icmp .ge 12, 3) := dchk_at dall_X7_status_40_pub07_0 (k := 8) rfl
theorem dX7_status_13 : decode cX7_status 13 = .ok (.aload_n 0, 1) := dchk_at dall_X7_status_40_pub07_0 (k := 9) rfl
theorem dX7_status_14 : decode cX7_status 14 = .ok (.getfield 69, 3) := dchk_at dall_X7_status_40_pub07_0 (k := 10) rfl
theorem dX7_status_17 : decode cX7_status 17 = .ok (.iload_n 1, 1) := dchk_at dall_X7_status_40_pub07_0 (k := 11) rfl
theorem dX7_status_18 : decode cX7_status 18 = .ok (.iaload, 1) := dchk_at dall_X7_status_40_pub07_0 (k := 12) rfl
theorem dX7_status_19 : decode cX7_status 19 = .ok (.goto 4, 3) := dchk_at dall_X7_status_40_pub07_0 (k := 13) rfl
def dl_X7_step_40_pub07_0 : List (Nat × Instr × Nat) := [(0, .aload_n 0, 1), (1, .getfield 28, 3), (4, .iload_n 1, 1), (5, .iload_n 2, 1), (6, .iload_n 3, 1), (7, .invokevirtual 288, 3), (10, .ireturn, 1)]
set_option maxRecDepth 100000 in
theorem dall_X7_step_40_pub07_0 : dchk cX7_step dl_X7_step_40_pub07_0 = true := by decide +kernel
theorem dX7_step_0 : decode cX7_step 0 = .ok (.aload_n 0, 1) := dchk_at dall_X7_step_40_pub07_0 (k := 0) rfl
theorem dX7_step_1 : decode cX7_step 1 = .ok (.getfield 28, 3) := dchk_at dall_X7_step_40_pub07_0 (k := 1) rfl
theorem dX7_step_4 : decode cX7_step 4 = .ok (.iload_n 1, 1) := dchk_at dall_X7_step_40_pub07_0 (k := 2) rfl
theorem dX7_step_5 : decode cX7_step 5 = .ok (.iload_n 2, 1) := dchk_at dall_X7_step_40_pub07_0 (k := 3) rfl
theorem dX7_step_6 : decode cX7_step 6 = .ok (.iload_n 3, 1) := dchk_at dall_X7_step_40_pub07_0 (k := 4) rfl
theorem dX7_step_7 : decode cX7_step 7 = .ok (.invokevirtual 288, 3) := dchk_at dall_X7_step_40_pub07_0 (k := 5) rfl
theorem dX7_step_10 : decode cX7_step 10 = .ok (.ireturn, 1) := dchk_at dall_X7_step_40_pub07_0 (k := 6) rfl
def dl_X7_sync_40_pub07_0 : List (Nat × Instr × Nat) := [(0, .aload_n 0, 1), (1, .iconst 1, 1), (2, .iconst (-1), 1), (3, .iconst 0, 1), (4, .iconst 0, 1), (5, .iconst 1, 1), (6, .invokevirtual 163, 3), (9, .ireturn, 1)]
set_option maxRecDepth 100000 in
theorem dall_X7_sync_40_pub07_0 : dchk cX7_sync dl_X7_sync_40_pub07_0 = true := by decide +kernel
theorem dX7_sync_0 : decode cX7_sync 0 = .ok (.aload_n 0, 1) := dchk_at dall_X7_sync_40_pub07_0 (k := 0) rfl
theorem dX7_sync_1 : decode cX7_sync 1 = .ok (.iconst 1, 1) := dchk_at dall_X7_sync_40_pub07_0 (k := 1) rfl
theorem dX7_sync_2 : decode cX7_sync 2 = .ok (.iconst (-1), 1) := dchk_at dall_X7_sync_40_pub07_0 (k := 2) rfl
theorem dX7_sync_3 : decode cX7_sync 3 = .ok (.iconst 0, 1) := dchk_at dall_X7_sync_40_pub07_0 (k := 3) rfl
theorem dX7_sync_4 : decode cX7_sync 4 = .ok (.iconst 0, 1) := dchk_at dall_X7_sync_40_pub07_0 (k := 4) rfl
theorem dX7_sync_5 : decode cX7_sync 5 = .ok (.iconst 1, 1) := dchk_at dall_X7_sync_40_pub07_0 (k := 5) rfl
theorem dX7_sync_6 : decode cX7_sync 6 = .ok (.invokevirtual 163, 3) := dchk_at dall_X7_sync_40_pub07_0 (k := 6) rfl
theorem dX7_sync_9 : decode cX7_sync 9 = .ok (.ireturn, 1) := dchk_at dall_X7_sync_40_pub07_0 (k := 7) rfl
def dl_X7_tells_40_pub07_0 : List (Nat × Instr × Nat) := [(0, .aload_n 0, 1), (1, .iload_n 1, 1), (2, .iload_n 2, 1), (3, .invokevirtual 146, 3), (6, .ifCond .eq 21, 3), (27, .iconst 0, 1), (28, .ireturn, 1), (9, .aload_n 0, 1), (10, .getfield 35, 3), (13, .iload_n 1, 1), (14, .i2l, 1), (15, .iload_n 2, 1), (16, .i2l, 1), (17, .invokevirtual 156, 3), (20, .ifCond .eq 7, 3), (23, .iconst 1, 1), (24, .goto 4, 3)]
set_option maxRecDepth 100000 in
theorem dall_X7_tells_40_pub07_0 : dchk cX7_tells dl_X7_tells_40_pub07_0 = true := by decide +kernel
theorem dX7_tells_0 : decode cX7_tells 0 = .ok (.aload_n 0, 1) := dchk_at dall_X7_tells_40_pub07_0 (k := 0) rfl
theorem dX7_tells_1 : decode cX7_tells 1 = .ok (.iload_n 1, 1) := dchk_at dall_X7_tells_40_pub07_0 (k := 1) rfl
theorem dX7_tells_2 : decode cX7_tells 2 = .ok (.iload_n 2, 1) := dchk_at dall_X7_tells_40_pub07_0 (k := 2) rfl
theorem dX7_tells_3 : decode cX7_tells 3 = .ok (.invokevirtual 146, 3) := dchk_at dall_X7_tells_40_pub07_0 (k := 3) rfl
theorem dX7_tells_6 : decode cX7_tells 6 = .ok (.ifCond .eq 21, 3) := dchk_at dall_X7_tells_40_pub07_0 (k := 4) rfl
theorem dX7_tells_27 : decode cX7_tells 27 = .ok (.iconst 0, 1) := dchk_at dall_X7_tells_40_pub07_0 (k := 5) rfl
theorem dX7_tells_28 : decode cX7_tells 28 = .ok (.ireturn, 1) := dchk_at dall_X7_tells_40_pub07_0 (k := 6) rfl
theorem dX7_tells_9 : decode cX7_tells 9 = .ok (.aload_n 0, 1) := dchk_at dall_X7_tells_40_pub07_0 (k := 7) rfl
theorem dX7_tells_10 : decode cX7_tells 10 = .ok (.getfield 35, 3) := dchk_at dall_X7_tells_40_pub07_0 (k := 8) rfl
theorem dX7_tells_13 : decode cX7_tells 13 = .ok (.iload_n 1, 1) := dchk_at dall_X7_tells_40_pub07_0 (k := 9) rfl
theorem dX7_tells_14 : decode cX7_tells 14 = .ok (.i2l, 1) := dchk_at dall_X7_tells_40_pub07_0 (k := 10) rfl
theorem dX7_tells_15 : decode cX7_tells 15 = .ok (.iload_n 2, 1) := dchk_at dall_X7_tells_40_pub07_0 (k := 11) rfl
theorem dX7_tells_16 : decode cX7_tells 16 = .ok (.i2l, 1) := dchk_at dall_X7_tells_40_pub07_0 (k := 12) rfl
theorem dX7_tells_17 : decode cX7_tells 17 = .ok (.invokevirtual 156, 3) := dchk_at dall_X7_tells_40_pub07_0 (k := 13) rfl
theorem dX7_tells_20 : decode cX7_tells 20 = .ok (.ifCond .eq 7, 3) := dchk_at dall_X7_tells_40_pub07_0 (k := 14) rfl
theorem dX7_tells_23 : decode cX7_tells 23 = .ok (.iconst 1, 1) := dchk_at dall_X7_tells_40_pub07_0 (k := 15) rfl
theorem dX7_tells_24 : decode cX7_tells 24 = .ok (.goto 4, 3) := dchk_at dall_X7_tells_40_pub07_0 (k := 16) rfl
def dl_X7_text_40_pub07_0 : List (Nat × Instr × Nat) := [(20, .iload_n 1, 1), (21, .iconst 1, 1), (22, .if_icmp .ne 29, 3), (51, .iconst (-1), 1), (52, .ireturn, 1), (25, .aload_n 0, 1), (26, .getfield 28, 3), (29, .invokevirtual 103, 3), (32, .ifCond .ne 19, 3), (35, .aload_n 0, 1), (36, .getfield 21, 3), (39, .invokevirtual 97, 3), (42, .iconst (-1), 1), (43, .if_icmp .ne 8, 3), (46, .aload_n 0, 1), (47, .invokevirtual 107, 3), (50, .ireturn, 1), (0, .iload_n 1, 1), (1, .ifCond .ne 19, 3), (4, .aload_n 0, 1), (5, .getfield 21, 3), (8, .invokevirtual 93, 3), (11, .iconst (-1), 1), (12, .if_icmp .ne 8, 3), (15, .aload_n 0, 1), (16, .invokevirtual 100, 3), (19, .ireturn, 1)]
set_option maxRecDepth 100000 in
theorem dall_X7_text_40_pub07_0 : dchk cX7_text dl_X7_text_40_pub07_0 = true := by decide +kernel
theorem dX7_text_20 : decode cX7_text 20 = .ok (.iload_n 1, 1) := dchk_at dall_X7_text_40_pub07_0 (k := 0) rfl
theorem dX7_text_21 : decode cX7_text 21 = .ok (.iconst 1, 1) := dchk_at dall_X7_text_40_pub07_0 (k := 1) rfl
theorem dX7_text_22 : decode cX7_text 22 = .ok (.if_icmp .ne 29, 3) := dchk_at dall_X7_text_40_pub07_0 (k := 2) rfl
theorem dX7_text_51 : decode cX7_text 51 = .ok (.iconst (-1), 1) := dchk_at dall_X7_text_40_pub07_0 (k := 3) rfl
theorem dX7_text_52 : decode cX7_text 52 = .ok (.ireturn, 1) := dchk_at dall_X7_text_40_pub07_0 (k := 4) rfl
theorem dX7_text_25 : decode cX7_text 25 = .ok (.aload_n 0, 1) := dchk_at dall_X7_text_40_pub07_0 (k := 5) rfl
theorem dX7_text_26 : decode cX7_text 26 = .ok (.getfield 28, 3) := dchk_at dall_X7_text_40_pub07_0 (k := 6) rfl
theorem dX7_text_29 : decode cX7_text 29 = .ok (.invokevirtual 103, 3) := dchk_at dall_X7_text_40_pub07_0 (k := 7) rfl
theorem dX7_text_32 : decode cX7_text 32 = .ok (.ifCond .ne 19, 3) := dchk_at dall_X7_text_40_pub07_0 (k := 8) rfl
theorem dX7_text_35 : decode cX7_text 35 = .ok (.aload_n 0, 1) := dchk_at dall_X7_text_40_pub07_0 (k := 9) rfl
theorem dX7_text_36 : decode cX7_text 36 = .ok (.getfield 21, 3) := dchk_at dall_X7_text_40_pub07_0 (k := 10) rfl
theorem dX7_text_39 : decode cX7_text 39 = .ok (.invokevirtual 97, 3) := dchk_at dall_X7_text_40_pub07_0 (k := 11) rfl
theorem dX7_text_42 : decode cX7_text 42 = .ok (.iconst (-1), 1) := dchk_at dall_X7_text_40_pub07_0 (k := 12) rfl
theorem dX7_text_43 : decode cX7_text 43 = .ok (.if_icmp .ne 8, 3) := dchk_at dall_X7_text_40_pub07_0 (k := 13) rfl
theorem dX7_text_46 : decode cX7_text 46 = .ok (.aload_n 0, 1) := dchk_at dall_X7_text_40_pub07_0 (k := 14) rfl
theorem dX7_text_47 : decode cX7_text 47 = .ok (.invokevirtual 107, 3) := dchk_at dall_X7_text_40_pub07_0 (k := 15) rfl
theorem dX7_text_50 : decode cX7_text 50 = .ok (.ireturn, 1) := dchk_at dall_X7_text_40_pub07_0 (k := 16) rfl
theorem dX7_text_0 : decode cX7_text 0 = .ok (.iload_n 1, 1) := dchk_at dall_X7_text_40_pub07_0 (k := 17) rfl
theorem dX7_text_1 : decode cX7_text 1 = .ok (.ifCond .ne 19, 3) := dchk_at dall_X7_text_40_pub07_0 (k := 18) rfl
theorem dX7_text_4 : decode cX7_text 4 = .ok (.aload_n 0, 1) := dchk_at dall_X7_text_40_pub07_0 (k := 19) rfl
theorem dX7_text_5 : decode cX7_text 5 = .ok (.getfield 21, 3) := dchk_at dall_X7_text_40_pub07_0 (k := 20) rfl
theorem dX7_text_8 : decode cX7_text 8 = .ok (.invokevirtual 93, 3) := dchk_at dall_X7_text_40_pub07_0 (k := 21) rfl
theorem dX7_text_11 : decode cX7_text 11 = .ok (.iconst (-1), 1) := dchk_at dall_X7_text_40_pub07_0 (k := 22) rfl
theorem dX7_text_12 : decode cX7_text 12 = .ok (.if_icmp .ne 8, 3) := dchk_at dall_X7_text_40_pub07_0 (k := 23) rfl
theorem dX7_text_15 : decode cX7_text 15 = .ok (.aload_n 0, 1) := dchk_at dall_X7_text_40_pub07_0 (k := 24) rfl
theorem dX7_text_16 : decode cX7_text 16 = .ok (.invokevirtual 100, 3) := dchk_at dall_X7_text_40_pub07_0 (k := 25) rfl
theorem dX7_text_19 : decode cX7_text 19 = .ok (.ireturn, 1) := dchk_at dall_X7_text_40_pub07_0 (k := 26) rfl
def dl_X7_undo_40_pub07_0 : List (Nat × Instr × Nat) := [(0, .aload_n 0, 1), (1, .getfield 58, 3), (4, .aload_n 0, 1), (5, .getfield 35, 3), (8, .invokevirtual 197, 3), (11, .ifCond .eq 13, 3), (24, .iconst (-1), 1), (25, .ireturn, 1), (14, .aload_n 0, 1), (15, .getfield 58, 3), (18, .getfield 201, 3), (21, .goto 4, 3)]
set_option maxRecDepth 100000 in
theorem dall_X7_undo_40_pub07_0 : dchk cX7_undo dl_X7_undo_40_pub07_0 = true := by decide +kernel
theorem dX7_undo_0 : decode cX7_undo 0 = .ok (.aload_n 0, 1) := dchk_at dall_X7_undo_40_pub07_0 (k := 0) rfl
theorem dX7_undo_1 : decode cX7_undo 1 = .ok (.getfield 58, 3) := dchk_at dall_X7_undo_40_pub07_0 (k := 1) rfl
theorem dX7_undo_4 : decode cX7_undo 4 = .ok (.aload_n 0, 1) := dchk_at dall_X7_undo_40_pub07_0 (k := 2) rfl
theorem dX7_undo_5 : decode cX7_undo 5 = .ok (.getfield 35, 3) := dchk_at dall_X7_undo_40_pub07_0 (k := 3) rfl
theorem dX7_undo_8 : decode cX7_undo 8 = .ok (.invokevirtual 197, 3) := dchk_at dall_X7_undo_40_pub07_0 (k := 4) rfl
theorem dX7_undo_11 : decode cX7_undo 11 = .ok (.ifCond .eq 13, 3) := dchk_at dall_X7_undo_40_pub07_0 (k := 5) rfl
theorem dX7_undo_24 : decode cX7_undo 24 = .ok (.iconst (-1), 1) := dchk_at dall_X7_undo_40_pub07_0 (k := 6) rfl
theorem dX7_undo_25 : decode cX7_undo 25 = .ok (.ireturn, 1) := dchk_at dall_X7_undo_40_pub07_0 (k := 7) rfl
theorem dX7_undo_14 : decode cX7_undo 14 = .ok (.aload_n 0, 1) := dchk_at dall_X7_undo_40_pub07_0 (k := 8) rfl
theorem dX7_undo_15 : decode cX7_undo 15 = .ok (.getfield 58, 3) := dchk_at dall_X7_undo_40_pub07_0 (k := 9) rfl
theorem dX7_undo_18 : decode cX7_undo 18 = .ok (.getfield 201, 3) := dchk_at dall_X7_undo_40_pub07_0 (k := 10) rfl
theorem dX7_undo_21 : decode cX7_undo 21 = .ok (.goto 4, 3) := dchk_at dall_X7_undo_40_pub07_0 (k := 11) rfl
def dl_X7_value_40_pub07_0 : List (Nat × Instr × Nat) := [(0, .aload_n 0, 1), (1, .iload_n 1, 1), (2, .iload_n 2, 1), (3, .invokevirtual 146, 3), (6, .ifCond .eq 17, 3), (23, .ldc2_w 154, 3), (26, .lreturn, 1), (9, .aload_n 0, 1), (10, .getfield 35, 3), (13, .iload_n 1, 1), (14, .i2l, 1), (15, .iload_n 2, 1), (16, .i2l, 1), (17, .invokevirtual 150, 3), (20, .goto 6, 3)]
set_option maxRecDepth 100000 in
theorem dall_X7_value_40_pub07_0 : dchk cX7_value dl_X7_value_40_pub07_0 = true := by decide +kernel
theorem dX7_value_0 : decode cX7_value 0 = .ok (.aload_n 0, 1) := dchk_at dall_X7_value_40_pub07_0 (k := 0) rfl
theorem dX7_value_1 : decode cX7_value 1 = .ok (.iload_n 1, 1) := dchk_at dall_X7_value_40_pub07_0 (k := 1) rfl
theorem dX7_value_2 : decode cX7_value 2 = .ok (.iload_n 2, 1) := dchk_at dall_X7_value_40_pub07_0 (k := 2) rfl
theorem dX7_value_3 : decode cX7_value 3 = .ok (.invokevirtual 146, 3) := dchk_at dall_X7_value_40_pub07_0 (k := 3) rfl
theorem dX7_value_6 : decode cX7_value 6 = .ok (.ifCond .eq 17, 3) := dchk_at dall_X7_value_40_pub07_0 (k := 4) rfl
theorem dX7_value_23 : decode cX7_value 23 = .ok (.ldc2_w 154, 3) := dchk_at dall_X7_value_40_pub07_0 (k := 5) rfl
theorem dX7_value_26 : decode cX7_value 26 = .ok (.lreturn, 1) := dchk_at dall_X7_value_40_pub07_0 (k := 6) rfl
theorem dX7_value_9 : decode cX7_value 9 = .ok (.aload_n 0, 1) := dchk_at dall_X7_value_40_pub07_0 (k := 7) rfl
theorem dX7_value_10 : decode cX7_value 10 = .ok (.getfield 35, 3) := dchk_at dall_X7_value_40_pub07_0 (k := 8) rfl
theorem dX7_value_13 : decode cX7_value 13 = .ok (.iload_n 1, 1) := dchk_at dall_X7_value_40_pub07_0 (k := 9) rfl
theorem dX7_value_14 : decode cX7_value 14 = .ok (.i2l, 1) := dchk_at dall_X7_value_40_pub07_0 (k := 10) rfl
theorem dX7_value_15 : decode cX7_value 15 = .ok (.iload_n 2, 1) := dchk_at dall_X7_value_40_pub07_0 (k := 11) rfl
theorem dX7_value_16 : decode cX7_value 16 = .ok (.i2l, 1) := dchk_at dall_X7_value_40_pub07_0 (k := 12) rfl
theorem dX7_value_17 : decode cX7_value 17 = .ok (.invokevirtual 150, 3) := dchk_at dall_X7_value_40_pub07_0 (k := 13) rfl
theorem dX7_value_20 : decode cX7_value 20 = .ok (.goto 6, 3) := dchk_at dall_X7_value_40_pub07_0 (k := 14) rfl
def F_X7_status (p1 : Int32) (c_refused : Nat → Int32) : Option (Int32) :=
  if p1 < (0 : Int32) then some (-1 : Int32) else if (3 : Int32) ≤ p1 then some (-1 : Int32) else ixF p1 3 (some (c_refused p1.toNatClampNeg))
abbrev w_X7_status (E : EE) (a_ a_tape a_reader a_scripts a_now a_trial a_kept a_book a_keptBook a_history a_draws a_refused : Nat) (c_hasImage : Int32) (c_refused : Nat → Int32) : va_W := [(a_, .inr (8, [.ref a_tape, .ref a_reader, .ref a_scripts, .ref a_now, .ref a_trial, .ref a_kept, .ref a_book, .ref a_keptBook, .ref a_history, .ref a_draws, .ref a_refused, .int c_hasImage])), (a_refused, .inl (E.2.1, 3, .inl c_refused))]
def v_f_X7_status : List Cond := .code yX7_status cX7_status 2 (some .int) :: ([.fieldLink RX7 69 "HushWatch" "refused" "[I"] ++ (wsX70 ++ ([])))
theorem gw_f_X7_status : v_f_X7_status.all goodWord = true := by decide +kernel
theorem i_f_X7_status_X7 : ∀ w ∈ wsX70, w ∈ v_f_X7_status := fun _ h => List.mem_cons_of_mem _ (List.mem_append_right _ (List.mem_append_left _ h))
theorem hd_X7_status : yX7_status.cls = RX7 ∧ yX7_status.cls ≠ "java/lang/invoke/MethodHandle" ∧ yX7_status.cls ≠ "java/lang/invoke/VarHandle" ∧ (parseMethodDescriptor yX7_status.desc).map (fun d => d.parameters.length) = some 1 := by decide +kernel
set_option maxHeartbeats 4000000 in
set_option maxRecDepth 100000 in
theorem f_X7_status (l : Launch) (E : EE) {a_ a_tape a_reader a_scripts a_now a_trial a_kept a_book a_keptBook a_history a_draws a_refused : Nat} {p1 : Int32} {c_hasImage : Int32} {c_refused : Nat → Int32} {rr : Int32} (hF : F_X7_status p1 c_refused = some rr) : Met l yX7_status v_f_X7_status (({ frames := 0, cells := 0, slots := 0, locals := 0 } : Room)) (va_Pc [.ref a_, .int p1] (pP E (w_X7_status E a_ a_tape a_reader a_scripts a_now a_trial a_kept a_book a_keptBook a_history a_draws a_refused c_hasImage c_refused))) (vp_Si (fun q : Int32 => q = rr)) 0 0 (fun _ => False) := by
  refine Met.ofW (cc := cX7_status) (maxL := 2) (ret := (some .int)) (by decide) rfl ?_
  intro p e s m args below meth c s₁ B hml hv
  obtain ⟨rfl, ⟨hK, hN⟩, hP⟩ := hv
  have hx := B.exec
  have hb := B.bytes
  have hr := B.returns
  have hts := atoms_spec (ws := v_f_X7_status) B.pre
  have hown : s.vm.findClass RX7 = some m.cls := own_of hd_X7_status.1 (findClass_of_methodNamed B.named)
  have hlocks : meth.locks = false := B.notSynchronized
  replace hP : va_P E.1 vwCl [(a_, .inr (8, [.ref a_tape, .ref a_reader, .ref a_scripts, .ref a_now, .ref a_trial, .ref a_kept, .ref a_book, .ref a_keptBook, .ref a_history, .ref a_draws, .ref a_refused, .int c_hasImage])), (a_refused, .inl (E.2.1, 3, .inl c_refused))] s.heap := hP
  have hl := lv_entry ([.ref a_, .int p1]) (n := 2) (Nat.le_of_ble_eq_true rfl)
  rw [lg_entry_eq]
  generalize (lg_sl ([.ref a_, .int p1]) ++ List.replicate (2 - (lg_sl ([.ref a_, .int p1])).length) Slot.unset).toArray = ls at hl ⊢
  have hl : lv_has ls 2 [(0, .ref a_), (1, .int p1)] := hl
  obtain ⟨Q, hQ⟩ : ∃ Q : State → Prop, Q = MQ below (vp_Si (fun q : Int32 => q = rr)) #[Value.ref a_, Value.int p1] s 0 0 (fun _ => False) := ⟨_, rfl⟩
  rw [← hQ]
  change W p l e ({ frames := 0, cells := 0, slots := 0, locals := 0 } : Room) s m #[Value.ref a_, Value.int p1] below meth c s.heap [] 0 0 Q (F0 m 0 ls [])
  unfold F_X7_status at hF
  refine lv_iload_n hx hb dX7_status_0 rfl (lv_at hl 1 rfl) ?_
  refine lv_if_lt (tgt := 22) hx hb dX7_status_1 (by decide) (fun c_1 => ?_) (fun c_1 => ?_)
  ·
    replace hF := ip c_1 hF
    refine lv_iconst (v := -1) hx hb dX7_status_22 (by decide) ?_
    rw [hQ]
    obtain e9_0 := inj1 hF
    exact W.iret (v := (-1 : Int32)) hx hb hr (fun tt ht hW => ⟨_, rfl, e9_0, ht⟩) (fun _ h => by cases h) dX7_status_23
  ·
    replace hF := inn c_1 hF
    refine lv_iload_n hx hb dX7_status_4 rfl (lv_at hl 1 rfl) ?_
    refine lv_aload_n hx hb dX7_status_5 rfl (lv_at hl 0 rfl) ?_
    refine gt_X7_10 (v := .ref a_refused) hx hb hts i_f_X7_status_X7 hown hK hP 0 rfl (hts (.fieldLink RX7 69 "HushWatch" "refused" "[I") (List.mem_of_getElem? (i := 1) rfl)) rfl dX7_status_6 ?_
    refine va_alen (v := 3) hx hb hK hP 1 0 rfl rfl rfl dX7_status_9 ?_
    refine lv_icmp_ge (tgt := 22) hx hb dX7_status_10 (by decide) (fun c_2 => ?_) (fun c_2 => ?_)
    ·
      replace hF := ip c_2 hF
      refine lv_iconst (v := -1) hx hb dX7_status_22 (by decide) ?_
      rw [hQ]
      obtain e9_0 := inj1 hF
      exact W.iret (v := (-1 : Int32)) hx hb hr (fun tt ht hW => ⟨_, rfl, e9_0, ht⟩) (fun _ h => by cases h) dX7_status_23
    ·
      replace hF := inn c_2 hF
      refine lv_aload_n hx hb dX7_status_13 rfl (lv_at hl 0 rfl) ?_
      refine gt_X7_10 (v := .ref a_refused) hx hb hts i_f_X7_status_X7 hown hK hP 0 rfl (hts (.fieldLink RX7 69 "HushWatch" "refused" "[I") (List.mem_of_getElem? (i := 1) rfl)) rfl dX7_status_14 ?_
      refine lv_iload_n hx hb dX7_status_17 rfl (lv_at hl 1 rfl) ?_
      replace hF := ix_s hF
      obtain ⟨hi_3, hF⟩ := hF
      refine va_iald hx hb hK hP 1 0 rfl rfl hi_3 dX7_status_18 ?_
      refine lv_goto (tgt := 23) hx hb dX7_status_19 (by decide) ?_
      rw [hQ]
      obtain e9_0 := inj1 hF
      exact W.iret (v := c_refused p1.toNatClampNeg) hx hb hr (fun tt ht hW => ⟨_, rfl, e9_0, ht⟩) (fun _ h => by cases h) dX7_status_23

def F_X7_step (p1 : Int32) (p2 : Int32) (p3 : Int32) (c_scripts_steps : Nat → Int32) (c_scripts_counts : Nat → Int32) (c_scripts_held : Int32) : Option (Int32) :=
  bd1 (F_X4_read p1 p2 p3 c_scripts_steps c_scripts_counts c_scripts_held) (fun r_1 => some r_1)
abbrev w_X7_step (E : EE) (a_ a_tape a_reader a_scripts a_now a_trial a_kept a_book a_keptBook a_history a_draws a_refused a_scripts_steps a_scripts_counts : Nat) (c_hasImage : Int32) (c_scripts_held : Int32) (c_scripts_steps : Nat → Int32) (c_scripts_counts : Nat → Int32) : va_W := [(a_, .inr (8, [.ref a_tape, .ref a_reader, .ref a_scripts, .ref a_now, .ref a_trial, .ref a_kept, .ref a_book, .ref a_keptBook, .ref a_history, .ref a_draws, .ref a_refused, .int c_hasImage])), (a_scripts, .inr (5, [.ref a_scripts_steps, .ref a_scripts_counts, .int c_scripts_held])), (a_scripts_steps, .inl (E.2.1, 192, .inl c_scripts_steps)), (a_scripts_counts, .inl (E.2.1, 4, .inl c_scripts_counts))]
def v_f_X7_step : List Cond := .code yX7_step cX7_step 4 (some .int) :: ([.fieldLink RX7 28 "HushWatch" "scripts" "LHushWatch$Scripts;", .methodLink RX7 288 yX4_read, .instanceMethod yX4_read, .selects RX4 yX4_read yX4_read, .initialized RX4] ++ (wsX70 ++ (v_f_X4_read ++ ([]))))
theorem gw_f_X7_step : v_f_X7_step.all goodWord = true := by decide +kernel
theorem i_f_X7_step_X7 : ∀ w ∈ wsX70, w ∈ v_f_X7_step := fun _ h => List.mem_cons_of_mem _ (List.mem_append_right _ (List.mem_append_left _ h))
theorem g_f_X7_step_f_X4_read_288 : GoodIn v_f_X7_step (wsV RX7 288 RX4 yX4_read v_f_X4_read) := goodIn_app (goodIn_of _ (by decide +kernel)) (goodIn_sub (fun _ h => List.mem_cons_of_mem _ (List.mem_append_right _ (List.mem_append_right _ (List.mem_append_left _ h)))) gw_f_X4_read)
theorem hd_X7_step : yX7_step.cls = RX7 ∧ yX7_step.cls ≠ "java/lang/invoke/MethodHandle" ∧ yX7_step.cls ≠ "java/lang/invoke/VarHandle" ∧ (parseMethodDescriptor yX7_step.desc).map (fun d => d.parameters.length) = some 3 := by decide +kernel
set_option maxHeartbeats 4000000 in
set_option maxRecDepth 100000 in
theorem f_X7_step (l : Launch) (E : EE) {a_ a_tape a_reader a_scripts a_now a_trial a_kept a_book a_keptBook a_history a_draws a_refused a_scripts_steps a_scripts_counts : Nat} {p1 : Int32} {p2 : Int32} {p3 : Int32} {c_hasImage : Int32} {c_scripts_held : Int32} {c_scripts_steps : Nat → Int32} {c_scripts_counts : Nat → Int32} {rr : Int32} (hF : F_X7_step p1 p2 p3 c_scripts_steps c_scripts_counts c_scripts_held = some rr) : Met l yX7_step v_f_X7_step (({ frames := 3, cells := 0, slots := 0, locals := 65 } : Room)) (va_Pc [.ref a_, .int p1, .int p2, .int p3] (pP E (w_X7_step E a_ a_tape a_reader a_scripts a_now a_trial a_kept a_book a_keptBook a_history a_draws a_refused a_scripts_steps a_scripts_counts c_hasImage c_scripts_held c_scripts_steps c_scripts_counts))) (vp_Si (fun q : Int32 => q = rr)) 0 0 (fun _ => False) := by
  refine Met.ofW (cc := cX7_step) (maxL := 4) (ret := (some .int)) (by decide) rfl ?_
  intro p e s m args below meth c s₁ B hml hv
  obtain ⟨rfl, ⟨hK, hN⟩, hP⟩ := hv
  have hx := B.exec
  have hb := B.bytes
  have hr := B.returns
  have hts := atoms_spec (ws := v_f_X7_step) B.pre
  have hown : s.vm.findClass RX7 = some m.cls := own_of hd_X7_step.1 (findClass_of_methodNamed B.named)
  have hlocks : meth.locks = false := B.notSynchronized
  replace hP : va_P E.1 vwCl [(a_, .inr (8, [.ref a_tape, .ref a_reader, .ref a_scripts, .ref a_now, .ref a_trial, .ref a_kept, .ref a_book, .ref a_keptBook, .ref a_history, .ref a_draws, .ref a_refused, .int c_hasImage])), (a_scripts, .inr (5, [.ref a_scripts_steps, .ref a_scripts_counts, .int c_scripts_held])), (a_scripts_steps, .inl (E.2.1, 192, .inl c_scripts_steps)), (a_scripts_counts, .inl (E.2.1, 4, .inl c_scripts_counts))] s.heap := hP
  have hl := lv_entry ([.ref a_, .int p1, .int p2, .int p3]) (n := 4) (Nat.le_of_ble_eq_true rfl)
  rw [lg_entry_eq]
  generalize (lg_sl ([.ref a_, .int p1, .int p2, .int p3]) ++ List.replicate (4 - (lg_sl ([.ref a_, .int p1, .int p2, .int p3])).length) Slot.unset).toArray = ls at hl ⊢
  have hl : lv_has ls 4 [(0, .ref a_), (1, .int p1), (2, .int p2), (3, .int p3)] := hl
  obtain ⟨Q, hQ⟩ : ∃ Q : State → Prop, Q = MQ below (vp_Si (fun q : Int32 => q = rr)) #[Value.ref a_, Value.int p1, Value.int p2, Value.int p3] s 0 0 (fun _ => False) := ⟨_, rfl⟩
  rw [← hQ]
  change W p l e ({ frames := 3, cells := 0, slots := 0, locals := 65 } : Room) s m #[Value.ref a_, Value.int p1, Value.int p2, Value.int p3] below meth c s.heap [] 0 0 Q (F0 m 0 ls [])
  unfold F_X7_step at hF
  refine lv_aload_n hx hb dX7_step_0 rfl (lv_at hl 0 rfl) ?_
  refine gt_X7_2 (v := .ref a_scripts) hx hb hts i_f_X7_step_X7 hown hK hP 0 rfl (hts (.fieldLink RX7 28 "HushWatch" "scripts" "LHushWatch$Scripts;") (List.mem_of_getElem? (i := 1) rfl)) rfl dX7_step_1 ?_
  refine lv_iload_n hx hb dX7_step_4 rfl (lv_at hl 1 rfl) ?_
  refine lv_iload_n hx hb dX7_step_5 rfl (lv_at hl 2 rfl) ?_
  refine lv_iload_n hx hb dX7_step_6 rfl (lv_at hl 3 rfl) ?_
  replace hF := bd1_s hF
  obtain ⟨r_1, hc_2, hF⟩ := hF
  have hPc : va_P E.1 vwCl (w_X4_read E a_scripts a_scripts_steps a_scripts_counts c_scripts_held c_scripts_steps c_scripts_counts) s.heap := hP.sub (ws' := [(a_scripts, .inr (5, [.ref a_scripts_steps, .ref a_scripts_counts, .int c_scripts_held])), (a_scripts_steps, .inl (E.2.1, 192, .inl c_scripts_steps)), (a_scripts_counts, .inl (E.2.1, 4, .inl c_scripts_counts))]) [1, 2, 3] rfl
  have hrc := va_recv hK hPc (ci := 5) (q0 := 0) rfl rfl
  refine pE_i (va_runV (As := [.int p1, .int p2, .int p3]) (rest := [])  ⟨hx, hb, hml, hown, hts⟩ (f_X4_read l E (a_ := a_scripts) (a_steps := a_scripts_steps) (a_counts := a_scripts_counts) (p1 := p1) (p2 := p2) (p3 := p3) (c_held := c_scripts_held) (c_steps := c_scripts_steps) (c_counts := c_scripts_counts) hc_2) (cwV 3 hts g_f_X7_step_f_X4_read_288 rfl rfl rfl hd_X4_read ⟨Nat.le_of_ble_eq_true rfl, Nat.le_of_ble_eq_true rfl⟩) ⟨pP.blind, hrc, (pP.pre ⟨hK, hN⟩ hPc)⟩ rfl rfl hl.1 rfl (lv_room (Nat.le_of_ble_eq_true rfl)) dX7_step_7 ⟨Nat.le_of_ble_eq_true rfl, Nat.le_of_ble_eq_true rfl⟩) ?_
  rw [hQ]
  obtain e9_0 := inj1 hF
  exact W.iret (v := r_1) hx hb hr (fun tt ht hW => ⟨_, rfl, e9_0, ht⟩) (fun _ h => by cases h) dX7_step_10

def F_X7_sync (K : Nat) (c_now_row : Nat → Int32) (c_now_partners : Nat → Int32) (c_now_askedCount : Int32) (c_now_outcome : Int32) (c_now_share : Nat → Int32) (c_now_leftOver : Nat → Int32) (c_book_lines : Nat → Int32) (c_history_rows : Nat → Int32) (c_history_next : Int32) (c_history_held : Int32) (c_refused : Nat → Int32) : Option (Int32 × (Nat → Int32) × (Nat → Int32) × Int32 × Int32 × (Nat → Int32) × (Nat → Int32) × (Nat → Int32) × (Nat → Int32) × Int32 × Int32 × (Nat → Int32)) :=
  bd12 (F_X7_act K (1 : Int32) (-1 : Int32) (0 : Int32) (0 : Int32) (1 : Int32) c_now_row c_now_partners c_now_askedCount c_now_outcome c_now_share c_now_leftOver c_book_lines c_history_rows c_history_next c_history_held c_refused) (fun r_1 w_2 w_3 w_4 w_5 w_6 w_7 w_8 w_9 w_10 w_11 w_12 => some (r_1, w_2, w_3, w_4, w_5, w_6, w_7, w_8, w_9, w_10, w_11, w_12))
abbrev w_X7_sync (E : EE) (a_ a_tape a_reader a_scripts a_now a_trial a_kept a_book a_keptBook a_history a_draws a_refused a_now_row a_now_partners a_now_share a_now_leftOver a_book_lines a_history_rows : Nat) (c_hasImage : Int32) (c_now_askedCount : Int32) (c_now_outcome : Int32) (c_now_row : Nat → Int32) (c_now_partners : Nat → Int32) (c_now_share : Nat → Int32) (c_now_leftOver : Nat → Int32) (c_book_lines : Nat → Int32) (c_history_next : Int32) (c_history_held : Int32) (c_history_rows : Nat → Int32) (c_refused : Nat → Int32) : va_W := [(a_, .inr (8, [.ref a_tape, .ref a_reader, .ref a_scripts, .ref a_now, .ref a_trial, .ref a_kept, .ref a_book, .ref a_keptBook, .ref a_history, .ref a_draws, .ref a_refused, .int c_hasImage])), (a_now, .inr (6, [.ref a_now_row, .ref a_now_partners, .int c_now_askedCount, .int c_now_outcome, .ref a_now_share, .ref a_now_leftOver])), (a_now_row, .inl (E.2.1, 81, .inl c_now_row)), (a_now_partners, .inl (E.2.1, 8, .inl c_now_partners)), (a_now_share, .inl (E.2.1, 2, .inl c_now_share)), (a_now_leftOver, .inl (E.2.1, 2, .inl c_now_leftOver)), (a_book, .inr (1, [.ref a_book_lines])), (a_book_lines, .inl (E.2.1, 300, .inl c_book_lines)), (a_history, .inr (3, [.ref a_history_rows, .int c_history_next, .int c_history_held])), (a_history_rows, .inl (E.2.1, 3240, .inl c_history_rows)), (a_refused, .inl (E.2.1, 3, .inl c_refused))]
def v_f_X7_sync : List Cond := .code yX7_sync cX7_sync 1 (some .int) :: ([.methodLink RX7 163 yX7_act, .instanceMethod yX7_act, .selects RX7 yX7_act yX7_act, .initialized RX7] ++ (v_f_X7_act ++ ([])))
theorem gw_f_X7_sync : v_f_X7_sync.all goodWord = true := by decide +kernel
theorem g_f_X7_sync_f_X7_act_163 : GoodIn v_f_X7_sync (wsV RX7 163 RX7 yX7_act v_f_X7_act) := goodIn_app (goodIn_of _ (by decide +kernel)) (goodIn_sub (fun _ h => List.mem_cons_of_mem _ (List.mem_append_right _ (List.mem_append_left _ h))) gw_f_X7_act)
theorem hd_X7_sync : yX7_sync.cls = RX7 ∧ yX7_sync.cls ≠ "java/lang/invoke/MethodHandle" ∧ yX7_sync.cls ≠ "java/lang/invoke/VarHandle" ∧ (parseMethodDescriptor yX7_sync.desc).map (fun d => d.parameters.length) = some 0 := by decide +kernel
set_option maxHeartbeats 4000000 in
set_option maxRecDepth 100000 in
theorem f_X7_sync (l : Launch) (E : EE) (sz : Nat) (K : Nat) {a_ a_tape a_reader a_scripts a_now a_trial a_kept a_book a_keptBook a_history a_draws a_refused a_now_row a_now_partners a_now_share a_now_leftOver a_book_lines a_history_rows : Nat} {c_hasImage : Int32} {c_now_askedCount : Int32} {c_now_outcome : Int32} {c_now_row : Nat → Int32} {c_now_partners : Nat → Int32} {c_now_share : Nat → Int32} {c_now_leftOver : Nat → Int32} {c_book_lines : Nat → Int32} {c_history_next : Int32} {c_history_held : Int32} {c_history_rows : Nat → Int32} {c_refused : Nat → Int32} {rr : Int32} {n_now_row : Nat → Int32} {n_now_partners : Nat → Int32} {n_now_askedCount : Int32} {n_now_outcome : Int32} {n_now_share : Nat → Int32} {n_now_leftOver : Nat → Int32} {n_book_lines : Nat → Int32} {n_history_rows : Nat → Int32} {n_history_next : Int32} {n_history_held : Int32} {n_refused : Nat → Int32} (hF : F_X7_sync K c_now_row c_now_partners c_now_askedCount c_now_outcome c_now_share c_now_leftOver c_book_lines c_history_rows c_history_next c_history_held c_refused = some (rr, n_now_row, n_now_partners, n_now_askedCount, n_now_outcome, n_now_share, n_now_leftOver, n_book_lines, n_history_rows, n_history_next, n_history_held, n_refused)) : Met l yX7_sync v_f_X7_sync (({ frames := 6, cells := 0, slots := 0, locals := 151 } : Room)) (va_Pc [.ref a_] (pW E sz (w_X7_sync E a_ a_tape a_reader a_scripts a_now a_trial a_kept a_book a_keptBook a_history a_draws a_refused a_now_row a_now_partners a_now_share a_now_leftOver a_book_lines a_history_rows c_hasImage c_now_askedCount c_now_outcome c_now_row c_now_partners c_now_share c_now_leftOver c_book_lines c_history_next c_history_held c_history_rows c_refused))) (va_Qi (fun (q : Int32) (_u : Unit) => q = rr) (fun (_u : Unit) tt => va_P E.1 vwCl (w_X7_sync E a_ a_tape a_reader a_scripts a_now a_trial a_kept a_book a_keptBook a_history a_draws a_refused a_now_row a_now_partners a_now_share a_now_leftOver a_book_lines a_history_rows c_hasImage n_now_askedCount n_now_outcome n_now_row n_now_partners n_now_share n_now_leftOver n_book_lines n_history_next n_history_held n_history_rows n_refused) tt.heap ∧ va_D (va_A (w_X7_sync E a_ a_tape a_reader a_scripts a_now a_trial a_kept a_book a_keptBook a_history a_draws a_refused a_now_row a_now_partners a_now_share a_now_leftOver a_book_lines a_history_rows c_hasImage c_now_askedCount c_now_outcome c_now_row c_now_partners c_now_share c_now_leftOver c_book_lines c_history_next c_history_held c_history_rows c_refused) sz) (w_X7_sync E a_ a_tape a_reader a_scripts a_now a_trial a_kept a_book a_keptBook a_history a_draws a_refused a_now_row a_now_partners a_now_share a_now_leftOver a_book_lines a_history_rows c_hasImage n_now_askedCount n_now_outcome n_now_row n_now_partners n_now_share n_now_leftOver n_book_lines n_history_next n_history_held n_history_rows n_refused)) (va_A (w_X7_sync E a_ a_tape a_reader a_scripts a_now a_trial a_kept a_book a_keptBook a_history a_draws a_refused a_now_row a_now_partners a_now_share a_now_leftOver a_book_lines a_history_rows c_hasImage c_now_askedCount c_now_outcome c_now_row c_now_partners c_now_share c_now_leftOver c_book_lines c_history_next c_history_held c_history_rows c_refused) sz)) 0 0 (va_A (w_X7_sync E a_ a_tape a_reader a_scripts a_now a_trial a_kept a_book a_keptBook a_history a_draws a_refused a_now_row a_now_partners a_now_share a_now_leftOver a_book_lines a_history_rows c_hasImage c_now_askedCount c_now_outcome c_now_row c_now_partners c_now_share c_now_leftOver c_book_lines c_history_next c_history_held c_history_rows c_refused) sz) := by
  refine Met.ofW (cc := cX7_sync) (maxL := 1) (ret := (some .int)) (by decide) rfl ?_
  intro p e s m args below meth c s₁ B hml hv
  obtain ⟨rfl, hsz, ⟨hK, hN⟩, hP, hD0⟩ := hv
  have hx := B.exec
  have hb := B.bytes
  have hr := B.returns
  have hts := atoms_spec (ws := v_f_X7_sync) B.pre
  have hown : s.vm.findClass RX7 = some m.cls := own_of hd_X7_sync.1 (findClass_of_methodNamed B.named)
  have hlocks : meth.locks = false := B.notSynchronized
  subst hsz
  have hD := hD0.self (sz := s.heap.size)
  generalize hAe : va_A (w_X7_sync E a_ a_tape a_reader a_scripts a_now a_trial a_kept a_book a_keptBook a_history a_draws a_refused a_now_row a_now_partners a_now_share a_now_leftOver a_book_lines a_history_rows c_hasImage c_now_askedCount c_now_outcome c_now_row c_now_partners c_now_share c_now_leftOver c_book_lines c_history_next c_history_held c_history_rows c_refused) s.heap.size = A at hD ⊢
  have hA : ∀ q : Nat, s.heap.size ≤ q → A q := fun q h => by rw [← hAe]; exact Or.inr h
  have hS : va_S A s.heap s.heap [] := va_S.rf
  have hl := lv_entry ([.ref a_]) (n := 1) (Nat.le_of_ble_eq_true rfl)
  rw [lg_entry_eq]
  generalize (lg_sl ([.ref a_]) ++ List.replicate (1 - (lg_sl ([.ref a_])).length) Slot.unset).toArray = ls at hl ⊢
  have hl : lv_has ls 1 [(0, .ref a_)] := hl
  obtain ⟨Q, hQ⟩ : ∃ Q : State → Prop, Q = MQ below (va_Qi (fun (q : Int32) (_u : Unit) => q = rr) (fun (_u : Unit) tt => va_P E.1 vwCl (w_X7_sync E a_ a_tape a_reader a_scripts a_now a_trial a_kept a_book a_keptBook a_history a_draws a_refused a_now_row a_now_partners a_now_share a_now_leftOver a_book_lines a_history_rows c_hasImage n_now_askedCount n_now_outcome n_now_row n_now_partners n_now_share n_now_leftOver n_book_lines n_history_next n_history_held n_history_rows n_refused) tt.heap ∧ va_D A (w_X7_sync E a_ a_tape a_reader a_scripts a_now a_trial a_kept a_book a_keptBook a_history a_draws a_refused a_now_row a_now_partners a_now_share a_now_leftOver a_book_lines a_history_rows c_hasImage n_now_askedCount n_now_outcome n_now_row n_now_partners n_now_share n_now_leftOver n_book_lines n_history_next n_history_held n_history_rows n_refused)) A) #[Value.ref a_] s 0 0 A := ⟨_, rfl⟩
  rw [← hQ]
  change W p l e ({ frames := 6, cells := 0, slots := 0, locals := 151 } : Room) s m #[Value.ref a_] below meth c s.heap [] 0 0 Q (F0 m 0 ls [])
  suffices hh9 : ∀ (H : Heap) (locs : List Loc), va_P E.1 vwCl (w_X7_sync E a_ a_tape a_reader a_scripts a_now a_trial a_kept a_book a_keptBook a_history a_draws a_refused a_now_row a_now_partners a_now_share a_now_leftOver a_book_lines a_history_rows c_hasImage c_now_askedCount c_now_outcome c_now_row c_now_partners c_now_share c_now_leftOver c_book_lines c_history_next c_history_held c_history_rows c_refused) H → va_D A (w_X7_sync E a_ a_tape a_reader a_scripts a_now a_trial a_kept a_book a_keptBook a_history a_draws a_refused a_now_row a_now_partners a_now_share a_now_leftOver a_book_lines a_history_rows c_hasImage c_now_askedCount c_now_outcome c_now_row c_now_partners c_now_share c_now_leftOver c_book_lines c_history_next c_history_held c_history_rows c_refused) → va_S A s.heap H locs → W p l e ({ frames := 6, cells := 0, slots := 0, locals := 151 } : Room) s m #[Value.ref a_] below meth c H locs 0 0 Q (F0 m 0 ls []) from hh9 s.heap [] hP hD hS
  clear hP hD hS
  intro H locs hP hD hS
  replace hP : va_P E.1 vwCl [(a_, .inr (8, [.ref a_tape, .ref a_reader, .ref a_scripts, .ref a_now, .ref a_trial, .ref a_kept, .ref a_book, .ref a_keptBook, .ref a_history, .ref a_draws, .ref a_refused, .int c_hasImage])), (a_now, .inr (6, [.ref a_now_row, .ref a_now_partners, .int c_now_askedCount, .int c_now_outcome, .ref a_now_share, .ref a_now_leftOver])), (a_now_row, .inl (E.2.1, 81, .inl c_now_row)), (a_now_partners, .inl (E.2.1, 8, .inl c_now_partners)), (a_now_share, .inl (E.2.1, 2, .inl c_now_share)), (a_now_leftOver, .inl (E.2.1, 2, .inl c_now_leftOver)), (a_book, .inr (1, [.ref a_book_lines])), (a_book_lines, .inl (E.2.1, 300, .inl c_book_lines)), (a_history, .inr (3, [.ref a_history_rows, .int c_history_next, .int c_history_held])), (a_history_rows, .inl (E.2.1, 3240, .inl c_history_rows)), (a_refused, .inl (E.2.1, 3, .inl c_refused))] H := hP
  replace hD : va_D A [(a_, .inr (8, [.ref a_tape, .ref a_reader, .ref a_scripts, .ref a_now, .ref a_trial, .ref a_kept, .ref a_book, .ref a_keptBook, .ref a_history, .ref a_draws, .ref a_refused, .int c_hasImage])), (a_now, .inr (6, [.ref a_now_row, .ref a_now_partners, .int c_now_askedCount, .int c_now_outcome, .ref a_now_share, .ref a_now_leftOver])), (a_now_row, .inl (E.2.1, 81, .inl c_now_row)), (a_now_partners, .inl (E.2.1, 8, .inl c_now_partners)), (a_now_share, .inl (E.2.1, 2, .inl c_now_share)), (a_now_leftOver, .inl (E.2.1, 2, .inl c_now_leftOver)), (a_book, .inr (1, [.ref a_book_lines])), (a_book_lines, .inl (E.2.1, 300, .inl c_book_lines)), (a_history, .inr (3, [.ref a_history_rows, .int c_history_next, .int c_history_held])), (a_history_rows, .inl (E.2.1, 3240, .inl c_history_rows)), (a_refused, .inl (E.2.1, 3, .inl c_refused))] := hD
  unfold F_X7_sync at hF
  refine lv_aload_n hx hb dX7_sync_0 rfl (lv_at hl 0 rfl) ?_
  refine lv_iconst (v := 1) hx hb dX7_sync_1 (by decide) ?_
  refine lv_iconst (v := -1) hx hb dX7_sync_2 (by decide) ?_
  refine lv_iconst (v := 0) hx hb dX7_sync_3 (by decide) ?_
  refine lv_iconst (v := 0) hx hb dX7_sync_4 (by decide) ?_
  refine lv_iconst (v := 1) hx hb dX7_sync_5 (by decide) ?_
  replace hF := bd12_s hF
  obtain ⟨r_1, w_2, w_3, w_4, w_5, w_6, w_7, w_8, w_9, w_10, w_11, w_12, hc_13, hF⟩ := hF
  obtain ⟨hPc, hDc, hFc⟩ := wcut (wc := (w_X7_act E a_ a_tape a_reader a_scripts a_now a_trial a_kept a_book a_keptBook a_history a_draws a_refused a_now_row a_now_partners a_now_share a_now_leftOver a_book_lines a_history_rows c_hasImage c_now_askedCount c_now_outcome c_now_row c_now_partners c_now_share c_now_leftOver c_book_lines c_history_next c_history_held c_history_rows c_refused)) hP hD hS hA [0, 1, 2, 3, 4, 5, 6, 7, 8, 9, 10] (by decide) rfl
  have hrc := va_recv hK hPc (ci := 8) (q0 := 0) rfl rfl
  refine cE_i (wc := (w_X7_act E a_ a_tape a_reader a_scripts a_now a_trial a_kept a_book a_keptBook a_history a_draws a_refused a_now_row a_now_partners a_now_share a_now_leftOver a_book_lines a_history_rows c_hasImage c_now_askedCount c_now_outcome c_now_row c_now_partners c_now_share c_now_leftOver c_book_lines c_history_next c_history_held c_history_rows c_refused)) (wr := []) (w1 := (w_X7_act E a_ a_tape a_reader a_scripts a_now a_trial a_kept a_book a_keptBook a_history a_draws a_refused a_now_row a_now_partners a_now_share a_now_leftOver a_book_lines a_history_rows c_hasImage w_4 w_5 w_2 w_3 w_6 w_7 w_8 w_10 w_11 w_9 w_12)) (va_runV (As := [.int (1 : Int32), .int (-1 : Int32), .int (0 : Int32), .int (0 : Int32), .int (1 : Int32)]) (rest := [])  ⟨hx, hb, hml, hown, hts⟩ (f_X7_act l E H.size K (a_ := a_) (a_tape := a_tape) (a_reader := a_reader) (a_scripts := a_scripts) (a_now := a_now) (a_trial := a_trial) (a_kept := a_kept) (a_book := a_book) (a_keptBook := a_keptBook) (a_history := a_history) (a_draws := a_draws) (a_refused := a_refused) (a_now_row := a_now_row) (a_now_partners := a_now_partners) (a_now_share := a_now_share) (a_now_leftOver := a_now_leftOver) (a_book_lines := a_book_lines) (a_history_rows := a_history_rows) (p1 := (1 : Int32)) (p2 := (-1 : Int32)) (p3 := (0 : Int32)) (p4 := (0 : Int32)) (p5 := (1 : Int32)) (c_hasImage := c_hasImage) (c_now_askedCount := c_now_askedCount) (c_now_outcome := c_now_outcome) (c_now_row := c_now_row) (c_now_partners := c_now_partners) (c_now_share := c_now_share) (c_now_leftOver := c_now_leftOver) (c_book_lines := c_book_lines) (c_history_next := c_history_next) (c_history_held := c_history_held) (c_history_rows := c_history_rows) (c_refused := c_refused) hc_13) (cwV 5 hts g_f_X7_sync_f_X7_act_163 rfl rfl rfl hd_X7_act ⟨Nat.le_of_ble_eq_true rfl, Nat.le_of_ble_eq_true rfl⟩) ⟨pW.blind, hrc, (pW.pre ⟨hK, hN⟩ hPc hDc)⟩ rfl rfl hl.1 rfl (lv_room (Nat.le_of_ble_eq_true rfl)) dX7_sync_6 ⟨Nat.le_of_ble_eq_true rfl, Nat.le_of_ble_eq_true rfl⟩) hS hFc hP hD [0, 1, 2, 3, 4, 5, 6, 7, 8, 9, 10] [] rfl rfl (by decide) (by decide) (fun H locs hP hD hS => ?_)
  replace hP : va_P E.1 vwCl [(a_, .inr (8, [.ref a_tape, .ref a_reader, .ref a_scripts, .ref a_now, .ref a_trial, .ref a_kept, .ref a_book, .ref a_keptBook, .ref a_history, .ref a_draws, .ref a_refused, .int c_hasImage])), (a_now, .inr (6, [.ref a_now_row, .ref a_now_partners, .int w_4, .int w_5, .ref a_now_share, .ref a_now_leftOver])), (a_now_row, .inl (E.2.1, 81, .inl w_2)), (a_now_partners, .inl (E.2.1, 8, .inl w_3)), (a_now_share, .inl (E.2.1, 2, .inl w_6)), (a_now_leftOver, .inl (E.2.1, 2, .inl w_7)), (a_book, .inr (1, [.ref a_book_lines])), (a_book_lines, .inl (E.2.1, 300, .inl w_8)), (a_history, .inr (3, [.ref a_history_rows, .int w_10, .int w_11])), (a_history_rows, .inl (E.2.1, 3240, .inl w_9)), (a_refused, .inl (E.2.1, 3, .inl w_12))] H := hP
  replace hD : va_D A [(a_, .inr (8, [.ref a_tape, .ref a_reader, .ref a_scripts, .ref a_now, .ref a_trial, .ref a_kept, .ref a_book, .ref a_keptBook, .ref a_history, .ref a_draws, .ref a_refused, .int c_hasImage])), (a_now, .inr (6, [.ref a_now_row, .ref a_now_partners, .int w_4, .int w_5, .ref a_now_share, .ref a_now_leftOver])), (a_now_row, .inl (E.2.1, 81, .inl w_2)), (a_now_partners, .inl (E.2.1, 8, .inl w_3)), (a_now_share, .inl (E.2.1, 2, .inl w_6)), (a_now_leftOver, .inl (E.2.1, 2, .inl w_7)), (a_book, .inr (1, [.ref a_book_lines])), (a_book_lines, .inl (E.2.1, 300, .inl w_8)), (a_history, .inr (3, [.ref a_history_rows, .int w_10, .int w_11])), (a_history_rows, .inl (E.2.1, 3240, .inl w_9)), (a_refused, .inl (E.2.1, 3, .inl w_12))] := hD
  rw [hQ]
  have h9 := fin9 (P := fun u9 : Int32 × (Nat → Int32) × (Nat → Int32) × Int32 × Int32 × (Nat → Int32) × (Nat → Int32) × (Nat → Int32) × (Nat → Int32) × Int32 × Int32 × (Nat → Int32) => r_1 = u9.1 ∧ va_P E.1 vwCl (w_X7_sync E a_ a_tape a_reader a_scripts a_now a_trial a_kept a_book a_keptBook a_history a_draws a_refused a_now_row a_now_partners a_now_share a_now_leftOver a_book_lines a_history_rows c_hasImage u9.2.2.2.1 u9.2.2.2.2.1 u9.2.1 u9.2.2.1 u9.2.2.2.2.2.1 u9.2.2.2.2.2.2.1 u9.2.2.2.2.2.2.2.1 u9.2.2.2.2.2.2.2.2.2.1 u9.2.2.2.2.2.2.2.2.2.2.1 u9.2.2.2.2.2.2.2.2.1 u9.2.2.2.2.2.2.2.2.2.2.2) H ∧ va_D A (w_X7_sync E a_ a_tape a_reader a_scripts a_now a_trial a_kept a_book a_keptBook a_history a_draws a_refused a_now_row a_now_partners a_now_share a_now_leftOver a_book_lines a_history_rows c_hasImage u9.2.2.2.1 u9.2.2.2.2.1 u9.2.1 u9.2.2.1 u9.2.2.2.2.2.1 u9.2.2.2.2.2.2.1 u9.2.2.2.2.2.2.2.1 u9.2.2.2.2.2.2.2.2.2.1 u9.2.2.2.2.2.2.2.2.2.2.1 u9.2.2.2.2.2.2.2.2.1 u9.2.2.2.2.2.2.2.2.2.2.2)) hF ⟨rfl, hP, hD⟩
  obtain ⟨e9_0, hP9, hD9⟩ := h9
  exact W.iret (v := r_1) hx hb hr (fun tt ht hW => ⟨⟨_, (), rfl, e9_0, ht ▸ hP9, hD9⟩, hS.F ht⟩) hS.2.2 dX7_sync_9

def F_X7_tells (p1 : Int32) (p2 : Int32) (c_now_row : Nat → Int32) : Option (Int32) :=
  bd1 (F_X7_canBeAsked p1 p2 c_now_row) (fun r_1 => if r_1 = (0 : Int32) then some (0 : Int32) else bd1 (F_X5_allows p1.toInt64 p2.toInt64 c_now_row) (fun r_5 => if r_5 = (0 : Int32) then some (0 : Int32) else some (1 : Int32)))
abbrev w_X7_tells (E : EE) (a_ a_tape a_reader a_scripts a_now a_trial a_kept a_book a_keptBook a_history a_draws a_refused a_now_row a_now_partners a_now_share a_now_leftOver : Nat) (c_hasImage : Int32) (c_now_askedCount : Int32) (c_now_outcome : Int32) (c_now_row : Nat → Int32) : va_W := [(a_, .inr (8, [.ref a_tape, .ref a_reader, .ref a_scripts, .ref a_now, .ref a_trial, .ref a_kept, .ref a_book, .ref a_keptBook, .ref a_history, .ref a_draws, .ref a_refused, .int c_hasImage])), (a_now, .inr (6, [.ref a_now_row, .ref a_now_partners, .int c_now_askedCount, .int c_now_outcome, .ref a_now_share, .ref a_now_leftOver])), (a_now_row, .inl (E.2.1, 81, .inl c_now_row))]
def v_f_X7_tells : List Cond := .code yX7_tells cX7_tells 3 (some .boolean) :: ([.fieldLink RX7 35 "HushWatch" "now" "LHushWatch$State;", .methodLink RX7 146 yX7_canBeAsked, .instanceMethod yX7_canBeAsked, .selects RX7 yX7_canBeAsked yX7_canBeAsked, .initialized RX7, .methodLink RX7 156 yX5_allows, .instanceMethod yX5_allows, .selects RX5 yX5_allows yX5_allows, .initialized RX5] ++ (v_f_X7_canBeAsked ++ (wsX70 ++ (v_f_X5_allows ++ ([])))))
theorem gw_f_X7_tells : v_f_X7_tells.all goodWord = true := by decide +kernel
theorem i_f_X7_tells_X7 : ∀ w ∈ wsX70, w ∈ v_f_X7_tells := fun _ h => List.mem_cons_of_mem _ (List.mem_append_right _ (List.mem_append_right _ (List.mem_append_left _ h)))
theorem g_f_X7_tells_f_X7_canBeAsked_146 : GoodIn v_f_X7_tells (wsV RX7 146 RX7 yX7_canBeAsked v_f_X7_canBeAsked) := goodIn_app (goodIn_of _ (by decide +kernel)) (goodIn_sub (fun _ h => List.mem_cons_of_mem _ (List.mem_append_right _ (List.mem_append_left _ h))) gw_f_X7_canBeAsked)
theorem g_f_X7_tells_f_X5_allows_156 : GoodIn v_f_X7_tells (wsV RX7 156 RX5 yX5_allows v_f_X5_allows) := goodIn_app (goodIn_of _ (by decide +kernel)) (goodIn_sub (fun _ h => List.mem_cons_of_mem _ (List.mem_append_right _ (List.mem_append_right _ (List.mem_append_right _ (List.mem_append_left _ h))))) gw_f_X5_allows)
theorem hd_X7_tells : yX7_tells.cls = RX7 ∧ yX7_tells.cls ≠ "java/lang/invoke/MethodHandle" ∧ yX7_tells.cls ≠ "java/lang/invoke/VarHandle" ∧ (parseMethodDescriptor yX7_tells.desc).map (fun d => d.parameters.length) = some 2 := by decide +kernel
set_option maxHeartbeats 4000000 in
set_option maxRecDepth 100000 in
theorem f_X7_tells (l : Launch) (E : EE) {a_ a_tape a_reader a_scripts a_now a_trial a_kept a_book a_keptBook a_history a_draws a_refused a_now_row a_now_partners a_now_share a_now_leftOver : Nat} {p1 : Int32} {p2 : Int32} {c_hasImage : Int32} {c_now_askedCount : Int32} {c_now_outcome : Int32} {c_now_row : Nat → Int32} {rr : Int32} (hF : F_X7_tells p1 p2 c_now_row = some rr) : Met l yX7_tells v_f_X7_tells (({ frames := 2, cells := 0, slots := 0, locals := 52 } : Room)) (va_Pc [.ref a_, .int p1, .int p2] (pP E (w_X7_tells E a_ a_tape a_reader a_scripts a_now a_trial a_kept a_book a_keptBook a_history a_draws a_refused a_now_row a_now_partners a_now_share a_now_leftOver c_hasImage c_now_askedCount c_now_outcome c_now_row))) (vp_Si (fun q : Int32 => q = rr ∧ (q = 0 ∨ q = 1))) 0 0 (fun _ => False) := by
  refine Met.ofW (cc := cX7_tells) (maxL := 3) (ret := (some .boolean)) (by decide) rfl ?_
  intro p e s m args below meth c s₁ B hml hv
  obtain ⟨rfl, ⟨hK, hN⟩, hP⟩ := hv
  have hx := B.exec
  have hb := B.bytes
  have hr := B.returns
  have hts := atoms_spec (ws := v_f_X7_tells) B.pre
  have hown : s.vm.findClass RX7 = some m.cls := own_of hd_X7_tells.1 (findClass_of_methodNamed B.named)
  have hlocks : meth.locks = false := B.notSynchronized
  replace hP : va_P E.1 vwCl [(a_, .inr (8, [.ref a_tape, .ref a_reader, .ref a_scripts, .ref a_now, .ref a_trial, .ref a_kept, .ref a_book, .ref a_keptBook, .ref a_history, .ref a_draws, .ref a_refused, .int c_hasImage])), (a_now, .inr (6, [.ref a_now_row, .ref a_now_partners, .int c_now_askedCount, .int c_now_outcome, .ref a_now_share, .ref a_now_leftOver])), (a_now_row, .inl (E.2.1, 81, .inl c_now_row))] s.heap := hP
  have hl := lv_entry ([.ref a_, .int p1, .int p2]) (n := 3) (Nat.le_of_ble_eq_true rfl)
  rw [lg_entry_eq]
  generalize (lg_sl ([.ref a_, .int p1, .int p2]) ++ List.replicate (3 - (lg_sl ([.ref a_, .int p1, .int p2])).length) Slot.unset).toArray = ls at hl ⊢
  have hl : lv_has ls 3 [(0, .ref a_), (1, .int p1), (2, .int p2)] := hl
  obtain ⟨Q, hQ⟩ : ∃ Q : State → Prop, Q = MQ below (vp_Si (fun q : Int32 => q = rr ∧ (q = 0 ∨ q = 1))) #[Value.ref a_, Value.int p1, Value.int p2] s 0 0 (fun _ => False) := ⟨_, rfl⟩
  rw [← hQ]
  change W p l e ({ frames := 2, cells := 0, slots := 0, locals := 52 } : Room) s m #[Value.ref a_, Value.int p1, Value.int p2] below meth c s.heap [] 0 0 Q (F0 m 0 ls [])
  unfold F_X7_tells at hF
  refine lv_aload_n hx hb dX7_tells_0 rfl (lv_at hl 0 rfl) ?_
  refine lv_iload_n hx hb dX7_tells_1 rfl (lv_at hl 1 rfl) ?_
  refine lv_iload_n hx hb dX7_tells_2 rfl (lv_at hl 2 rfl) ?_
  replace hF := bd1_s hF
  obtain ⟨r_1, hc_2, hF⟩ := hF
  have hPc : va_P E.1 vwCl (w_X7_canBeAsked E a_ a_tape a_reader a_scripts a_now a_trial a_kept a_book a_keptBook a_history a_draws a_refused a_now_row a_now_partners a_now_share a_now_leftOver c_hasImage c_now_askedCount c_now_outcome c_now_row) s.heap := hP.sub (ws' := [(a_, .inr (8, [.ref a_tape, .ref a_reader, .ref a_scripts, .ref a_now, .ref a_trial, .ref a_kept, .ref a_book, .ref a_keptBook, .ref a_history, .ref a_draws, .ref a_refused, .int c_hasImage])), (a_now, .inr (6, [.ref a_now_row, .ref a_now_partners, .int c_now_askedCount, .int c_now_outcome, .ref a_now_share, .ref a_now_leftOver])), (a_now_row, .inl (E.2.1, 81, .inl c_now_row))]) [0, 1, 2] rfl
  have hrc := va_recv hK hPc (ci := 8) (q0 := 0) rfl rfl
  refine pE_z (va_runV (As := [.int p1, .int p2]) (rest := [])  ⟨hx, hb, hml, hown, hts⟩ (f_X7_canBeAsked l E (a_ := a_) (a_tape := a_tape) (a_reader := a_reader) (a_scripts := a_scripts) (a_now := a_now) (a_trial := a_trial) (a_kept := a_kept) (a_book := a_book) (a_keptBook := a_keptBook) (a_history := a_history) (a_draws := a_draws) (a_refused := a_refused) (a_now_row := a_now_row) (a_now_partners := a_now_partners) (a_now_share := a_now_share) (a_now_leftOver := a_now_leftOver) (p1 := p1) (p2 := p2) (c_hasImage := c_hasImage) (c_now_askedCount := c_now_askedCount) (c_now_outcome := c_now_outcome) (c_now_row := c_now_row) hc_2) (cwV 2 hts g_f_X7_tells_f_X7_canBeAsked_146 rfl rfl rfl hd_X7_canBeAsked ⟨Nat.le_of_ble_eq_true rfl, Nat.le_of_ble_eq_true rfl⟩) ⟨pP.blind, hrc, (pP.pre ⟨hK, hN⟩ hPc)⟩ rfl rfl hl.1 rfl (lv_room (Nat.le_of_ble_eq_true rfl)) dX7_tells_3 ⟨Nat.le_of_ble_eq_true rfl, Nat.le_of_ble_eq_true rfl⟩) (fun hb_3 => ?_)
  refine lv_if_eq (tgt := 27) hx hb dX7_tells_6 (by decide) (fun c_4 => ?_) (fun c_4 => ?_)
  ·
    replace hF := ip c_4 hF
    refine lv_iconst (v := 0) hx hb dX7_tells_27 (by decide) ?_
    rw [hQ]
    obtain e9_0 := inj1 hF
    exact W.zret (v := (0 : Int32)) hx hb hr rfl (fun tt ht hW => ⟨_, rfl, ⟨e9_0, Or.inl rfl⟩, ht⟩) (fun _ h => by cases h) dX7_tells_28
  ·
    replace hF := inn c_4 hF
    refine lv_aload_n hx hb dX7_tells_9 rfl (lv_at hl 0 rfl) ?_
    refine gt_X7_3 (v := .ref a_now) hx hb hts i_f_X7_tells_X7 hown hK hP 0 rfl (hts (.fieldLink RX7 35 "HushWatch" "now" "LHushWatch$State;") (List.mem_of_getElem? (i := 1) rfl)) rfl dX7_tells_10 ?_
    refine lv_iload_n hx hb dX7_tells_13 rfl (lv_at hl 1 rfl) ?_
    refine lv_i2l (v := p1.toInt64) hx hb dX7_tells_14 rfl ?_
    refine lv_iload_n hx hb dX7_tells_15 rfl (lv_at hl 2 rfl) ?_
    refine lv_i2l (v := p2.toInt64) hx hb dX7_tells_16 rfl ?_
    replace hF := bd1_s hF
    obtain ⟨r_5, hc_6, hF⟩ := hF
    have hPc : va_P E.1 vwCl (w_X5_allows E a_now a_now_row a_now_partners a_now_share a_now_leftOver c_now_askedCount c_now_outcome c_now_row) s.heap := hP.sub (ws' := [(a_now, .inr (6, [.ref a_now_row, .ref a_now_partners, .int c_now_askedCount, .int c_now_outcome, .ref a_now_share, .ref a_now_leftOver])), (a_now_row, .inl (E.2.1, 81, .inl c_now_row))]) [1, 2] rfl
    have hrc := va_recv hK hPc (ci := 6) (q0 := 0) rfl rfl
    refine pE_z (va_runV (As := [.long p1.toInt64, .long p2.toInt64]) (rest := [])  ⟨hx, hb, hml, hown, hts⟩ (f_X5_allows l E (a_ := a_now) (a_row := a_now_row) (a_partners := a_now_partners) (a_share := a_now_share) (a_leftOver := a_now_leftOver) (p1 := p1.toInt64) (p2 := p2.toInt64) (c_askedCount := c_now_askedCount) (c_outcome := c_now_outcome) (c_row := c_now_row) hc_6) (cwV 2 hts g_f_X7_tells_f_X5_allows_156 rfl rfl rfl hd_X5_allows ⟨Nat.le_of_ble_eq_true rfl, Nat.le_of_ble_eq_true rfl⟩) ⟨pP.blind, hrc, (pP.pre ⟨hK, hN⟩ hPc)⟩ rfl rfl hl.1 rfl (lv_room (Nat.le_of_ble_eq_true rfl)) dX7_tells_17 ⟨Nat.le_of_ble_eq_true rfl, Nat.le_of_ble_eq_true rfl⟩) (fun hb_7 => ?_)
    refine lv_if_eq (tgt := 27) hx hb dX7_tells_20 (by decide) (fun c_8 => ?_) (fun c_8 => ?_)
    ·
      replace hF := ip c_8 hF
      refine lv_iconst (v := 0) hx hb dX7_tells_27 (by decide) ?_
      rw [hQ]
      obtain e9_0 := inj1 hF
      exact W.zret (v := (0 : Int32)) hx hb hr rfl (fun tt ht hW => ⟨_, rfl, ⟨e9_0, Or.inl rfl⟩, ht⟩) (fun _ h => by cases h) dX7_tells_28
    ·
      replace hF := inn c_8 hF
      refine lv_iconst (v := 1) hx hb dX7_tells_23 (by decide) ?_
      refine lv_goto (tgt := 28) hx hb dX7_tells_24 (by decide) ?_
      rw [hQ]
      obtain e9_0 := inj1 hF
      exact W.zret (v := (1 : Int32)) hx hb hr rfl (fun tt ht hW => ⟨_, rfl, ⟨e9_0, Or.inr rfl⟩, ht⟩) (fun _ h => by cases h) dX7_tells_28

def J_X7_text_20 (K : Nat) (p1 : Int32) (c_tape_bytes : Nat → Int32) (c_tape_length : Int32) (c_reader_rules : Nat → Int32) (c_reader_places : Nat → Int32) (c_reader_steps : Nat → Int32) (c_reader_siteCount : Int32) (c_reader_stepCount : Int32) (c_reader_seenRules : Int32) (c_reader_at : Int32) (c_reader_wordStart : Int32) (c_reader_number : Int32) (c_reader_failed : Int32) (c_scripts_steps : Nat → Int32) (c_scripts_counts : Nat → Int32) (c_scripts_held : Int32) (c_now_row : Nat → Int32) (c_history_held : Int32) (c_hasImage : Int32) : Option (Int32 × Int32 × (Nat → Int32) × (Nat → Int32) × (Nat → Int32) × Int32 × Int32 × Int32 × Int32 × Int32 × Int32 × Int32 × (Nat → Int32) × (Nat → Int32) × Int32 × (Nat → Int32) × Int32 × Int32) :=
  if p1 = (1 : Int32) then bd1 (F_X4_areFull c_scripts_held) (fun r_3 => if r_3 = (0 : Int32) then bd10 (F_X3_readScript K c_tape_bytes c_tape_length c_reader_rules c_reader_steps c_reader_siteCount c_reader_stepCount c_reader_seenRules c_reader_at c_reader_wordStart c_reader_number c_reader_failed) (fun r_7 w_8 w_9 w_10 w_11 w_12 w_13 w_14 w_15 w_16 => if r_7 = (-1 : Int32) then bd5 (F_X7_keepScript c_tape_length w_9 w_11 c_scripts_steps c_scripts_counts c_scripts_held) (fun r_19 w_20 w_21 w_22 w_23 => some (r_19, w_20, w_8, c_reader_places, w_9, w_10, w_11, w_12, w_13, w_14, w_15, w_16, w_21, w_22, w_23, c_now_row, c_history_held, c_hasImage)) else some ((-1 : Int32), c_tape_length, w_8, c_reader_places, w_9, w_10, w_11, w_12, w_13, w_14, w_15, w_16, c_scripts_steps, c_scripts_counts, c_scripts_held, c_now_row, c_history_held, c_hasImage)) else some ((-1 : Int32), c_tape_length, c_reader_rules, c_reader_places, c_reader_steps, c_reader_siteCount, c_reader_stepCount, c_reader_seenRules, c_reader_at, c_reader_wordStart, c_reader_number, c_reader_failed, c_scripts_steps, c_scripts_counts, c_scripts_held, c_now_row, c_history_held, c_hasImage)) else some ((-1 : Int32), c_tape_length, c_reader_rules, c_reader_places, c_reader_steps, c_reader_siteCount, c_reader_stepCount, c_reader_seenRules, c_reader_at, c_reader_wordStart, c_reader_number, c_reader_failed, c_scripts_steps, c_scripts_counts, c_scripts_held, c_now_row, c_history_held, c_hasImage)
def F_X7_text (K : Nat) (p1 : Int32) (c_tape_bytes : Nat → Int32) (c_tape_length : Int32) (c_reader_rules : Nat → Int32) (c_reader_places : Nat → Int32) (c_reader_steps : Nat → Int32) (c_reader_siteCount : Int32) (c_reader_stepCount : Int32) (c_reader_seenRules : Int32) (c_reader_at : Int32) (c_reader_wordStart : Int32) (c_reader_number : Int32) (c_reader_failed : Int32) (c_scripts_steps : Nat → Int32) (c_scripts_counts : Nat → Int32) (c_scripts_held : Int32) (c_now_row : Nat → Int32) (c_history_held : Int32) (c_hasImage : Int32) : Option (Int32 × Int32 × (Nat → Int32) × (Nat → Int32) × (Nat → Int32) × Int32 × Int32 × Int32 × Int32 × Int32 × Int32 × Int32 × (Nat → Int32) × (Nat → Int32) × Int32 × (Nat → Int32) × Int32 × Int32) :=
  if p1 = (0 : Int32) then bd10 (F_X3_readWatch K c_tape_bytes c_tape_length c_reader_rules c_reader_places c_reader_siteCount c_reader_stepCount c_reader_seenRules c_reader_at c_reader_wordStart c_reader_number c_reader_failed) (fun r_25 w_26 w_27 w_28 w_29 w_30 w_31 w_32 w_33 w_34 => if r_25 = (-1 : Int32) then bd5 (F_X7_beginWatch K c_tape_length w_26 w_27 w_28 c_now_row c_history_held c_hasImage) (fun r_37 w_38 w_39 w_40 w_41 => some (r_37, w_38, w_26, w_27, c_reader_steps, w_28, w_29, w_30, w_31, w_32, w_33, w_34, c_scripts_steps, c_scripts_counts, c_scripts_held, w_39, w_40, w_41)) else J_X7_text_20 K p1 c_tape_bytes c_tape_length w_26 w_27 c_reader_steps w_28 w_29 w_30 w_31 w_32 w_33 w_34 c_scripts_steps c_scripts_counts c_scripts_held c_now_row c_history_held c_hasImage) else J_X7_text_20 K p1 c_tape_bytes c_tape_length c_reader_rules c_reader_places c_reader_steps c_reader_siteCount c_reader_stepCount c_reader_seenRules c_reader_at c_reader_wordStart c_reader_number c_reader_failed c_scripts_steps c_scripts_counts c_scripts_held c_now_row c_history_held c_hasImage
abbrev w_X7_text (E : EE) (a_ a_tape a_reader a_scripts a_now a_trial a_kept a_book a_keptBook a_history a_draws a_refused a_tape_bytes a_reader_rules a_reader_places a_reader_steps a_scripts_steps a_scripts_counts a_now_row a_now_partners a_now_share a_now_leftOver a_history_rows : Nat) (c_hasImage : Int32) (c_tape_length : Int32) (c_tape_bytes : Nat → Int32) (c_reader_siteCount : Int32) (c_reader_stepCount : Int32) (c_reader_seenRules : Int32) (c_reader_at : Int32) (c_reader_wordStart : Int32) (c_reader_number : Int32) (c_reader_failed : Int32) (c_reader_rules : Nat → Int32) (c_reader_places : Nat → Int32) (c_reader_steps : Nat → Int32) (c_scripts_held : Int32) (c_scripts_steps : Nat → Int32) (c_scripts_counts : Nat → Int32) (c_now_askedCount : Int32) (c_now_outcome : Int32) (c_now_row : Nat → Int32) (c_history_next : Int32) (c_history_held : Int32) : va_W := [(a_, .inr (8, [.ref a_tape, .ref a_reader, .ref a_scripts, .ref a_now, .ref a_trial, .ref a_kept, .ref a_book, .ref a_keptBook, .ref a_history, .ref a_draws, .ref a_refused, .int c_hasImage])), (a_tape, .inr (7, [.ref a_tape_bytes, .int c_tape_length])), (a_tape_bytes, .inl (E.2.2.1, 320, .inl c_tape_bytes)), (a_reader, .inr (4, [.ref a_tape, .ref a_reader_rules, .ref a_reader_places, .ref a_reader_steps, .int c_reader_siteCount, .int c_reader_stepCount, .int c_reader_seenRules, .int c_reader_at, .int c_reader_wordStart, .int c_reader_number, .int c_reader_failed])), (a_reader_rules, .inl (E.2.1, 3, .inl c_reader_rules)), (a_reader_places, .inl (E.2.1, 16, .inl c_reader_places)), (a_reader_steps, .inl (E.2.1, 48, .inl c_reader_steps)), (a_scripts, .inr (5, [.ref a_scripts_steps, .ref a_scripts_counts, .int c_scripts_held])), (a_scripts_steps, .inl (E.2.1, 192, .inl c_scripts_steps)), (a_scripts_counts, .inl (E.2.1, 4, .inl c_scripts_counts)), (a_now, .inr (6, [.ref a_now_row, .ref a_now_partners, .int c_now_askedCount, .int c_now_outcome, .ref a_now_share, .ref a_now_leftOver])), (a_now_row, .inl (E.2.1, 81, .inl c_now_row)), (a_history, .inr (3, [.ref a_history_rows, .int c_history_next, .int c_history_held]))]
def v_f_X7_text : List Cond := .code yX7_text cX7_text 2 (some .int) :: ([.fieldLink RX7 28 "HushWatch" "scripts" "LHushWatch$Scripts;", .fieldLink RX7 21 "HushWatch" "reader" "LHushWatch$Reader;", .methodLink RX7 103 yX4_areFull, .instanceMethod yX4_areFull, .selects RX4 yX4_areFull yX4_areFull, .initialized RX4, .methodLink RX7 97 yX3_readScript, .instanceMethod yX3_readScript, .selects RX3 yX3_readScript yX3_readScript, .initialized RX3, .methodLink RX7 107 yX7_keepScript, .instanceMethod yX7_keepScript, .selects RX7 yX7_keepScript yX7_keepScript, .initialized RX7, .methodLink RX7 93 yX3_readWatch, .instanceMethod yX3_readWatch, .selects RX3 yX3_readWatch yX3_readWatch, .methodLink RX7 100 yX7_beginWatch, .instanceMethod yX7_beginWatch, .selects RX7 yX7_beginWatch yX7_beginWatch] ++ (wsX70 ++ (v_f_X4_areFull ++ (v_f_X3_readScript ++ (v_f_X7_keepScript ++ (v_f_X3_readWatch ++ (v_f_X7_beginWatch ++ ([]))))))))
theorem gw_f_X7_text : v_f_X7_text.all goodWord = true := by decide +kernel
theorem i_f_X7_text_X7 : ∀ w ∈ wsX70, w ∈ v_f_X7_text := fun _ h => List.mem_cons_of_mem _ (List.mem_append_right _ (List.mem_append_left _ h))
theorem g_f_X7_text_f_X4_areFull_103 : GoodIn v_f_X7_text (wsV RX7 103 RX4 yX4_areFull v_f_X4_areFull) := goodIn_app (goodIn_of _ (by decide +kernel)) (goodIn_sub (fun _ h => List.mem_cons_of_mem _ (List.mem_append_right _ (List.mem_append_right _ (List.mem_append_left _ h)))) gw_f_X4_areFull)
theorem g_f_X7_text_f_X3_readScript_97 : GoodIn v_f_X7_text (wsV RX7 97 RX3 yX3_readScript v_f_X3_readScript) := goodIn_app (goodIn_of _ (by decide +kernel)) (goodIn_sub (fun _ h => List.mem_cons_of_mem _ (List.mem_append_right _ (List.mem_append_right _ (List.mem_append_right _ (List.mem_append_left _ h))))) gw_f_X3_readScript)
theorem g_f_X7_text_f_X7_keepScript_107 : GoodIn v_f_X7_text (wsV RX7 107 RX7 yX7_keepScript v_f_X7_keepScript) := goodIn_app (goodIn_of _ (by decide +kernel)) (goodIn_sub (fun _ h => List.mem_cons_of_mem _ (List.mem_append_right _ (List.mem_append_right _ (List.mem_append_right _ (List.mem_append_right _ (List.mem_append_left _ h)))))) gw_f_X7_keepScript)
theorem g_f_X7_text_f_X3_readWatch_93 : GoodIn v_f_X7_text (wsV RX7 93 RX3 yX3_readWatch v_f_X3_readWatch) := goodIn_app (goodIn_of _ (by decide +kernel)) (goodIn_sub (fun _ h => List.mem_cons_of_mem _ (List.mem_append_right _ (List.mem_append_right _ (List.mem_append_right _ (List.mem_append_right _ (List.mem_append_right _ (List.mem_append_left _ h))))))) gw_f_X3_readWatch)
theorem g_f_X7_text_f_X7_beginWatch_100 : GoodIn v_f_X7_text (wsV RX7 100 RX7 yX7_beginWatch v_f_X7_beginWatch) := goodIn_app (goodIn_of _ (by decide +kernel)) (goodIn_sub (fun _ h => List.mem_cons_of_mem _ (List.mem_append_right _ (List.mem_append_right _ (List.mem_append_right _ (List.mem_append_right _ (List.mem_append_right _ (List.mem_append_right _ (List.mem_append_left _ h)))))))) gw_f_X7_beginWatch)
theorem hd_X7_text : yX7_text.cls = RX7 ∧ yX7_text.cls ≠ "java/lang/invoke/MethodHandle" ∧ yX7_text.cls ≠ "java/lang/invoke/VarHandle" ∧ (parseMethodDescriptor yX7_text.desc).map (fun d => d.parameters.length) = some 1 := by decide +kernel
set_option maxHeartbeats 4000000 in
set_option maxRecDepth 100000 in
theorem j_X7_text_20 {p : Program} (l : Launch) {e : Env} {s : State} {m : MethodId} {below : List Frame} {meth : Method} {c : Code} {Q : State → Prop} (E : EE) (K : Nat) {z9 : Nat → Nat} {a_ a_tape a_reader a_scripts a_now a_trial a_kept a_book a_keptBook a_history a_draws a_refused a_tape_bytes a_reader_rules a_reader_places a_reader_steps a_scripts_steps a_scripts_counts a_now_row a_now_partners a_now_share a_now_leftOver a_history_rows : Nat} {p1 : Int32} {c_tape_bytes : Nat → Int32} {c_now_askedCount : Int32} {c_now_outcome : Int32} {c_history_next : Int32} {c_tape_length : Int32} {c_reader_rules : Nat → Int32} {c_reader_places : Nat → Int32} {c_reader_steps : Nat → Int32} {c_reader_siteCount : Int32} {c_reader_stepCount : Int32} {c_reader_seenRules : Int32} {c_reader_at : Int32} {c_reader_wordStart : Int32} {c_reader_number : Int32} {c_reader_failed : Int32} {c_scripts_steps : Nat → Int32} {c_scripts_counts : Nat → Int32} {c_scripts_held : Int32} {c_now_row : Nat → Int32} {c_history_held : Int32} {c_hasImage : Int32} (hx : p.tables.exec = Jvm.exec) (hb : c.code = cX7_text) (hml : c.maxLocals = 2) (hown : s.vm.findClass RX7 = some m.cls) (hts : ∀ w ∈ v_f_X7_text, w.before #[Value.ref a_, Value.int p1] s = true) (hK : va_K E.1 vwCl (TY E) s) (hN : NX s) {A : Nat → Prop} (hA : ∀ q : Nat, s.heap.size ≤ q → A q) (hZ : ZZ z9 A s s.heap) {rr : Int32} {n_tape_length : Int32} {n_reader_rules : Nat → Int32} {n_reader_places : Nat → Int32} {n_reader_steps : Nat → Int32} {n_reader_siteCount : Int32} {n_reader_stepCount : Int32} {n_reader_seenRules : Int32} {n_reader_at : Int32} {n_reader_wordStart : Int32} {n_reader_number : Int32} {n_reader_failed : Int32} {n_scripts_steps : Nat → Int32} {n_scripts_counts : Nat → Int32} {n_scripts_held : Int32} {n_now_row : Nat → Int32} {n_history_held : Int32} {n_hasImage : Int32} (hr : meth.sig.returnType = (some .int)) (hlocks : meth.locks = false) (hQ : Q = MQ below (va_Qi (fun (q : Int32) (_u : Unit) => q = rr) (fun (_u : Unit) tt => va_P E.1 vwCl (w_X7_text E a_ a_tape a_reader a_scripts a_now a_trial a_kept a_book a_keptBook a_history a_draws a_refused a_tape_bytes a_reader_rules a_reader_places a_reader_steps a_scripts_steps a_scripts_counts a_now_row a_now_partners a_now_share a_now_leftOver a_history_rows n_hasImage n_tape_length c_tape_bytes n_reader_siteCount n_reader_stepCount n_reader_seenRules n_reader_at n_reader_wordStart n_reader_number n_reader_failed n_reader_rules n_reader_places n_reader_steps n_scripts_held n_scripts_steps n_scripts_counts c_now_askedCount c_now_outcome n_now_row c_history_next n_history_held) tt.heap ∧ va_D A (w_X7_text E a_ a_tape a_reader a_scripts a_now a_trial a_kept a_book a_keptBook a_history a_draws a_refused a_tape_bytes a_reader_rules a_reader_places a_reader_steps a_scripts_steps a_scripts_counts a_now_row a_now_partners a_now_share a_now_leftOver a_history_rows n_hasImage n_tape_length c_tape_bytes n_reader_siteCount n_reader_stepCount n_reader_seenRules n_reader_at n_reader_wordStart n_reader_number n_reader_failed n_reader_rules n_reader_places n_reader_steps n_scripts_held n_scripts_steps n_scripts_counts c_now_askedCount c_now_outcome n_now_row c_history_next n_history_held)) A) #[Value.ref a_, Value.int p1] s 0 0 A) (hF : J_X7_text_20 K p1 c_tape_bytes c_tape_length c_reader_rules c_reader_places c_reader_steps c_reader_siteCount c_reader_stepCount c_reader_seenRules c_reader_at c_reader_wordStart c_reader_number c_reader_failed c_scripts_steps c_scripts_counts c_scripts_held c_now_row c_history_held c_hasImage = some (rr, n_tape_length, n_reader_rules, n_reader_places, n_reader_steps, n_reader_siteCount, n_reader_stepCount, n_reader_seenRules, n_reader_at, n_reader_wordStart, n_reader_number, n_reader_failed, n_scripts_steps, n_scripts_counts, n_scripts_held, n_now_row, n_history_held, n_hasImage)) : ∀ (H : Heap) (locs : List Loc) (ls : Array Slot), va_P E.1 vwCl (w_X7_text E a_ a_tape a_reader a_scripts a_now a_trial a_kept a_book a_keptBook a_history a_draws a_refused a_tape_bytes a_reader_rules a_reader_places a_reader_steps a_scripts_steps a_scripts_counts a_now_row a_now_partners a_now_share a_now_leftOver a_history_rows c_hasImage c_tape_length c_tape_bytes c_reader_siteCount c_reader_stepCount c_reader_seenRules c_reader_at c_reader_wordStart c_reader_number c_reader_failed c_reader_rules c_reader_places c_reader_steps c_scripts_held c_scripts_steps c_scripts_counts c_now_askedCount c_now_outcome c_now_row c_history_next c_history_held) H → va_D A (w_X7_text E a_ a_tape a_reader a_scripts a_now a_trial a_kept a_book a_keptBook a_history a_draws a_refused a_tape_bytes a_reader_rules a_reader_places a_reader_steps a_scripts_steps a_scripts_counts a_now_row a_now_partners a_now_share a_now_leftOver a_history_rows c_hasImage c_tape_length c_tape_bytes c_reader_siteCount c_reader_stepCount c_reader_seenRules c_reader_at c_reader_wordStart c_reader_number c_reader_failed c_reader_rules c_reader_places c_reader_steps c_scripts_held c_scripts_steps c_scripts_counts c_now_askedCount c_now_outcome c_now_row c_history_next c_history_held) → va_S A s.heap H locs → lv_has ls 2 [(0, .ref a_), (1, .int p1)] → W p l e ({ frames := 9, cells := 0, slots := 0, locals := 190 } : Room) s m #[Value.ref a_, Value.int p1] below meth c H locs 0 0 Q (F0 m 20 ls []) := by
  unfold J_X7_text_20 at hF
  intro H locs ls hP hD hS hl
  replace hP : va_P E.1 vwCl [(a_, .inr (8, [.ref a_tape, .ref a_reader, .ref a_scripts, .ref a_now, .ref a_trial, .ref a_kept, .ref a_book, .ref a_keptBook, .ref a_history, .ref a_draws, .ref a_refused, .int c_hasImage])), (a_tape, .inr (7, [.ref a_tape_bytes, .int c_tape_length])), (a_tape_bytes, .inl (E.2.2.1, 320, .inl c_tape_bytes)), (a_reader, .inr (4, [.ref a_tape, .ref a_reader_rules, .ref a_reader_places, .ref a_reader_steps, .int c_reader_siteCount, .int c_reader_stepCount, .int c_reader_seenRules, .int c_reader_at, .int c_reader_wordStart, .int c_reader_number, .int c_reader_failed])), (a_reader_rules, .inl (E.2.1, 3, .inl c_reader_rules)), (a_reader_places, .inl (E.2.1, 16, .inl c_reader_places)), (a_reader_steps, .inl (E.2.1, 48, .inl c_reader_steps)), (a_scripts, .inr (5, [.ref a_scripts_steps, .ref a_scripts_counts, .int c_scripts_held])), (a_scripts_steps, .inl (E.2.1, 192, .inl c_scripts_steps)), (a_scripts_counts, .inl (E.2.1, 4, .inl c_scripts_counts)), (a_now, .inr (6, [.ref a_now_row, .ref a_now_partners, .int c_now_askedCount, .int c_now_outcome, .ref a_now_share, .ref a_now_leftOver])), (a_now_row, .inl (E.2.1, 81, .inl c_now_row)), (a_history, .inr (3, [.ref a_history_rows, .int c_history_next, .int c_history_held]))] H := hP
  replace hD : va_D A [(a_, .inr (8, [.ref a_tape, .ref a_reader, .ref a_scripts, .ref a_now, .ref a_trial, .ref a_kept, .ref a_book, .ref a_keptBook, .ref a_history, .ref a_draws, .ref a_refused, .int c_hasImage])), (a_tape, .inr (7, [.ref a_tape_bytes, .int c_tape_length])), (a_tape_bytes, .inl (E.2.2.1, 320, .inl c_tape_bytes)), (a_reader, .inr (4, [.ref a_tape, .ref a_reader_rules, .ref a_reader_places, .ref a_reader_steps, .int c_reader_siteCount, .int c_reader_stepCount, .int c_reader_seenRules, .int c_reader_at, .int c_reader_wordStart, .int c_reader_number, .int c_reader_failed])), (a_reader_rules, .inl (E.2.1, 3, .inl c_reader_rules)), (a_reader_places, .inl (E.2.1, 16, .inl c_reader_places)), (a_reader_steps, .inl (E.2.1, 48, .inl c_reader_steps)), (a_scripts, .inr (5, [.ref a_scripts_steps, .ref a_scripts_counts, .int c_scripts_held])), (a_scripts_steps, .inl (E.2.1, 192, .inl c_scripts_steps)), (a_scripts_counts, .inl (E.2.1, 4, .inl c_scripts_counts)), (a_now, .inr (6, [.ref a_now_row, .ref a_now_partners, .int c_now_askedCount, .int c_now_outcome, .ref a_now_share, .ref a_now_leftOver])), (a_now_row, .inl (E.2.1, 81, .inl c_now_row)), (a_history, .inr (3, [.ref a_history_rows, .int c_history_next, .int c_history_held]))] := hD
  refine lv_iload_n hx hb dX7_text_20 rfl (lv_at hl 1 rfl) ?_
  refine lv_iconst (v := 1) hx hb dX7_text_21 (by decide) ?_
  refine lv_icmp_ne (tgt := 51) hx hb dX7_text_22 (by decide) (fun c_2 => ?_) (fun c_2 => ?_)
  ·
    replace hF := inn c_2 hF
    refine lv_iconst (v := -1) hx hb dX7_text_51 (by decide) ?_
    rw [hQ]
    have h9 := fin9 (P := fun u9 : Int32 × Int32 × (Nat → Int32) × (Nat → Int32) × (Nat → Int32) × Int32 × Int32 × Int32 × Int32 × Int32 × Int32 × Int32 × (Nat → Int32) × (Nat → Int32) × Int32 × (Nat → Int32) × Int32 × Int32 => (-1 : Int32) = u9.1 ∧ va_P E.1 vwCl (w_X7_text E a_ a_tape a_reader a_scripts a_now a_trial a_kept a_book a_keptBook a_history a_draws a_refused a_tape_bytes a_reader_rules a_reader_places a_reader_steps a_scripts_steps a_scripts_counts a_now_row a_now_partners a_now_share a_now_leftOver a_history_rows u9.2.2.2.2.2.2.2.2.2.2.2.2.2.2.2.2.2 u9.2.1 c_tape_bytes u9.2.2.2.2.2.1 u9.2.2.2.2.2.2.1 u9.2.2.2.2.2.2.2.1 u9.2.2.2.2.2.2.2.2.1 u9.2.2.2.2.2.2.2.2.2.1 u9.2.2.2.2.2.2.2.2.2.2.1 u9.2.2.2.2.2.2.2.2.2.2.2.1 u9.2.2.1 u9.2.2.2.1 u9.2.2.2.2.1 u9.2.2.2.2.2.2.2.2.2.2.2.2.2.2.1 u9.2.2.2.2.2.2.2.2.2.2.2.2.1 u9.2.2.2.2.2.2.2.2.2.2.2.2.2.1 c_now_askedCount c_now_outcome u9.2.2.2.2.2.2.2.2.2.2.2.2.2.2.2.1 c_history_next u9.2.2.2.2.2.2.2.2.2.2.2.2.2.2.2.2.1) H ∧ va_D A (w_X7_text E a_ a_tape a_reader a_scripts a_now a_trial a_kept a_book a_keptBook a_history a_draws a_refused a_tape_bytes a_reader_rules a_reader_places a_reader_steps a_scripts_steps a_scripts_counts a_now_row a_now_partners a_now_share a_now_leftOver a_history_rows u9.2.2.2.2.2.2.2.2.2.2.2.2.2.2.2.2.2 u9.2.1 c_tape_bytes u9.2.2.2.2.2.1 u9.2.2.2.2.2.2.1 u9.2.2.2.2.2.2.2.1 u9.2.2.2.2.2.2.2.2.1 u9.2.2.2.2.2.2.2.2.2.1 u9.2.2.2.2.2.2.2.2.2.2.1 u9.2.2.2.2.2.2.2.2.2.2.2.1 u9.2.2.1 u9.2.2.2.1 u9.2.2.2.2.1 u9.2.2.2.2.2.2.2.2.2.2.2.2.2.2.1 u9.2.2.2.2.2.2.2.2.2.2.2.2.1 u9.2.2.2.2.2.2.2.2.2.2.2.2.2.1 c_now_askedCount c_now_outcome u9.2.2.2.2.2.2.2.2.2.2.2.2.2.2.2.1 c_history_next u9.2.2.2.2.2.2.2.2.2.2.2.2.2.2.2.2.1)) hF ⟨rfl, hP, hD⟩
    obtain ⟨e9_0, hP9, hD9⟩ := h9
    exact W.iret (v := (-1 : Int32)) hx hb hr (fun tt ht hW => ⟨⟨_, (), rfl, e9_0, ht ▸ hP9, hD9⟩, hS.F ht⟩) hS.2.2 dX7_text_52
  ·
    replace hF := ip c_2 hF
    refine lv_aload_n hx hb dX7_text_25 rfl (lv_at hl 0 rfl) ?_
    refine gt_X7_2 (v := .ref a_scripts) hx hb hts i_f_X7_text_X7 hown hK hP 0 rfl (hts (.fieldLink RX7 28 "HushWatch" "scripts" "LHushWatch$Scripts;") (List.mem_of_getElem? (i := 1) rfl)) rfl dX7_text_26 ?_
    replace hF := bd1_s hF
    obtain ⟨r_3, hc_4, hF⟩ := hF
    have hPc : va_P E.1 vwCl (w_X4_areFull E a_scripts a_scripts_steps a_scripts_counts c_scripts_held) H := hP.sub (ws' := [(a_scripts, .inr (5, [.ref a_scripts_steps, .ref a_scripts_counts, .int c_scripts_held]))]) [7] rfl
    have hrc := va_recv hK hPc (ci := 5) (q0 := 0) rfl rfl
    refine pE_z (va_runV (As := []) (rest := [])  ⟨hx, hb, hml, hown, hts⟩ (f_X4_areFull l E (a_ := a_scripts) (a_steps := a_scripts_steps) (a_counts := a_scripts_counts) (c_held := c_scripts_held) hc_4) (cwV 0 hts g_f_X7_text_f_X4_areFull_103 rfl rfl rfl hd_X4_areFull ⟨Nat.le_of_ble_eq_true rfl, Nat.le_of_ble_eq_true rfl⟩) ⟨pP.blind, hrc, (pP.pre ⟨hK, hN⟩ hPc)⟩ rfl rfl hl.1 rfl (lv_room (Nat.le_of_ble_eq_true rfl)) dX7_text_29 ⟨Nat.le_of_ble_eq_true rfl, Nat.le_of_ble_eq_true rfl⟩) (fun hb_5 => ?_)
    refine lv_if_ne (tgt := 51) hx hb dX7_text_32 (by decide) (fun c_6 => ?_) (fun c_6 => ?_)
    ·
      replace hF := inn c_6 hF
      refine lv_iconst (v := -1) hx hb dX7_text_51 (by decide) ?_
      rw [hQ]
      have h9 := fin9 (P := fun u9 : Int32 × Int32 × (Nat → Int32) × (Nat → Int32) × (Nat → Int32) × Int32 × Int32 × Int32 × Int32 × Int32 × Int32 × Int32 × (Nat → Int32) × (Nat → Int32) × Int32 × (Nat → Int32) × Int32 × Int32 => (-1 : Int32) = u9.1 ∧ va_P E.1 vwCl (w_X7_text E a_ a_tape a_reader a_scripts a_now a_trial a_kept a_book a_keptBook a_history a_draws a_refused a_tape_bytes a_reader_rules a_reader_places a_reader_steps a_scripts_steps a_scripts_counts a_now_row a_now_partners a_now_share a_now_leftOver a_history_rows u9.2.2.2.2.2.2.2.2.2.2.2.2.2.2.2.2.2 u9.2.1 c_tape_bytes u9.2.2.2.2.2.1 u9.2.2.2.2.2.2.1 u9.2.2.2.2.2.2.2.1 u9.2.2.2.2.2.2.2.2.1 u9.2.2.2.2.2.2.2.2.2.1 u9.2.2.2.2.2.2.2.2.2.2.1 u9.2.2.2.2.2.2.2.2.2.2.2.1 u9.2.2.1 u9.2.2.2.1 u9.2.2.2.2.1 u9.2.2.2.2.2.2.2.2.2.2.2.2.2.2.1 u9.2.2.2.2.2.2.2.2.2.2.2.2.1 u9.2.2.2.2.2.2.2.2.2.2.2.2.2.1 c_now_askedCount c_now_outcome u9.2.2.2.2.2.2.2.2.2.2.2.2.2.2.2.1 c_history_next u9.2.2.2.2.2.2.2.2.2.2.2.2.2.2.2.2.1) H ∧ va_D A (w_X7_text E a_ a_tape a_reader a_scripts a_now a_trial a_kept a_book a_keptBook a_history a_draws a_refused a_tape_bytes a_reader_rules a_reader_places a_reader_steps a_scripts_steps a_scripts_counts a_now_row a_now_partners a_now_share a_now_leftOver a_history_rows u9.2.2.2.2.2.2.2.2.2.2.2.2.2.2.2.2.2 u9.2.1 c_tape_bytes u9.2.2.2.2.2.1 u9.2.2.2.2.2.2.1 u9.2.2.2.2.2.2.2.1 u9.2.2.2.2.2.2.2.2.1 u9.2.2.2.2.2.2.2.2.2.1 u9.2.2.2.2.2.2.2.2.2.2.1 u9.2.2.2.2.2.2.2.2.2.2.2.1 u9.2.2.1 u9.2.2.2.1 u9.2.2.2.2.1 u9.2.2.2.2.2.2.2.2.2.2.2.2.2.2.1 u9.2.2.2.2.2.2.2.2.2.2.2.2.1 u9.2.2.2.2.2.2.2.2.2.2.2.2.2.1 c_now_askedCount c_now_outcome u9.2.2.2.2.2.2.2.2.2.2.2.2.2.2.2.1 c_history_next u9.2.2.2.2.2.2.2.2.2.2.2.2.2.2.2.2.1)) hF ⟨rfl, hP, hD⟩
      obtain ⟨e9_0, hP9, hD9⟩ := h9
      exact W.iret (v := (-1 : Int32)) hx hb hr (fun tt ht hW => ⟨⟨_, (), rfl, e9_0, ht ▸ hP9, hD9⟩, hS.F ht⟩) hS.2.2 dX7_text_52
    ·
      replace hF := ip c_6 hF
      refine lv_aload_n hx hb dX7_text_35 rfl (lv_at hl 0 rfl) ?_
      refine gt_X7_1 (v := .ref a_reader) hx hb hts i_f_X7_text_X7 hown hK hP 0 rfl (hts (.fieldLink RX7 21 "HushWatch" "reader" "LHushWatch$Reader;") (List.mem_of_getElem? (i := 2) rfl)) rfl dX7_text_36 ?_
      replace hF := bd10_s hF
      obtain ⟨r_7, w_8, w_9, w_10, w_11, w_12, w_13, w_14, w_15, w_16, hc_17, hF⟩ := hF
      obtain ⟨hPc, hDc, hFc⟩ := wcut (wc := (w_X3_readScript E a_reader a_tape a_reader_rules a_reader_places a_reader_steps a_tape_bytes c_reader_siteCount c_reader_stepCount c_reader_seenRules c_reader_at c_reader_wordStart c_reader_number c_reader_failed c_tape_length c_tape_bytes c_reader_rules c_reader_steps)) hP hD hS hA [3, 1, 2, 4, 6] (by decide) rfl
      have hrc := va_recv hK hPc (ci := 4) (q0 := 0) rfl rfl
      refine cE_i (wc := (w_X3_readScript E a_reader a_tape a_reader_rules a_reader_places a_reader_steps a_tape_bytes c_reader_siteCount c_reader_stepCount c_reader_seenRules c_reader_at c_reader_wordStart c_reader_number c_reader_failed c_tape_length c_tape_bytes c_reader_rules c_reader_steps)) (wr := [(a_, .inr (8, [.ref a_tape, .ref a_reader, .ref a_scripts, .ref a_now, .ref a_trial, .ref a_kept, .ref a_book, .ref a_keptBook, .ref a_history, .ref a_draws, .ref a_refused, .int c_hasImage])), (a_reader_places, .inl (E.2.1, 16, .inl c_reader_places)), (a_scripts, .inr (5, [.ref a_scripts_steps, .ref a_scripts_counts, .int c_scripts_held])), (a_scripts_steps, .inl (E.2.1, 192, .inl c_scripts_steps)), (a_scripts_counts, .inl (E.2.1, 4, .inl c_scripts_counts)), (a_now, .inr (6, [.ref a_now_row, .ref a_now_partners, .int c_now_askedCount, .int c_now_outcome, .ref a_now_share, .ref a_now_leftOver])), (a_now_row, .inl (E.2.1, 81, .inl c_now_row)), (a_history, .inr (3, [.ref a_history_rows, .int c_history_next, .int c_history_held]))]) (w1 := (w_X3_readScript E a_reader a_tape a_reader_rules a_reader_places a_reader_steps a_tape_bytes w_10 w_11 w_12 w_13 w_14 w_15 w_16 c_tape_length c_tape_bytes w_8 w_9)) (va_runV (As := []) (rest := [])  ⟨hx, hb, hml, hown, hts⟩ (f_X3_readScript l E H.size K z9 (a_ := a_reader) (a_tape := a_tape) (a_rules := a_reader_rules) (a_places := a_reader_places) (a_steps := a_reader_steps) (a_tape_bytes := a_tape_bytes) (c_siteCount := c_reader_siteCount) (c_stepCount := c_reader_stepCount) (c_seenRules := c_reader_seenRules) (c_at := c_reader_at) (c_wordStart := c_reader_wordStart) (c_number := c_reader_number) (c_failed := c_reader_failed) (c_tape_length := c_tape_length) (c_tape_bytes := c_tape_bytes) (c_rules := c_reader_rules) (c_steps := c_reader_steps) hc_17) (cwV 0 hts g_f_X7_text_f_X3_readScript_97 rfl rfl rfl hd_X3_readScript ⟨Nat.le_of_ble_eq_true rfl, Nat.le_of_ble_eq_true rfl⟩) ⟨qWZ.blind, hrc, (qWZ.pre ⟨hK, hN⟩ hPc hDc hZ hS hFc)⟩ rfl rfl hl.1 rfl (lv_room (Nat.le_of_ble_eq_true rfl)) dX7_text_39 ⟨Nat.le_of_ble_eq_true rfl, Nat.le_of_ble_eq_true rfl⟩) hS hFc hP hD [3, 1, 2, 4, 6] [0, 5, 7, 8, 9, 10, 11, 12] rfl rfl (by decide) (by decide) (fun H locs hP hD hS => ?_)
      replace hP : va_P E.1 vwCl [(a_, .inr (8, [.ref a_tape, .ref a_reader, .ref a_scripts, .ref a_now, .ref a_trial, .ref a_kept, .ref a_book, .ref a_keptBook, .ref a_history, .ref a_draws, .ref a_refused, .int c_hasImage])), (a_reader_places, .inl (E.2.1, 16, .inl c_reader_places)), (a_scripts, .inr (5, [.ref a_scripts_steps, .ref a_scripts_counts, .int c_scripts_held])), (a_scripts_steps, .inl (E.2.1, 192, .inl c_scripts_steps)), (a_scripts_counts, .inl (E.2.1, 4, .inl c_scripts_counts)), (a_now, .inr (6, [.ref a_now_row, .ref a_now_partners, .int c_now_askedCount, .int c_now_outcome, .ref a_now_share, .ref a_now_leftOver])), (a_now_row, .inl (E.2.1, 81, .inl c_now_row)), (a_history, .inr (3, [.ref a_history_rows, .int c_history_next, .int c_history_held])), (a_reader, .inr (4, [.ref a_tape, .ref a_reader_rules, .ref a_reader_places, .ref a_reader_steps, .int w_10, .int w_11, .int w_12, .int w_13, .int w_14, .int w_15, .int w_16])), (a_tape, .inr (7, [.ref a_tape_bytes, .int c_tape_length])), (a_tape_bytes, .inl (E.2.2.1, 320, .inl c_tape_bytes)), (a_reader_rules, .inl (E.2.1, 3, .inl w_8)), (a_reader_steps, .inl (E.2.1, 48, .inl w_9))] H := hP
      replace hD : va_D A [(a_, .inr (8, [.ref a_tape, .ref a_reader, .ref a_scripts, .ref a_now, .ref a_trial, .ref a_kept, .ref a_book, .ref a_keptBook, .ref a_history, .ref a_draws, .ref a_refused, .int c_hasImage])), (a_reader_places, .inl (E.2.1, 16, .inl c_reader_places)), (a_scripts, .inr (5, [.ref a_scripts_steps, .ref a_scripts_counts, .int c_scripts_held])), (a_scripts_steps, .inl (E.2.1, 192, .inl c_scripts_steps)), (a_scripts_counts, .inl (E.2.1, 4, .inl c_scripts_counts)), (a_now, .inr (6, [.ref a_now_row, .ref a_now_partners, .int c_now_askedCount, .int c_now_outcome, .ref a_now_share, .ref a_now_leftOver])), (a_now_row, .inl (E.2.1, 81, .inl c_now_row)), (a_history, .inr (3, [.ref a_history_rows, .int c_history_next, .int c_history_held])), (a_reader, .inr (4, [.ref a_tape, .ref a_reader_rules, .ref a_reader_places, .ref a_reader_steps, .int w_10, .int w_11, .int w_12, .int w_13, .int w_14, .int w_15, .int w_16])), (a_tape, .inr (7, [.ref a_tape_bytes, .int c_tape_length])), (a_tape_bytes, .inl (E.2.2.1, 320, .inl c_tape_bytes)), (a_reader_rules, .inl (E.2.1, 3, .inl w_8)), (a_reader_steps, .inl (E.2.1, 48, .inl w_9))] := hD
      refine lv_iconst (v := -1) hx hb dX7_text_42 (by decide) ?_
      refine lv_icmp_ne (tgt := 51) hx hb dX7_text_43 (by decide) (fun c_18 => ?_) (fun c_18 => ?_)
      ·
        replace hF := inn c_18 hF
        refine lv_iconst (v := -1) hx hb dX7_text_51 (by decide) ?_
        rw [hQ]
        have h9 := fin9 (P := fun u9 : Int32 × Int32 × (Nat → Int32) × (Nat → Int32) × (Nat → Int32) × Int32 × Int32 × Int32 × Int32 × Int32 × Int32 × Int32 × (Nat → Int32) × (Nat → Int32) × Int32 × (Nat → Int32) × Int32 × Int32 => (-1 : Int32) = u9.1 ∧ va_P E.1 vwCl (w_X7_text E a_ a_tape a_reader a_scripts a_now a_trial a_kept a_book a_keptBook a_history a_draws a_refused a_tape_bytes a_reader_rules a_reader_places a_reader_steps a_scripts_steps a_scripts_counts a_now_row a_now_partners a_now_share a_now_leftOver a_history_rows u9.2.2.2.2.2.2.2.2.2.2.2.2.2.2.2.2.2 u9.2.1 c_tape_bytes u9.2.2.2.2.2.1 u9.2.2.2.2.2.2.1 u9.2.2.2.2.2.2.2.1 u9.2.2.2.2.2.2.2.2.1 u9.2.2.2.2.2.2.2.2.2.1 u9.2.2.2.2.2.2.2.2.2.2.1 u9.2.2.2.2.2.2.2.2.2.2.2.1 u9.2.2.1 u9.2.2.2.1 u9.2.2.2.2.1 u9.2.2.2.2.2.2.2.2.2.2.2.2.2.2.1 u9.2.2.2.2.2.2.2.2.2.2.2.2.1 u9.2.2.2.2.2.2.2.2.2.2.2.2.2.1 c_now_askedCount c_now_outcome u9.2.2.2.2.2.2.2.2.2.2.2.2.2.2.2.1 c_history_next u9.2.2.2.2.2.2.2.2.2.2.2.2.2.2.2.2.1) H ∧ va_D A (w_X7_text E a_ a_tape a_reader a_scripts a_now a_trial a_kept a_book a_keptBook a_history a_draws a_refused a_tape_bytes a_reader_rules a_reader_places a_reader_steps a_scripts_steps a_scripts_counts a_now_row a_now_partners a_now_share a_now_leftOver a_history_rows u9.2.2.2.2.2.2.2.2.2.2.2.2.2.2.2.2.2 u9.2.1 c_tape_bytes u9.2.2.2.2.2.1 u9.2.2.2.2.2.2.1 u9.2.2.2.2.2.2.2.1 u9.2.2.2.2.2.2.2.2.1 u9.2.2.2.2.2.2.2.2.2.1 u9.2.2.2.2.2.2.2.2.2.2.1 u9.2.2.2.2.2.2.2.2.2.2.2.1 u9.2.2.1 u9.2.2.2.1 u9.2.2.2.2.1 u9.2.2.2.2.2.2.2.2.2.2.2.2.2.2.1 u9.2.2.2.2.2.2.2.2.2.2.2.2.1 u9.2.2.2.2.2.2.2.2.2.2.2.2.2.1 c_now_askedCount c_now_outcome u9.2.2.2.2.2.2.2.2.2.2.2.2.2.2.2.1 c_history_next u9.2.2.2.2.2.2.2.2.2.2.2.2.2.2.2.2.1)) hF ⟨rfl, hP.sub [0, 9, 10, 8, 11, 1, 12, 2, 3, 4, 5, 6, 7] rfl, hD.sub [0, 9, 10, 8, 11, 1, 12, 2, 3, 4, 5, 6, 7] (by decide) rfl⟩
        obtain ⟨e9_0, hP9, hD9⟩ := h9
        exact W.iret (v := (-1 : Int32)) hx hb hr (fun tt ht hW => ⟨⟨_, (), rfl, e9_0, ht ▸ hP9, hD9⟩, hS.F ht⟩) hS.2.2 dX7_text_52
      ·
        replace hF := ip c_18 hF
        refine lv_aload_n hx hb dX7_text_46 rfl (lv_at hl 0 rfl) ?_
        replace hF := bd5_s hF
        obtain ⟨r_19, w_20, w_21, w_22, w_23, hc_24, hF⟩ := hF
        obtain ⟨hPc, hDc, hFc⟩ := wcut (wc := (w_X7_keepScript E a_ a_tape a_reader a_scripts a_now a_trial a_kept a_book a_keptBook a_history a_draws a_refused a_tape_bytes a_reader_rules a_reader_places a_reader_steps a_scripts_steps a_scripts_counts c_hasImage c_tape_length w_10 w_11 w_12 w_13 w_14 w_15 w_16 w_9 c_scripts_held c_scripts_steps c_scripts_counts)) hP hD hS hA [0, 9, 8, 12, 2, 3, 4] (by decide) rfl
        have hrc := va_recv hK hPc (ci := 8) (q0 := 0) rfl rfl
        refine cE_i (wc := (w_X7_keepScript E a_ a_tape a_reader a_scripts a_now a_trial a_kept a_book a_keptBook a_history a_draws a_refused a_tape_bytes a_reader_rules a_reader_places a_reader_steps a_scripts_steps a_scripts_counts c_hasImage c_tape_length w_10 w_11 w_12 w_13 w_14 w_15 w_16 w_9 c_scripts_held c_scripts_steps c_scripts_counts)) (wr := [(a_reader_places, .inl (E.2.1, 16, .inl c_reader_places)), (a_now, .inr (6, [.ref a_now_row, .ref a_now_partners, .int c_now_askedCount, .int c_now_outcome, .ref a_now_share, .ref a_now_leftOver])), (a_now_row, .inl (E.2.1, 81, .inl c_now_row)), (a_history, .inr (3, [.ref a_history_rows, .int c_history_next, .int c_history_held])), (a_tape_bytes, .inl (E.2.2.1, 320, .inl c_tape_bytes)), (a_reader_rules, .inl (E.2.1, 3, .inl w_8))]) (w1 := (w_X7_keepScript E a_ a_tape a_reader a_scripts a_now a_trial a_kept a_book a_keptBook a_history a_draws a_refused a_tape_bytes a_reader_rules a_reader_places a_reader_steps a_scripts_steps a_scripts_counts c_hasImage w_20 w_10 w_11 w_12 w_13 w_14 w_15 w_16 w_9 w_23 w_21 w_22)) (va_runV (As := []) (rest := [])  ⟨hx, hb, hml, hown, hts⟩ (f_X7_keepScript l E H.size (a_ := a_) (a_tape := a_tape) (a_reader := a_reader) (a_scripts := a_scripts) (a_now := a_now) (a_trial := a_trial) (a_kept := a_kept) (a_book := a_book) (a_keptBook := a_keptBook) (a_history := a_history) (a_draws := a_draws) (a_refused := a_refused) (a_tape_bytes := a_tape_bytes) (a_reader_rules := a_reader_rules) (a_reader_places := a_reader_places) (a_reader_steps := a_reader_steps) (a_scripts_steps := a_scripts_steps) (a_scripts_counts := a_scripts_counts) (c_hasImage := c_hasImage) (c_tape_length := c_tape_length) (c_reader_siteCount := w_10) (c_reader_stepCount := w_11) (c_reader_seenRules := w_12) (c_reader_at := w_13) (c_reader_wordStart := w_14) (c_reader_number := w_15) (c_reader_failed := w_16) (c_reader_steps := w_9) (c_scripts_held := c_scripts_held) (c_scripts_steps := c_scripts_steps) (c_scripts_counts := c_scripts_counts) hc_24) (cwV 0 hts g_f_X7_text_f_X7_keepScript_107 rfl rfl rfl hd_X7_keepScript ⟨Nat.le_of_ble_eq_true rfl, Nat.le_of_ble_eq_true rfl⟩) ⟨pW.blind, hrc, (pW.pre ⟨hK, hN⟩ hPc hDc)⟩ rfl rfl hl.1 rfl (lv_room (Nat.le_of_ble_eq_true rfl)) dX7_text_47 ⟨Nat.le_of_ble_eq_true rfl, Nat.le_of_ble_eq_true rfl⟩) hS hFc hP hD [0, 9, 8, 12, 2, 3, 4] [1, 5, 6, 7, 10, 11] rfl rfl (by decide) (by decide) (fun H locs hP hD hS => ?_)
        replace hP : va_P E.1 vwCl [(a_reader_places, .inl (E.2.1, 16, .inl c_reader_places)), (a_now, .inr (6, [.ref a_now_row, .ref a_now_partners, .int c_now_askedCount, .int c_now_outcome, .ref a_now_share, .ref a_now_leftOver])), (a_now_row, .inl (E.2.1, 81, .inl c_now_row)), (a_history, .inr (3, [.ref a_history_rows, .int c_history_next, .int c_history_held])), (a_tape_bytes, .inl (E.2.2.1, 320, .inl c_tape_bytes)), (a_reader_rules, .inl (E.2.1, 3, .inl w_8)), (a_, .inr (8, [.ref a_tape, .ref a_reader, .ref a_scripts, .ref a_now, .ref a_trial, .ref a_kept, .ref a_book, .ref a_keptBook, .ref a_history, .ref a_draws, .ref a_refused, .int c_hasImage])), (a_tape, .inr (7, [.ref a_tape_bytes, .int w_20])), (a_reader, .inr (4, [.ref a_tape, .ref a_reader_rules, .ref a_reader_places, .ref a_reader_steps, .int w_10, .int w_11, .int w_12, .int w_13, .int w_14, .int w_15, .int w_16])), (a_reader_steps, .inl (E.2.1, 48, .inl w_9)), (a_scripts, .inr (5, [.ref a_scripts_steps, .ref a_scripts_counts, .int w_23])), (a_scripts_steps, .inl (E.2.1, 192, .inl w_21)), (a_scripts_counts, .inl (E.2.1, 4, .inl w_22))] H := hP
        replace hD : va_D A [(a_reader_places, .inl (E.2.1, 16, .inl c_reader_places)), (a_now, .inr (6, [.ref a_now_row, .ref a_now_partners, .int c_now_askedCount, .int c_now_outcome, .ref a_now_share, .ref a_now_leftOver])), (a_now_row, .inl (E.2.1, 81, .inl c_now_row)), (a_history, .inr (3, [.ref a_history_rows, .int c_history_next, .int c_history_held])), (a_tape_bytes, .inl (E.2.2.1, 320, .inl c_tape_bytes)), (a_reader_rules, .inl (E.2.1, 3, .inl w_8)), (a_, .inr (8, [.ref a_tape, .ref a_reader, .ref a_scripts, .ref a_now, .ref a_trial, .ref a_kept, .ref a_book, .ref a_keptBook, .ref a_history, .ref a_draws, .ref a_refused, .int c_hasImage])), (a_tape, .inr (7, [.ref a_tape_bytes, .int w_20])), (a_reader, .inr (4, [.ref a_tape, .ref a_reader_rules, .ref a_reader_places, .ref a_reader_steps, .int w_10, .int w_11, .int w_12, .int w_13, .int w_14, .int w_15, .int w_16])), (a_reader_steps, .inl (E.2.1, 48, .inl w_9)), (a_scripts, .inr (5, [.ref a_scripts_steps, .ref a_scripts_counts, .int w_23])), (a_scripts_steps, .inl (E.2.1, 192, .inl w_21)), (a_scripts_counts, .inl (E.2.1, 4, .inl w_22))] := hD
        rw [hQ]
        have h9 := fin9 (P := fun u9 : Int32 × Int32 × (Nat → Int32) × (Nat → Int32) × (Nat → Int32) × Int32 × Int32 × Int32 × Int32 × Int32 × Int32 × Int32 × (Nat → Int32) × (Nat → Int32) × Int32 × (Nat → Int32) × Int32 × Int32 => r_19 = u9.1 ∧ va_P E.1 vwCl (w_X7_text E a_ a_tape a_reader a_scripts a_now a_trial a_kept a_book a_keptBook a_history a_draws a_refused a_tape_bytes a_reader_rules a_reader_places a_reader_steps a_scripts_steps a_scripts_counts a_now_row a_now_partners a_now_share a_now_leftOver a_history_rows u9.2.2.2.2.2.2.2.2.2.2.2.2.2.2.2.2.2 u9.2.1 c_tape_bytes u9.2.2.2.2.2.1 u9.2.2.2.2.2.2.1 u9.2.2.2.2.2.2.2.1 u9.2.2.2.2.2.2.2.2.1 u9.2.2.2.2.2.2.2.2.2.1 u9.2.2.2.2.2.2.2.2.2.2.1 u9.2.2.2.2.2.2.2.2.2.2.2.1 u9.2.2.1 u9.2.2.2.1 u9.2.2.2.2.1 u9.2.2.2.2.2.2.2.2.2.2.2.2.2.2.1 u9.2.2.2.2.2.2.2.2.2.2.2.2.1 u9.2.2.2.2.2.2.2.2.2.2.2.2.2.1 c_now_askedCount c_now_outcome u9.2.2.2.2.2.2.2.2.2.2.2.2.2.2.2.1 c_history_next u9.2.2.2.2.2.2.2.2.2.2.2.2.2.2.2.2.1) H ∧ va_D A (w_X7_text E a_ a_tape a_reader a_scripts a_now a_trial a_kept a_book a_keptBook a_history a_draws a_refused a_tape_bytes a_reader_rules a_reader_places a_reader_steps a_scripts_steps a_scripts_counts a_now_row a_now_partners a_now_share a_now_leftOver a_history_rows u9.2.2.2.2.2.2.2.2.2.2.2.2.2.2.2.2.2 u9.2.1 c_tape_bytes u9.2.2.2.2.2.1 u9.2.2.2.2.2.2.1 u9.2.2.2.2.2.2.2.1 u9.2.2.2.2.2.2.2.2.1 u9.2.2.2.2.2.2.2.2.2.1 u9.2.2.2.2.2.2.2.2.2.2.1 u9.2.2.2.2.2.2.2.2.2.2.2.1 u9.2.2.1 u9.2.2.2.1 u9.2.2.2.2.1 u9.2.2.2.2.2.2.2.2.2.2.2.2.2.2.1 u9.2.2.2.2.2.2.2.2.2.2.2.2.1 u9.2.2.2.2.2.2.2.2.2.2.2.2.2.1 c_now_askedCount c_now_outcome u9.2.2.2.2.2.2.2.2.2.2.2.2.2.2.2.1 c_history_next u9.2.2.2.2.2.2.2.2.2.2.2.2.2.2.2.2.1)) hF ⟨rfl, hP.sub [6, 7, 4, 8, 5, 0, 9, 10, 11, 12, 1, 2, 3] rfl, hD.sub [6, 7, 4, 8, 5, 0, 9, 10, 11, 12, 1, 2, 3] (by decide) rfl⟩
        obtain ⟨e9_0, hP9, hD9⟩ := h9
        exact W.iret (v := r_19) hx hb hr (fun tt ht hW => ⟨⟨_, (), rfl, e9_0, ht ▸ hP9, hD9⟩, hS.F ht⟩) hS.2.2 dX7_text_50

set_option maxHeartbeats 4000000 in
set_option maxRecDepth 100000 in
theorem f_X7_text (l : Launch) (E : EE) (sz : Nat) (K : Nat) (z9 : Nat → Nat) {a_ a_tape a_reader a_scripts a_now a_trial a_kept a_book a_keptBook a_history a_draws a_refused a_tape_bytes a_reader_rules a_reader_places a_reader_steps a_scripts_steps a_scripts_counts a_now_row a_now_partners a_now_share a_now_leftOver a_history_rows : Nat} {p1 : Int32} {c_hasImage : Int32} {c_tape_length : Int32} {c_tape_bytes : Nat → Int32} {c_reader_siteCount : Int32} {c_reader_stepCount : Int32} {c_reader_seenRules : Int32} {c_reader_at : Int32} {c_reader_wordStart : Int32} {c_reader_number : Int32} {c_reader_failed : Int32} {c_reader_rules : Nat → Int32} {c_reader_places : Nat → Int32} {c_reader_steps : Nat → Int32} {c_scripts_held : Int32} {c_scripts_steps : Nat → Int32} {c_scripts_counts : Nat → Int32} {c_now_askedCount : Int32} {c_now_outcome : Int32} {c_now_row : Nat → Int32} {c_history_next : Int32} {c_history_held : Int32} {rr : Int32} {n_tape_length : Int32} {n_reader_rules : Nat → Int32} {n_reader_places : Nat → Int32} {n_reader_steps : Nat → Int32} {n_reader_siteCount : Int32} {n_reader_stepCount : Int32} {n_reader_seenRules : Int32} {n_reader_at : Int32} {n_reader_wordStart : Int32} {n_reader_number : Int32} {n_reader_failed : Int32} {n_scripts_steps : Nat → Int32} {n_scripts_counts : Nat → Int32} {n_scripts_held : Int32} {n_now_row : Nat → Int32} {n_history_held : Int32} {n_hasImage : Int32} (hF : F_X7_text K p1 c_tape_bytes c_tape_length c_reader_rules c_reader_places c_reader_steps c_reader_siteCount c_reader_stepCount c_reader_seenRules c_reader_at c_reader_wordStart c_reader_number c_reader_failed c_scripts_steps c_scripts_counts c_scripts_held c_now_row c_history_held c_hasImage = some (rr, n_tape_length, n_reader_rules, n_reader_places, n_reader_steps, n_reader_siteCount, n_reader_stepCount, n_reader_seenRules, n_reader_at, n_reader_wordStart, n_reader_number, n_reader_failed, n_scripts_steps, n_scripts_counts, n_scripts_held, n_now_row, n_history_held, n_hasImage)) : Met l yX7_text v_f_X7_text (({ frames := 9, cells := 0, slots := 0, locals := 190 } : Room)) (va_Pc [.ref a_, .int p1] (qWZ E z9 sz (w_X7_text E a_ a_tape a_reader a_scripts a_now a_trial a_kept a_book a_keptBook a_history a_draws a_refused a_tape_bytes a_reader_rules a_reader_places a_reader_steps a_scripts_steps a_scripts_counts a_now_row a_now_partners a_now_share a_now_leftOver a_history_rows c_hasImage c_tape_length c_tape_bytes c_reader_siteCount c_reader_stepCount c_reader_seenRules c_reader_at c_reader_wordStart c_reader_number c_reader_failed c_reader_rules c_reader_places c_reader_steps c_scripts_held c_scripts_steps c_scripts_counts c_now_askedCount c_now_outcome c_now_row c_history_next c_history_held))) (va_Qi (fun (q : Int32) (_u : Unit) => q = rr) (fun (_u : Unit) tt => va_P E.1 vwCl (w_X7_text E a_ a_tape a_reader a_scripts a_now a_trial a_kept a_book a_keptBook a_history a_draws a_refused a_tape_bytes a_reader_rules a_reader_places a_reader_steps a_scripts_steps a_scripts_counts a_now_row a_now_partners a_now_share a_now_leftOver a_history_rows n_hasImage n_tape_length c_tape_bytes n_reader_siteCount n_reader_stepCount n_reader_seenRules n_reader_at n_reader_wordStart n_reader_number n_reader_failed n_reader_rules n_reader_places n_reader_steps n_scripts_held n_scripts_steps n_scripts_counts c_now_askedCount c_now_outcome n_now_row c_history_next n_history_held) tt.heap ∧ va_D (va_A (w_X7_text E a_ a_tape a_reader a_scripts a_now a_trial a_kept a_book a_keptBook a_history a_draws a_refused a_tape_bytes a_reader_rules a_reader_places a_reader_steps a_scripts_steps a_scripts_counts a_now_row a_now_partners a_now_share a_now_leftOver a_history_rows c_hasImage c_tape_length c_tape_bytes c_reader_siteCount c_reader_stepCount c_reader_seenRules c_reader_at c_reader_wordStart c_reader_number c_reader_failed c_reader_rules c_reader_places c_reader_steps c_scripts_held c_scripts_steps c_scripts_counts c_now_askedCount c_now_outcome c_now_row c_history_next c_history_held) sz) (w_X7_text E a_ a_tape a_reader a_scripts a_now a_trial a_kept a_book a_keptBook a_history a_draws a_refused a_tape_bytes a_reader_rules a_reader_places a_reader_steps a_scripts_steps a_scripts_counts a_now_row a_now_partners a_now_share a_now_leftOver a_history_rows n_hasImage n_tape_length c_tape_bytes n_reader_siteCount n_reader_stepCount n_reader_seenRules n_reader_at n_reader_wordStart n_reader_number n_reader_failed n_reader_rules n_reader_places n_reader_steps n_scripts_held n_scripts_steps n_scripts_counts c_now_askedCount c_now_outcome n_now_row c_history_next n_history_held)) (va_A (w_X7_text E a_ a_tape a_reader a_scripts a_now a_trial a_kept a_book a_keptBook a_history a_draws a_refused a_tape_bytes a_reader_rules a_reader_places a_reader_steps a_scripts_steps a_scripts_counts a_now_row a_now_partners a_now_share a_now_leftOver a_history_rows c_hasImage c_tape_length c_tape_bytes c_reader_siteCount c_reader_stepCount c_reader_seenRules c_reader_at c_reader_wordStart c_reader_number c_reader_failed c_reader_rules c_reader_places c_reader_steps c_scripts_held c_scripts_steps c_scripts_counts c_now_askedCount c_now_outcome c_now_row c_history_next c_history_held) sz)) 0 0 (va_A (w_X7_text E a_ a_tape a_reader a_scripts a_now a_trial a_kept a_book a_keptBook a_history a_draws a_refused a_tape_bytes a_reader_rules a_reader_places a_reader_steps a_scripts_steps a_scripts_counts a_now_row a_now_partners a_now_share a_now_leftOver a_history_rows c_hasImage c_tape_length c_tape_bytes c_reader_siteCount c_reader_stepCount c_reader_seenRules c_reader_at c_reader_wordStart c_reader_number c_reader_failed c_reader_rules c_reader_places c_reader_steps c_scripts_held c_scripts_steps c_scripts_counts c_now_askedCount c_now_outcome c_now_row c_history_next c_history_held) sz) := by
  refine Met.ofW (cc := cX7_text) (maxL := 2) (ret := (some .int)) (by decide) rfl ?_
  intro p e s m args below meth c s₁ B hml hv
  obtain ⟨rfl, hsz, ⟨hK, hN⟩, hP, hD0, hZ⟩ := hv
  have hx := B.exec
  have hb := B.bytes
  have hr := B.returns
  have hts := atoms_spec (ws := v_f_X7_text) B.pre
  have hown : s.vm.findClass RX7 = some m.cls := own_of hd_X7_text.1 (findClass_of_methodNamed B.named)
  have hlocks : meth.locks = false := B.notSynchronized
  subst hsz
  have hD := hD0.self (sz := s.heap.size)
  generalize hAe : va_A (w_X7_text E a_ a_tape a_reader a_scripts a_now a_trial a_kept a_book a_keptBook a_history a_draws a_refused a_tape_bytes a_reader_rules a_reader_places a_reader_steps a_scripts_steps a_scripts_counts a_now_row a_now_partners a_now_share a_now_leftOver a_history_rows c_hasImage c_tape_length c_tape_bytes c_reader_siteCount c_reader_stepCount c_reader_seenRules c_reader_at c_reader_wordStart c_reader_number c_reader_failed c_reader_rules c_reader_places c_reader_steps c_scripts_held c_scripts_steps c_scripts_counts c_now_askedCount c_now_outcome c_now_row c_history_next c_history_held) s.heap.size = A at hD hZ ⊢
  have hA : ∀ q : Nat, s.heap.size ≤ q → A q := fun q h => by rw [← hAe]; exact Or.inr h
  have hS : va_S A s.heap s.heap [] := va_S.rf
  have hl := lv_entry ([.ref a_, .int p1]) (n := 2) (Nat.le_of_ble_eq_true rfl)
  rw [lg_entry_eq]
  generalize (lg_sl ([.ref a_, .int p1]) ++ List.replicate (2 - (lg_sl ([.ref a_, .int p1])).length) Slot.unset).toArray = ls at hl ⊢
  have hl : lv_has ls 2 [(0, .ref a_), (1, .int p1)] := hl
  obtain ⟨Q, hQ⟩ : ∃ Q : State → Prop, Q = MQ below (va_Qi (fun (q : Int32) (_u : Unit) => q = rr) (fun (_u : Unit) tt => va_P E.1 vwCl (w_X7_text E a_ a_tape a_reader a_scripts a_now a_trial a_kept a_book a_keptBook a_history a_draws a_refused a_tape_bytes a_reader_rules a_reader_places a_reader_steps a_scripts_steps a_scripts_counts a_now_row a_now_partners a_now_share a_now_leftOver a_history_rows n_hasImage n_tape_length c_tape_bytes n_reader_siteCount n_reader_stepCount n_reader_seenRules n_reader_at n_reader_wordStart n_reader_number n_reader_failed n_reader_rules n_reader_places n_reader_steps n_scripts_held n_scripts_steps n_scripts_counts c_now_askedCount c_now_outcome n_now_row c_history_next n_history_held) tt.heap ∧ va_D A (w_X7_text E a_ a_tape a_reader a_scripts a_now a_trial a_kept a_book a_keptBook a_history a_draws a_refused a_tape_bytes a_reader_rules a_reader_places a_reader_steps a_scripts_steps a_scripts_counts a_now_row a_now_partners a_now_share a_now_leftOver a_history_rows n_hasImage n_tape_length c_tape_bytes n_reader_siteCount n_reader_stepCount n_reader_seenRules n_reader_at n_reader_wordStart n_reader_number n_reader_failed n_reader_rules n_reader_places n_reader_steps n_scripts_held n_scripts_steps n_scripts_counts c_now_askedCount c_now_outcome n_now_row c_history_next n_history_held)) A) #[Value.ref a_, Value.int p1] s 0 0 A := ⟨_, rfl⟩
  rw [← hQ]
  change W p l e ({ frames := 9, cells := 0, slots := 0, locals := 190 } : Room) s m #[Value.ref a_, Value.int p1] below meth c s.heap [] 0 0 Q (F0 m 0 ls [])
  suffices hh9 : ∀ (H : Heap) (locs : List Loc), va_P E.1 vwCl (w_X7_text E a_ a_tape a_reader a_scripts a_now a_trial a_kept a_book a_keptBook a_history a_draws a_refused a_tape_bytes a_reader_rules a_reader_places a_reader_steps a_scripts_steps a_scripts_counts a_now_row a_now_partners a_now_share a_now_leftOver a_history_rows c_hasImage c_tape_length c_tape_bytes c_reader_siteCount c_reader_stepCount c_reader_seenRules c_reader_at c_reader_wordStart c_reader_number c_reader_failed c_reader_rules c_reader_places c_reader_steps c_scripts_held c_scripts_steps c_scripts_counts c_now_askedCount c_now_outcome c_now_row c_history_next c_history_held) H → va_D A (w_X7_text E a_ a_tape a_reader a_scripts a_now a_trial a_kept a_book a_keptBook a_history a_draws a_refused a_tape_bytes a_reader_rules a_reader_places a_reader_steps a_scripts_steps a_scripts_counts a_now_row a_now_partners a_now_share a_now_leftOver a_history_rows c_hasImage c_tape_length c_tape_bytes c_reader_siteCount c_reader_stepCount c_reader_seenRules c_reader_at c_reader_wordStart c_reader_number c_reader_failed c_reader_rules c_reader_places c_reader_steps c_scripts_held c_scripts_steps c_scripts_counts c_now_askedCount c_now_outcome c_now_row c_history_next c_history_held) → va_S A s.heap H locs → W p l e ({ frames := 9, cells := 0, slots := 0, locals := 190 } : Room) s m #[Value.ref a_, Value.int p1] below meth c H locs 0 0 Q (F0 m 0 ls []) from hh9 s.heap [] hP hD hS
  clear hP hD hS
  intro H locs hP hD hS
  replace hP : va_P E.1 vwCl [(a_, .inr (8, [.ref a_tape, .ref a_reader, .ref a_scripts, .ref a_now, .ref a_trial, .ref a_kept, .ref a_book, .ref a_keptBook, .ref a_history, .ref a_draws, .ref a_refused, .int c_hasImage])), (a_tape, .inr (7, [.ref a_tape_bytes, .int c_tape_length])), (a_tape_bytes, .inl (E.2.2.1, 320, .inl c_tape_bytes)), (a_reader, .inr (4, [.ref a_tape, .ref a_reader_rules, .ref a_reader_places, .ref a_reader_steps, .int c_reader_siteCount, .int c_reader_stepCount, .int c_reader_seenRules, .int c_reader_at, .int c_reader_wordStart, .int c_reader_number, .int c_reader_failed])), (a_reader_rules, .inl (E.2.1, 3, .inl c_reader_rules)), (a_reader_places, .inl (E.2.1, 16, .inl c_reader_places)), (a_reader_steps, .inl (E.2.1, 48, .inl c_reader_steps)), (a_scripts, .inr (5, [.ref a_scripts_steps, .ref a_scripts_counts, .int c_scripts_held])), (a_scripts_steps, .inl (E.2.1, 192, .inl c_scripts_steps)), (a_scripts_counts, .inl (E.2.1, 4, .inl c_scripts_counts)), (a_now, .inr (6, [.ref a_now_row, .ref a_now_partners, .int c_now_askedCount, .int c_now_outcome, .ref a_now_share, .ref a_now_leftOver])), (a_now_row, .inl (E.2.1, 81, .inl c_now_row)), (a_history, .inr (3, [.ref a_history_rows, .int c_history_next, .int c_history_held]))] H := hP
  replace hD : va_D A [(a_, .inr (8, [.ref a_tape, .ref a_reader, .ref a_scripts, .ref a_now, .ref a_trial, .ref a_kept, .ref a_book, .ref a_keptBook, .ref a_history, .ref a_draws, .ref a_refused, .int c_hasImage])), (a_tape, .inr (7, [.ref a_tape_bytes, .int c_tape_length])), (a_tape_bytes, .inl (E.2.2.1, 320, .inl c_tape_bytes)), (a_reader, .inr (4, [.ref a_tape, .ref a_reader_rules, .ref a_reader_places, .ref a_reader_steps, .int c_reader_siteCount, .int c_reader_stepCount, .int c_reader_seenRules, .int c_reader_at, .int c_reader_wordStart, .int c_reader_number, .int c_reader_failed])), (a_reader_rules, .inl (E.2.1, 3, .inl c_reader_rules)), (a_reader_places, .inl (E.2.1, 16, .inl c_reader_places)), (a_reader_steps, .inl (E.2.1, 48, .inl c_reader_steps)), (a_scripts, .inr (5, [.ref a_scripts_steps, .ref a_scripts_counts, .int c_scripts_held])), (a_scripts_steps, .inl (E.2.1, 192, .inl c_scripts_steps)), (a_scripts_counts, .inl (E.2.1, 4, .inl c_scripts_counts)), (a_now, .inr (6, [.ref a_now_row, .ref a_now_partners, .int c_now_askedCount, .int c_now_outcome, .ref a_now_share, .ref a_now_leftOver])), (a_now_row, .inl (E.2.1, 81, .inl c_now_row)), (a_history, .inr (3, [.ref a_history_rows, .int c_history_next, .int c_history_held]))] := hD
  unfold F_X7_text at hF
  refine lv_iload_n hx hb dX7_text_0 rfl (lv_at hl 1 rfl) ?_
  refine lv_if_ne (tgt := 20) hx hb dX7_text_1 (by decide) (fun c_1 => ?_) (fun c_1 => ?_)
  ·
    replace hF := inn c_1 hF
    exact j_X7_text_20 l E K (p1 := p1) (c_tape_bytes := c_tape_bytes) (c_now_askedCount := c_now_askedCount) (c_now_outcome := c_now_outcome) (c_history_next := c_history_next) (c_tape_length := c_tape_length) (c_reader_rules := c_reader_rules) (c_reader_places := c_reader_places) (c_reader_steps := c_reader_steps) (c_reader_siteCount := c_reader_siteCount) (c_reader_stepCount := c_reader_stepCount) (c_reader_seenRules := c_reader_seenRules) (c_reader_at := c_reader_at) (c_reader_wordStart := c_reader_wordStart) (c_reader_number := c_reader_number) (c_reader_failed := c_reader_failed) (c_scripts_steps := c_scripts_steps) (c_scripts_counts := c_scripts_counts) (c_scripts_held := c_scripts_held) (c_now_row := c_now_row) (c_history_held := c_history_held) (c_hasImage := c_hasImage) hx hb hml hown hts hK hN hA hZ hr hlocks hQ hF H locs ls (hP.sub [0, 1, 2, 3, 4, 5, 6, 7, 8, 9, 10, 11, 12] rfl) (hD.sub [0, 1, 2, 3, 4, 5, 6, 7, 8, 9, 10, 11, 12] (by decide) rfl) hS (lv_sub hl [0, 1] rfl)
  ·
    replace hF := ip c_1 hF
    refine lv_aload_n hx hb dX7_text_4 rfl (lv_at hl 0 rfl) ?_
    refine gt_X7_1 (v := .ref a_reader) hx hb hts i_f_X7_text_X7 hown hK hP 0 rfl (hts (.fieldLink RX7 21 "HushWatch" "reader" "LHushWatch$Reader;") (List.mem_of_getElem? (i := 2) rfl)) rfl dX7_text_5 ?_
    replace hF := bd10_s hF
    obtain ⟨r_25, w_26, w_27, w_28, w_29, w_30, w_31, w_32, w_33, w_34, hc_35, hF⟩ := hF
    obtain ⟨hPc, hDc, hFc⟩ := wcut (wc := (w_X3_readWatch E a_reader a_tape a_reader_rules a_reader_places a_reader_steps a_tape_bytes c_reader_siteCount c_reader_stepCount c_reader_seenRules c_reader_at c_reader_wordStart c_reader_number c_reader_failed c_tape_length c_tape_bytes c_reader_rules c_reader_places)) hP hD hS hA [3, 1, 2, 4, 5] (by decide) rfl
    have hrc := va_recv hK hPc (ci := 4) (q0 := 0) rfl rfl
    refine cE_i (wc := (w_X3_readWatch E a_reader a_tape a_reader_rules a_reader_places a_reader_steps a_tape_bytes c_reader_siteCount c_reader_stepCount c_reader_seenRules c_reader_at c_reader_wordStart c_reader_number c_reader_failed c_tape_length c_tape_bytes c_reader_rules c_reader_places)) (wr := [(a_, .inr (8, [.ref a_tape, .ref a_reader, .ref a_scripts, .ref a_now, .ref a_trial, .ref a_kept, .ref a_book, .ref a_keptBook, .ref a_history, .ref a_draws, .ref a_refused, .int c_hasImage])), (a_reader_steps, .inl (E.2.1, 48, .inl c_reader_steps)), (a_scripts, .inr (5, [.ref a_scripts_steps, .ref a_scripts_counts, .int c_scripts_held])), (a_scripts_steps, .inl (E.2.1, 192, .inl c_scripts_steps)), (a_scripts_counts, .inl (E.2.1, 4, .inl c_scripts_counts)), (a_now, .inr (6, [.ref a_now_row, .ref a_now_partners, .int c_now_askedCount, .int c_now_outcome, .ref a_now_share, .ref a_now_leftOver])), (a_now_row, .inl (E.2.1, 81, .inl c_now_row)), (a_history, .inr (3, [.ref a_history_rows, .int c_history_next, .int c_history_held]))]) (w1 := (w_X3_readWatch E a_reader a_tape a_reader_rules a_reader_places a_reader_steps a_tape_bytes w_28 w_29 w_30 w_31 w_32 w_33 w_34 c_tape_length c_tape_bytes w_26 w_27)) (va_runV (As := []) (rest := [])  ⟨hx, hb, hml, hown, hts⟩ (f_X3_readWatch l E H.size K z9 (a_ := a_reader) (a_tape := a_tape) (a_rules := a_reader_rules) (a_places := a_reader_places) (a_steps := a_reader_steps) (a_tape_bytes := a_tape_bytes) (c_siteCount := c_reader_siteCount) (c_stepCount := c_reader_stepCount) (c_seenRules := c_reader_seenRules) (c_at := c_reader_at) (c_wordStart := c_reader_wordStart) (c_number := c_reader_number) (c_failed := c_reader_failed) (c_tape_length := c_tape_length) (c_tape_bytes := c_tape_bytes) (c_rules := c_reader_rules) (c_places := c_reader_places) hc_35) (cwV 0 hts g_f_X7_text_f_X3_readWatch_93 rfl rfl rfl hd_X3_readWatch ⟨Nat.le_of_ble_eq_true rfl, Nat.le_of_ble_eq_true rfl⟩) ⟨qWZ.blind, hrc, (qWZ.pre ⟨hK, hN⟩ hPc hDc hZ hS hFc)⟩ rfl rfl hl.1 rfl (lv_room (Nat.le_of_ble_eq_true rfl)) dX7_text_8 ⟨Nat.le_of_ble_eq_true rfl, Nat.le_of_ble_eq_true rfl⟩) hS hFc hP hD [3, 1, 2, 4, 5] [0, 6, 7, 8, 9, 10, 11, 12] rfl rfl (by decide) (by decide) (fun H locs hP hD hS => ?_)
    replace hP : va_P E.1 vwCl [(a_, .inr (8, [.ref a_tape, .ref a_reader, .ref a_scripts, .ref a_now, .ref a_trial, .ref a_kept, .ref a_book, .ref a_keptBook, .ref a_history, .ref a_draws, .ref a_refused, .int c_hasImage])), (a_reader_steps, .inl (E.2.1, 48, .inl c_reader_steps)), (a_scripts, .inr (5, [.ref a_scripts_steps, .ref a_scripts_counts, .int c_scripts_held])), (a_scripts_steps, .inl (E.2.1, 192, .inl c_scripts_steps)), (a_scripts_counts, .inl (E.2.1, 4, .inl c_scripts_counts)), (a_now, .inr (6, [.ref a_now_row, .ref a_now_partners, .int c_now_askedCount, .int c_now_outcome, .ref a_now_share, .ref a_now_leftOver])), (a_now_row, .inl (E.2.1, 81, .inl c_now_row)), (a_history, .inr (3, [.ref a_history_rows, .int c_history_next, .int c_history_held])), (a_reader, .inr (4, [.ref a_tape, .ref a_reader_rules, .ref a_reader_places, .ref a_reader_steps, .int w_28, .int w_29, .int w_30, .int w_31, .int w_32, .int w_33, .int w_34])), (a_tape, .inr (7, [.ref a_tape_bytes, .int c_tape_length])), (a_tape_bytes, .inl (E.2.2.1, 320, .inl c_tape_bytes)), (a_reader_rules, .inl (E.2.1, 3, .inl w_26)), (a_reader_places, .inl (E.2.1, 16, .inl w_27))] H := hP
    replace hD : va_D A [(a_, .inr (8, [.ref a_tape, .ref a_reader, .ref a_scripts, .ref a_now, .ref a_trial, .ref a_kept, .ref a_book, .ref a_keptBook, .ref a_history, .ref a_draws, .ref a_refused, .int c_hasImage])), (a_reader_steps, .inl (E.2.1, 48, .inl c_reader_steps)), (a_scripts, .inr (5, [.ref a_scripts_steps, .ref a_scripts_counts, .int c_scripts_held])), (a_scripts_steps, .inl (E.2.1, 192, .inl c_scripts_steps)), (a_scripts_counts, .inl (E.2.1, 4, .inl c_scripts_counts)), (a_now, .inr (6, [.ref a_now_row, .ref a_now_partners, .int c_now_askedCount, .int c_now_outcome, .ref a_now_share, .ref a_now_leftOver])), (a_now_row, .inl (E.2.1, 81, .inl c_now_row)), (a_history, .inr (3, [.ref a_history_rows, .int c_history_next, .int c_history_held])), (a_reader, .inr (4, [.ref a_tape, .ref a_reader_rules, .ref a_reader_places, .ref a_reader_steps, .int w_28, .int w_29, .int w_30, .int w_31, .int w_32, .int w_33, .int w_34])), (a_tape, .inr (7, [.ref a_tape_bytes, .int c_tape_length])), (a_tape_bytes, .inl (E.2.2.1, 320, .inl c_tape_bytes)), (a_reader_rules, .inl (E.2.1, 3, .inl w_26)), (a_reader_places, .inl (E.2.1, 16, .inl w_27))] := hD
    refine lv_iconst (v := -1) hx hb dX7_text_11 (by decide) ?_
    refine lv_icmp_ne (tgt := 20) hx hb dX7_text_12 (by decide) (fun c_36 => ?_) (fun c_36 => ?_)
    ·
      replace hF := inn c_36 hF
      exact j_X7_text_20 l E K (p1 := p1) (c_tape_bytes := c_tape_bytes) (c_now_askedCount := c_now_askedCount) (c_now_outcome := c_now_outcome) (c_history_next := c_history_next) (c_tape_length := c_tape_length) (c_reader_rules := w_26) (c_reader_places := w_27) (c_reader_steps := c_reader_steps) (c_reader_siteCount := w_28) (c_reader_stepCount := w_29) (c_reader_seenRules := w_30) (c_reader_at := w_31) (c_reader_wordStart := w_32) (c_reader_number := w_33) (c_reader_failed := w_34) (c_scripts_steps := c_scripts_steps) (c_scripts_counts := c_scripts_counts) (c_scripts_held := c_scripts_held) (c_now_row := c_now_row) (c_history_held := c_history_held) (c_hasImage := c_hasImage) hx hb hml hown hts hK hN hA hZ hr hlocks hQ hF H locs ls (hP.sub [0, 9, 10, 8, 11, 12, 1, 2, 3, 4, 5, 6, 7] rfl) (hD.sub [0, 9, 10, 8, 11, 12, 1, 2, 3, 4, 5, 6, 7] (by decide) rfl) hS (lv_sub hl [0, 1] rfl)
    ·
      replace hF := ip c_36 hF
      refine lv_aload_n hx hb dX7_text_15 rfl (lv_at hl 0 rfl) ?_
      replace hF := bd5_s hF
      obtain ⟨r_37, w_38, w_39, w_40, w_41, hc_42, hF⟩ := hF
      obtain ⟨hPc, hDc, hFc⟩ := wcut (wc := (w_X7_beginWatch E a_ a_tape a_reader a_scripts a_now a_trial a_kept a_book a_keptBook a_history a_draws a_refused a_tape_bytes a_reader_rules a_reader_places a_reader_steps a_now_row a_now_partners a_now_share a_now_leftOver a_history_rows c_hasImage c_tape_length w_28 w_29 w_30 w_31 w_32 w_33 w_34 w_26 w_27 c_now_askedCount c_now_outcome c_now_row c_history_next c_history_held)) hP hD hS hA [0, 9, 8, 11, 12, 5, 6, 7] (by decide) rfl
      have hrc := va_recv hK hPc (ci := 8) (q0 := 0) rfl rfl
      refine cE_i (wc := (w_X7_beginWatch E a_ a_tape a_reader a_scripts a_now a_trial a_kept a_book a_keptBook a_history a_draws a_refused a_tape_bytes a_reader_rules a_reader_places a_reader_steps a_now_row a_now_partners a_now_share a_now_leftOver a_history_rows c_hasImage c_tape_length w_28 w_29 w_30 w_31 w_32 w_33 w_34 w_26 w_27 c_now_askedCount c_now_outcome c_now_row c_history_next c_history_held)) (wr := [(a_reader_steps, .inl (E.2.1, 48, .inl c_reader_steps)), (a_scripts, .inr (5, [.ref a_scripts_steps, .ref a_scripts_counts, .int c_scripts_held])), (a_scripts_steps, .inl (E.2.1, 192, .inl c_scripts_steps)), (a_scripts_counts, .inl (E.2.1, 4, .inl c_scripts_counts)), (a_tape_bytes, .inl (E.2.2.1, 320, .inl c_tape_bytes))]) (w1 := (w_X7_beginWatch E a_ a_tape a_reader a_scripts a_now a_trial a_kept a_book a_keptBook a_history a_draws a_refused a_tape_bytes a_reader_rules a_reader_places a_reader_steps a_now_row a_now_partners a_now_share a_now_leftOver a_history_rows w_41 w_38 w_28 w_29 w_30 w_31 w_32 w_33 w_34 w_26 w_27 c_now_askedCount c_now_outcome w_39 c_history_next w_40)) (va_runV (As := []) (rest := [])  ⟨hx, hb, hml, hown, hts⟩ (f_X7_beginWatch l E H.size K (a_ := a_) (a_tape := a_tape) (a_reader := a_reader) (a_scripts := a_scripts) (a_now := a_now) (a_trial := a_trial) (a_kept := a_kept) (a_book := a_book) (a_keptBook := a_keptBook) (a_history := a_history) (a_draws := a_draws) (a_refused := a_refused) (a_tape_bytes := a_tape_bytes) (a_reader_rules := a_reader_rules) (a_reader_places := a_reader_places) (a_reader_steps := a_reader_steps) (a_now_row := a_now_row) (a_now_partners := a_now_partners) (a_now_share := a_now_share) (a_now_leftOver := a_now_leftOver) (a_history_rows := a_history_rows) (c_hasImage := c_hasImage) (c_tape_length := c_tape_length) (c_reader_siteCount := w_28) (c_reader_stepCount := w_29) (c_reader_seenRules := w_30) (c_reader_at := w_31) (c_reader_wordStart := w_32) (c_reader_number := w_33) (c_reader_failed := w_34) (c_reader_rules := w_26) (c_reader_places := w_27) (c_now_askedCount := c_now_askedCount) (c_now_outcome := c_now_outcome) (c_now_row := c_now_row) (c_history_next := c_history_next) (c_history_held := c_history_held) hc_42) (cwV 0 hts g_f_X7_text_f_X7_beginWatch_100 rfl rfl rfl hd_X7_beginWatch ⟨Nat.le_of_ble_eq_true rfl, Nat.le_of_ble_eq_true rfl⟩) ⟨pW.blind, hrc, (pW.pre ⟨hK, hN⟩ hPc hDc)⟩ rfl rfl hl.1 rfl (lv_room (Nat.le_of_ble_eq_true rfl)) dX7_text_16 ⟨Nat.le_of_ble_eq_true rfl, Nat.le_of_ble_eq_true rfl⟩) hS hFc hP hD [0, 9, 8, 11, 12, 5, 6, 7] [1, 2, 3, 4, 10] rfl rfl (by decide) (by decide) (fun H locs hP hD hS => ?_)
      replace hP : va_P E.1 vwCl [(a_reader_steps, .inl (E.2.1, 48, .inl c_reader_steps)), (a_scripts, .inr (5, [.ref a_scripts_steps, .ref a_scripts_counts, .int c_scripts_held])), (a_scripts_steps, .inl (E.2.1, 192, .inl c_scripts_steps)), (a_scripts_counts, .inl (E.2.1, 4, .inl c_scripts_counts)), (a_tape_bytes, .inl (E.2.2.1, 320, .inl c_tape_bytes)), (a_, .inr (8, [.ref a_tape, .ref a_reader, .ref a_scripts, .ref a_now, .ref a_trial, .ref a_kept, .ref a_book, .ref a_keptBook, .ref a_history, .ref a_draws, .ref a_refused, .int w_41])), (a_tape, .inr (7, [.ref a_tape_bytes, .int w_38])), (a_reader, .inr (4, [.ref a_tape, .ref a_reader_rules, .ref a_reader_places, .ref a_reader_steps, .int w_28, .int w_29, .int w_30, .int w_31, .int w_32, .int w_33, .int w_34])), (a_reader_rules, .inl (E.2.1, 3, .inl w_26)), (a_reader_places, .inl (E.2.1, 16, .inl w_27)), (a_now, .inr (6, [.ref a_now_row, .ref a_now_partners, .int c_now_askedCount, .int c_now_outcome, .ref a_now_share, .ref a_now_leftOver])), (a_now_row, .inl (E.2.1, 81, .inl w_39)), (a_history, .inr (3, [.ref a_history_rows, .int c_history_next, .int w_40]))] H := hP
      replace hD : va_D A [(a_reader_steps, .inl (E.2.1, 48, .inl c_reader_steps)), (a_scripts, .inr (5, [.ref a_scripts_steps, .ref a_scripts_counts, .int c_scripts_held])), (a_scripts_steps, .inl (E.2.1, 192, .inl c_scripts_steps)), (a_scripts_counts, .inl (E.2.1, 4, .inl c_scripts_counts)), (a_tape_bytes, .inl (E.2.2.1, 320, .inl c_tape_bytes)), (a_, .inr (8, [.ref a_tape, .ref a_reader, .ref a_scripts, .ref a_now, .ref a_trial, .ref a_kept, .ref a_book, .ref a_keptBook, .ref a_history, .ref a_draws, .ref a_refused, .int w_41])), (a_tape, .inr (7, [.ref a_tape_bytes, .int w_38])), (a_reader, .inr (4, [.ref a_tape, .ref a_reader_rules, .ref a_reader_places, .ref a_reader_steps, .int w_28, .int w_29, .int w_30, .int w_31, .int w_32, .int w_33, .int w_34])), (a_reader_rules, .inl (E.2.1, 3, .inl w_26)), (a_reader_places, .inl (E.2.1, 16, .inl w_27)), (a_now, .inr (6, [.ref a_now_row, .ref a_now_partners, .int c_now_askedCount, .int c_now_outcome, .ref a_now_share, .ref a_now_leftOver])), (a_now_row, .inl (E.2.1, 81, .inl w_39)), (a_history, .inr (3, [.ref a_history_rows, .int c_history_next, .int w_40]))] := hD
      rw [hQ]
      have h9 := fin9 (P := fun u9 : Int32 × Int32 × (Nat → Int32) × (Nat → Int32) × (Nat → Int32) × Int32 × Int32 × Int32 × Int32 × Int32 × Int32 × Int32 × (Nat → Int32) × (Nat → Int32) × Int32 × (Nat → Int32) × Int32 × Int32 => r_37 = u9.1 ∧ va_P E.1 vwCl (w_X7_text E a_ a_tape a_reader a_scripts a_now a_trial a_kept a_book a_keptBook a_history a_draws a_refused a_tape_bytes a_reader_rules a_reader_places a_reader_steps a_scripts_steps a_scripts_counts a_now_row a_now_partners a_now_share a_now_leftOver a_history_rows u9.2.2.2.2.2.2.2.2.2.2.2.2.2.2.2.2.2 u9.2.1 c_tape_bytes u9.2.2.2.2.2.1 u9.2.2.2.2.2.2.1 u9.2.2.2.2.2.2.2.1 u9.2.2.2.2.2.2.2.2.1 u9.2.2.2.2.2.2.2.2.2.1 u9.2.2.2.2.2.2.2.2.2.2.1 u9.2.2.2.2.2.2.2.2.2.2.2.1 u9.2.2.1 u9.2.2.2.1 u9.2.2.2.2.1 u9.2.2.2.2.2.2.2.2.2.2.2.2.2.2.1 u9.2.2.2.2.2.2.2.2.2.2.2.2.1 u9.2.2.2.2.2.2.2.2.2.2.2.2.2.1 c_now_askedCount c_now_outcome u9.2.2.2.2.2.2.2.2.2.2.2.2.2.2.2.1 c_history_next u9.2.2.2.2.2.2.2.2.2.2.2.2.2.2.2.2.1) H ∧ va_D A (w_X7_text E a_ a_tape a_reader a_scripts a_now a_trial a_kept a_book a_keptBook a_history a_draws a_refused a_tape_bytes a_reader_rules a_reader_places a_reader_steps a_scripts_steps a_scripts_counts a_now_row a_now_partners a_now_share a_now_leftOver a_history_rows u9.2.2.2.2.2.2.2.2.2.2.2.2.2.2.2.2.2 u9.2.1 c_tape_bytes u9.2.2.2.2.2.1 u9.2.2.2.2.2.2.1 u9.2.2.2.2.2.2.2.1 u9.2.2.2.2.2.2.2.2.1 u9.2.2.2.2.2.2.2.2.2.1 u9.2.2.2.2.2.2.2.2.2.2.1 u9.2.2.2.2.2.2.2.2.2.2.2.1 u9.2.2.1 u9.2.2.2.1 u9.2.2.2.2.1 u9.2.2.2.2.2.2.2.2.2.2.2.2.2.2.1 u9.2.2.2.2.2.2.2.2.2.2.2.2.1 u9.2.2.2.2.2.2.2.2.2.2.2.2.2.1 c_now_askedCount c_now_outcome u9.2.2.2.2.2.2.2.2.2.2.2.2.2.2.2.1 c_history_next u9.2.2.2.2.2.2.2.2.2.2.2.2.2.2.2.2.1)) hF ⟨rfl, hP.sub [5, 6, 4, 7, 8, 9, 0, 1, 2, 3, 10, 11, 12] rfl, hD.sub [5, 6, 4, 7, 8, 9, 0, 1, 2, 3, 10, 11, 12] (by decide) rfl⟩
      obtain ⟨e9_0, hP9, hD9⟩ := h9
      exact W.iret (v := r_37) hx hb hr (fun tt ht hW => ⟨⟨_, (), rfl, e9_0, ht ▸ hP9, hD9⟩, hS.F ht⟩) hS.2.2 dX7_text_19

def F_X7_undo (c_now_row : Nat → Int32) (c_history_rows : Nat → Int32) (c_history_next : Int32) (c_history_held : Int32) : Option (Int32 × (Nat → Int32) × Int32 × Int32) :=
  bd4 (F_X2_bringBack c_history_rows c_history_next c_history_held c_now_row) (fun r_1 w_2 w_3 w_4 => if r_1 = (0 : Int32) then some ((-1 : Int32), w_4, w_2, w_3) else some (w_3, w_4, w_2, w_3))
abbrev w_X7_undo (E : EE) (a_ a_tape a_reader a_scripts a_now a_trial a_kept a_book a_keptBook a_history a_draws a_refused a_now_row a_now_partners a_now_share a_now_leftOver a_history_rows : Nat) (c_hasImage : Int32) (c_now_askedCount : Int32) (c_now_outcome : Int32) (c_now_row : Nat → Int32) (c_history_next : Int32) (c_history_held : Int32) (c_history_rows : Nat → Int32) : va_W := [(a_, .inr (8, [.ref a_tape, .ref a_reader, .ref a_scripts, .ref a_now, .ref a_trial, .ref a_kept, .ref a_book, .ref a_keptBook, .ref a_history, .ref a_draws, .ref a_refused, .int c_hasImage])), (a_now, .inr (6, [.ref a_now_row, .ref a_now_partners, .int c_now_askedCount, .int c_now_outcome, .ref a_now_share, .ref a_now_leftOver])), (a_now_row, .inl (E.2.1, 81, .inl c_now_row)), (a_history, .inr (3, [.ref a_history_rows, .int c_history_next, .int c_history_held])), (a_history_rows, .inl (E.2.1, 3240, .inl c_history_rows))]
def v_f_X7_undo : List Cond := .code yX7_undo cX7_undo 1 (some .int) :: ([.fieldLink RX7 58 "HushWatch" "history" "LHushWatch$History;", .fieldLink RX7 35 "HushWatch" "now" "LHushWatch$State;", .methodLink RX7 197 yX2_bringBack, .instanceMethod yX2_bringBack, .selects RX2 yX2_bringBack yX2_bringBack, .initialized RX2] ++ (wsX70 ++ (v_f_X2_bringBack ++ (wsX20 ++ ([])))))
theorem gw_f_X7_undo : v_f_X7_undo.all goodWord = true := by decide +kernel
theorem i_f_X7_undo_X7 : ∀ w ∈ wsX70, w ∈ v_f_X7_undo := fun _ h => List.mem_cons_of_mem _ (List.mem_append_right _ (List.mem_append_left _ h))
theorem i_f_X7_undo_X2 : ∀ w ∈ wsX20, w ∈ v_f_X7_undo := fun _ h => List.mem_cons_of_mem _ (List.mem_append_right _ (List.mem_append_right _ (List.mem_append_right _ (List.mem_append_left _ h))))
theorem g_f_X7_undo_f_X2_bringBack_197 : GoodIn v_f_X7_undo (wsV RX7 197 RX2 yX2_bringBack v_f_X2_bringBack) := goodIn_app (goodIn_of _ (by decide +kernel)) (goodIn_sub (fun _ h => List.mem_cons_of_mem _ (List.mem_append_right _ (List.mem_append_right _ (List.mem_append_left _ h)))) gw_f_X2_bringBack)
theorem hd_X7_undo : yX7_undo.cls = RX7 ∧ yX7_undo.cls ≠ "java/lang/invoke/MethodHandle" ∧ yX7_undo.cls ≠ "java/lang/invoke/VarHandle" ∧ (parseMethodDescriptor yX7_undo.desc).map (fun d => d.parameters.length) = some 0 := by decide +kernel
set_option maxHeartbeats 4000000 in
set_option maxRecDepth 100000 in
theorem f_X7_undo (l : Launch) (E : EE) (sz : Nat) {a_ a_tape a_reader a_scripts a_now a_trial a_kept a_book a_keptBook a_history a_draws a_refused a_now_row a_now_partners a_now_share a_now_leftOver a_history_rows : Nat} {c_hasImage : Int32} {c_now_askedCount : Int32} {c_now_outcome : Int32} {c_now_row : Nat → Int32} {c_history_next : Int32} {c_history_held : Int32} {c_history_rows : Nat → Int32} {rr : Int32} {n_now_row : Nat → Int32} {n_history_next : Int32} {n_history_held : Int32} (hF : F_X7_undo c_now_row c_history_rows c_history_next c_history_held = some (rr, n_now_row, n_history_next, n_history_held)) : Met l yX7_undo v_f_X7_undo (({ frames := 2, cells := 0, slots := 0, locals := 81 } : Room)) (va_Pc [.ref a_] (pW E sz (w_X7_undo E a_ a_tape a_reader a_scripts a_now a_trial a_kept a_book a_keptBook a_history a_draws a_refused a_now_row a_now_partners a_now_share a_now_leftOver a_history_rows c_hasImage c_now_askedCount c_now_outcome c_now_row c_history_next c_history_held c_history_rows))) (va_Qi (fun (q : Int32) (_u : Unit) => q = rr) (fun (_u : Unit) tt => va_P E.1 vwCl (w_X7_undo E a_ a_tape a_reader a_scripts a_now a_trial a_kept a_book a_keptBook a_history a_draws a_refused a_now_row a_now_partners a_now_share a_now_leftOver a_history_rows c_hasImage c_now_askedCount c_now_outcome n_now_row n_history_next n_history_held c_history_rows) tt.heap ∧ va_D (va_A (w_X7_undo E a_ a_tape a_reader a_scripts a_now a_trial a_kept a_book a_keptBook a_history a_draws a_refused a_now_row a_now_partners a_now_share a_now_leftOver a_history_rows c_hasImage c_now_askedCount c_now_outcome c_now_row c_history_next c_history_held c_history_rows) sz) (w_X7_undo E a_ a_tape a_reader a_scripts a_now a_trial a_kept a_book a_keptBook a_history a_draws a_refused a_now_row a_now_partners a_now_share a_now_leftOver a_history_rows c_hasImage c_now_askedCount c_now_outcome n_now_row n_history_next n_history_held c_history_rows)) (va_A (w_X7_undo E a_ a_tape a_reader a_scripts a_now a_trial a_kept a_book a_keptBook a_history a_draws a_refused a_now_row a_now_partners a_now_share a_now_leftOver a_history_rows c_hasImage c_now_askedCount c_now_outcome c_now_row c_history_next c_history_held c_history_rows) sz)) 0 0 (va_A (w_X7_undo E a_ a_tape a_reader a_scripts a_now a_trial a_kept a_book a_keptBook a_history a_draws a_refused a_now_row a_now_partners a_now_share a_now_leftOver a_history_rows c_hasImage c_now_askedCount c_now_outcome c_now_row c_history_next c_history_held c_history_rows) sz) := by
  refine Met.ofW (cc := cX7_undo) (maxL := 1) (ret := (some .int)) (by decide) rfl ?_
  intro p e s m args below meth c s₁ B hml hv
  obtain ⟨rfl, hsz, ⟨hK, hN⟩, hP, hD0⟩ := hv
  have hx := B.exec
  have hb := B.bytes
  have hr := B.returns
  have hts := atoms_spec (ws := v_f_X7_undo) B.pre
  have hown : s.vm.findClass RX7 = some m.cls := own_of hd_X7_undo.1 (findClass_of_methodNamed B.named)
  have hlocks : meth.locks = false := B.notSynchronized
  subst hsz
  have hD := hD0.self (sz := s.heap.size)
  generalize hAe : va_A (w_X7_undo E a_ a_tape a_reader a_scripts a_now a_trial a_kept a_book a_keptBook a_history a_draws a_refused a_now_row a_now_partners a_now_share a_now_leftOver a_history_rows c_hasImage c_now_askedCount c_now_outcome c_now_row c_history_next c_history_held c_history_rows) s.heap.size = A at hD ⊢
  have hA : ∀ q : Nat, s.heap.size ≤ q → A q := fun q h => by rw [← hAe]; exact Or.inr h
  have hS : va_S A s.heap s.heap [] := va_S.rf
  have hl := lv_entry ([.ref a_]) (n := 1) (Nat.le_of_ble_eq_true rfl)
  rw [lg_entry_eq]
  generalize (lg_sl ([.ref a_]) ++ List.replicate (1 - (lg_sl ([.ref a_])).length) Slot.unset).toArray = ls at hl ⊢
  have hl : lv_has ls 1 [(0, .ref a_)] := hl
  obtain ⟨Q, hQ⟩ : ∃ Q : State → Prop, Q = MQ below (va_Qi (fun (q : Int32) (_u : Unit) => q = rr) (fun (_u : Unit) tt => va_P E.1 vwCl (w_X7_undo E a_ a_tape a_reader a_scripts a_now a_trial a_kept a_book a_keptBook a_history a_draws a_refused a_now_row a_now_partners a_now_share a_now_leftOver a_history_rows c_hasImage c_now_askedCount c_now_outcome n_now_row n_history_next n_history_held c_history_rows) tt.heap ∧ va_D A (w_X7_undo E a_ a_tape a_reader a_scripts a_now a_trial a_kept a_book a_keptBook a_history a_draws a_refused a_now_row a_now_partners a_now_share a_now_leftOver a_history_rows c_hasImage c_now_askedCount c_now_outcome n_now_row n_history_next n_history_held c_history_rows)) A) #[Value.ref a_] s 0 0 A := ⟨_, rfl⟩
  rw [← hQ]
  change W p l e ({ frames := 2, cells := 0, slots := 0, locals := 81 } : Room) s m #[Value.ref a_] below meth c s.heap [] 0 0 Q (F0 m 0 ls [])
  suffices hh9 : ∀ (H : Heap) (locs : List Loc), va_P E.1 vwCl (w_X7_undo E a_ a_tape a_reader a_scripts a_now a_trial a_kept a_book a_keptBook a_history a_draws a_refused a_now_row a_now_partners a_now_share a_now_leftOver a_history_rows c_hasImage c_now_askedCount c_now_outcome c_now_row c_history_next c_history_held c_history_rows) H → va_D A (w_X7_undo E a_ a_tape a_reader a_scripts a_now a_trial a_kept a_book a_keptBook a_history a_draws a_refused a_now_row a_now_partners a_now_share a_now_leftOver a_history_rows c_hasImage c_now_askedCount c_now_outcome c_now_row c_history_next c_history_held c_history_rows) → va_S A s.heap H locs → W p l e ({ frames := 2, cells := 0, slots := 0, locals := 81 } : Room) s m #[Value.ref a_] below meth c H locs 0 0 Q (F0 m 0 ls []) from hh9 s.heap [] hP hD hS
  clear hP hD hS
  intro H locs hP hD hS
  replace hP : va_P E.1 vwCl [(a_, .inr (8, [.ref a_tape, .ref a_reader, .ref a_scripts, .ref a_now, .ref a_trial, .ref a_kept, .ref a_book, .ref a_keptBook, .ref a_history, .ref a_draws, .ref a_refused, .int c_hasImage])), (a_now, .inr (6, [.ref a_now_row, .ref a_now_partners, .int c_now_askedCount, .int c_now_outcome, .ref a_now_share, .ref a_now_leftOver])), (a_now_row, .inl (E.2.1, 81, .inl c_now_row)), (a_history, .inr (3, [.ref a_history_rows, .int c_history_next, .int c_history_held])), (a_history_rows, .inl (E.2.1, 3240, .inl c_history_rows))] H := hP
  replace hD : va_D A [(a_, .inr (8, [.ref a_tape, .ref a_reader, .ref a_scripts, .ref a_now, .ref a_trial, .ref a_kept, .ref a_book, .ref a_keptBook, .ref a_history, .ref a_draws, .ref a_refused, .int c_hasImage])), (a_now, .inr (6, [.ref a_now_row, .ref a_now_partners, .int c_now_askedCount, .int c_now_outcome, .ref a_now_share, .ref a_now_leftOver])), (a_now_row, .inl (E.2.1, 81, .inl c_now_row)), (a_history, .inr (3, [.ref a_history_rows, .int c_history_next, .int c_history_held])), (a_history_rows, .inl (E.2.1, 3240, .inl c_history_rows))] := hD
  unfold F_X7_undo at hF
  refine lv_aload_n hx hb dX7_undo_0 rfl (lv_at hl 0 rfl) ?_
  refine gt_X7_8 (v := .ref a_history) hx hb hts i_f_X7_undo_X7 hown hK hP 0 rfl (hts (.fieldLink RX7 58 "HushWatch" "history" "LHushWatch$History;") (List.mem_of_getElem? (i := 1) rfl)) rfl dX7_undo_1 ?_
  refine lv_aload_n hx hb dX7_undo_4 rfl (lv_at hl 0 rfl) ?_
  refine gt_X7_3 (v := .ref a_now) hx hb hts i_f_X7_undo_X7 hown hK hP 0 rfl (hts (.fieldLink RX7 35 "HushWatch" "now" "LHushWatch$State;") (List.mem_of_getElem? (i := 2) rfl)) rfl dX7_undo_5 ?_
  replace hF := bd4_s hF
  obtain ⟨r_1, w_2, w_3, w_4, hc_5, hF⟩ := hF
  obtain ⟨hPc, hDc, hFc⟩ := wcut (wc := (w_X2_bringBack E a_history a_history_rows a_now a_now_row a_now_partners a_now_share a_now_leftOver c_history_next c_history_held c_history_rows c_now_askedCount c_now_outcome c_now_row)) hP hD hS hA [3, 4, 1, 2] (by decide) rfl
  have hrc := va_recv hK hPc (ci := 3) (q0 := 0) rfl rfl
  refine cE_z (wc := (w_X2_bringBack E a_history a_history_rows a_now a_now_row a_now_partners a_now_share a_now_leftOver c_history_next c_history_held c_history_rows c_now_askedCount c_now_outcome c_now_row)) (wr := [(a_, .inr (8, [.ref a_tape, .ref a_reader, .ref a_scripts, .ref a_now, .ref a_trial, .ref a_kept, .ref a_book, .ref a_keptBook, .ref a_history, .ref a_draws, .ref a_refused, .int c_hasImage]))]) (w1 := (w_X2_bringBack E a_history a_history_rows a_now a_now_row a_now_partners a_now_share a_now_leftOver w_2 w_3 c_history_rows c_now_askedCount c_now_outcome w_4)) (va_runV (As := [.ref a_now]) (rest := [])  ⟨hx, hb, hml, hown, hts⟩ (f_X2_bringBack l E H.size (a_ := a_history) (a_rows := a_history_rows) (a_o1 := a_now) (a_o1_row := a_now_row) (a_o1_partners := a_now_partners) (a_o1_share := a_now_share) (a_o1_leftOver := a_now_leftOver) (c_next := c_history_next) (c_held := c_history_held) (c_rows := c_history_rows) (c_o1_askedCount := c_now_askedCount) (c_o1_outcome := c_now_outcome) (c_o1_row := c_now_row) hc_5) (cwV 1 hts g_f_X7_undo_f_X2_bringBack_197 rfl rfl rfl hd_X2_bringBack ⟨Nat.le_of_ble_eq_true rfl, Nat.le_of_ble_eq_true rfl⟩) ⟨pW.blind, hrc, (pW.pre ⟨hK, hN⟩ hPc hDc)⟩ rfl rfl hl.1 rfl (lv_room (Nat.le_of_ble_eq_true rfl)) dX7_undo_8 ⟨Nat.le_of_ble_eq_true rfl, Nat.le_of_ble_eq_true rfl⟩) hS hFc hP hD [3, 4, 1, 2] [0] rfl rfl (by decide) (by decide) (fun hb_6 H locs hP hD hS => ?_)
  replace hP : va_P E.1 vwCl [(a_, .inr (8, [.ref a_tape, .ref a_reader, .ref a_scripts, .ref a_now, .ref a_trial, .ref a_kept, .ref a_book, .ref a_keptBook, .ref a_history, .ref a_draws, .ref a_refused, .int c_hasImage])), (a_history, .inr (3, [.ref a_history_rows, .int w_2, .int w_3])), (a_history_rows, .inl (E.2.1, 3240, .inl c_history_rows)), (a_now, .inr (6, [.ref a_now_row, .ref a_now_partners, .int c_now_askedCount, .int c_now_outcome, .ref a_now_share, .ref a_now_leftOver])), (a_now_row, .inl (E.2.1, 81, .inl w_4))] H := hP
  replace hD : va_D A [(a_, .inr (8, [.ref a_tape, .ref a_reader, .ref a_scripts, .ref a_now, .ref a_trial, .ref a_kept, .ref a_book, .ref a_keptBook, .ref a_history, .ref a_draws, .ref a_refused, .int c_hasImage])), (a_history, .inr (3, [.ref a_history_rows, .int w_2, .int w_3])), (a_history_rows, .inl (E.2.1, 3240, .inl c_history_rows)), (a_now, .inr (6, [.ref a_now_row, .ref a_now_partners, .int c_now_askedCount, .int c_now_outcome, .ref a_now_share, .ref a_now_leftOver])), (a_now_row, .inl (E.2.1, 81, .inl w_4))] := hD
  refine lv_if_eq (tgt := 24) hx hb dX7_undo_11 (by decide) (fun c_7 => ?_) (fun c_7 => ?_)
  ·
    replace hF := ip c_7 hF
    refine lv_iconst (v := -1) hx hb dX7_undo_24 (by decide) ?_
    rw [hQ]
    have h9 := fin9 (P := fun u9 : Int32 × (Nat → Int32) × Int32 × Int32 => (-1 : Int32) = u9.1 ∧ va_P E.1 vwCl (w_X7_undo E a_ a_tape a_reader a_scripts a_now a_trial a_kept a_book a_keptBook a_history a_draws a_refused a_now_row a_now_partners a_now_share a_now_leftOver a_history_rows c_hasImage c_now_askedCount c_now_outcome u9.2.1 u9.2.2.1 u9.2.2.2 c_history_rows) H ∧ va_D A (w_X7_undo E a_ a_tape a_reader a_scripts a_now a_trial a_kept a_book a_keptBook a_history a_draws a_refused a_now_row a_now_partners a_now_share a_now_leftOver a_history_rows c_hasImage c_now_askedCount c_now_outcome u9.2.1 u9.2.2.1 u9.2.2.2 c_history_rows)) hF ⟨rfl, hP.sub [0, 3, 4, 1, 2] rfl, hD.sub [0, 3, 4, 1, 2] (by decide) rfl⟩
    obtain ⟨e9_0, hP9, hD9⟩ := h9
    exact W.iret (v := (-1 : Int32)) hx hb hr (fun tt ht hW => ⟨⟨_, (), rfl, e9_0, ht ▸ hP9, hD9⟩, hS.F ht⟩) hS.2.2 dX7_undo_25
  ·
    replace hF := inn c_7 hF
    refine lv_aload_n hx hb dX7_undo_14 rfl (lv_at hl 0 rfl) ?_
    refine gt_X7_8 (v := .ref a_history) hx hb hts i_f_X7_undo_X7 hown hK hP 0 rfl (hts (.fieldLink RX7 58 "HushWatch" "history" "LHushWatch$History;") (List.mem_of_getElem? (i := 1) rfl)) rfl dX7_undo_15 ?_
    refine va_getN (D := E.1) (ci := 3) (v := .int w_3) (C := RX2) (T := TX2) (N := 3) hx hb hts i_f_X7_undo_X2 hown hK hP 1 rfl rfl 2 (by decide) (nx hN 18 rfl) (fun _ h9 => h9) rfl dX7_undo_18 ?_
    refine lv_goto (tgt := 25) hx hb dX7_undo_21 (by decide) ?_
    rw [hQ]
    have h9 := fin9 (P := fun u9 : Int32 × (Nat → Int32) × Int32 × Int32 => w_3 = u9.1 ∧ va_P E.1 vwCl (w_X7_undo E a_ a_tape a_reader a_scripts a_now a_trial a_kept a_book a_keptBook a_history a_draws a_refused a_now_row a_now_partners a_now_share a_now_leftOver a_history_rows c_hasImage c_now_askedCount c_now_outcome u9.2.1 u9.2.2.1 u9.2.2.2 c_history_rows) H ∧ va_D A (w_X7_undo E a_ a_tape a_reader a_scripts a_now a_trial a_kept a_book a_keptBook a_history a_draws a_refused a_now_row a_now_partners a_now_share a_now_leftOver a_history_rows c_hasImage c_now_askedCount c_now_outcome u9.2.1 u9.2.2.1 u9.2.2.2 c_history_rows)) hF ⟨rfl, hP.sub [0, 3, 4, 1, 2] rfl, hD.sub [0, 3, 4, 1, 2] (by decide) rfl⟩
    obtain ⟨e9_0, hP9, hD9⟩ := h9
    exact W.iret (v := w_3) hx hb hr (fun tt ht hW => ⟨⟨_, (), rfl, e9_0, ht ▸ hP9, hD9⟩, hS.F ht⟩) hS.2.2 dX7_undo_25

def F_X7_value (p1 : Int32) (p2 : Int32) (c_now_row : Nat → Int32) : Option (Int64) :=
  bd1 (F_X7_canBeAsked p1 p2 c_now_row) (fun r_1 => if r_1 = (0 : Int32) then some (-100000000 : Int64) else bd1 (F_X5_valueOf p1.toInt64 p2.toInt64 c_now_row) (fun r_5 => some r_5))
abbrev w_X7_value (E : EE) (a_ a_tape a_reader a_scripts a_now a_trial a_kept a_book a_keptBook a_history a_draws a_refused a_now_row a_now_partners a_now_share a_now_leftOver : Nat) (c_hasImage : Int32) (c_now_askedCount : Int32) (c_now_outcome : Int32) (c_now_row : Nat → Int32) : va_W := [(a_, .inr (8, [.ref a_tape, .ref a_reader, .ref a_scripts, .ref a_now, .ref a_trial, .ref a_kept, .ref a_book, .ref a_keptBook, .ref a_history, .ref a_draws, .ref a_refused, .int c_hasImage])), (a_now, .inr (6, [.ref a_now_row, .ref a_now_partners, .int c_now_askedCount, .int c_now_outcome, .ref a_now_share, .ref a_now_leftOver])), (a_now_row, .inl (E.2.1, 81, .inl c_now_row))]
def v_f_X7_value : List Cond := .code yX7_value cX7_value 3 (some .long) :: ([.constantLong RX7 154 (-100000000), .fieldLink RX7 35 "HushWatch" "now" "LHushWatch$State;", .methodLink RX7 146 yX7_canBeAsked, .instanceMethod yX7_canBeAsked, .selects RX7 yX7_canBeAsked yX7_canBeAsked, .initialized RX7, .methodLink RX7 150 yX5_valueOf, .instanceMethod yX5_valueOf, .selects RX5 yX5_valueOf yX5_valueOf, .initialized RX5] ++ (v_f_X7_canBeAsked ++ (wsX70 ++ (v_f_X5_valueOf ++ ([])))))
theorem gw_f_X7_value : v_f_X7_value.all goodWord = true := by decide +kernel
theorem i_f_X7_value_X7 : ∀ w ∈ wsX70, w ∈ v_f_X7_value := fun _ h => List.mem_cons_of_mem _ (List.mem_append_right _ (List.mem_append_right _ (List.mem_append_left _ h)))
theorem g_f_X7_value_f_X7_canBeAsked_146 : GoodIn v_f_X7_value (wsV RX7 146 RX7 yX7_canBeAsked v_f_X7_canBeAsked) := goodIn_app (goodIn_of _ (by decide +kernel)) (goodIn_sub (fun _ h => List.mem_cons_of_mem _ (List.mem_append_right _ (List.mem_append_left _ h))) gw_f_X7_canBeAsked)
theorem g_f_X7_value_f_X5_valueOf_150 : GoodIn v_f_X7_value (wsV RX7 150 RX5 yX5_valueOf v_f_X5_valueOf) := goodIn_app (goodIn_of _ (by decide +kernel)) (goodIn_sub (fun _ h => List.mem_cons_of_mem _ (List.mem_append_right _ (List.mem_append_right _ (List.mem_append_right _ (List.mem_append_left _ h))))) gw_f_X5_valueOf)
theorem hd_X7_value : yX7_value.cls = RX7 ∧ yX7_value.cls ≠ "java/lang/invoke/MethodHandle" ∧ yX7_value.cls ≠ "java/lang/invoke/VarHandle" ∧ (parseMethodDescriptor yX7_value.desc).map (fun d => d.parameters.length) = some 2 := by decide +kernel
set_option maxHeartbeats 4000000 in
set_option maxRecDepth 100000 in
theorem f_X7_value (l : Launch) (E : EE) {a_ a_tape a_reader a_scripts a_now a_trial a_kept a_book a_keptBook a_history a_draws a_refused a_now_row a_now_partners a_now_share a_now_leftOver : Nat} {p1 : Int32} {p2 : Int32} {c_hasImage : Int32} {c_now_askedCount : Int32} {c_now_outcome : Int32} {c_now_row : Nat → Int32} {rr : Int64} (hF : F_X7_value p1 p2 c_now_row = some rr) : Met l yX7_value v_f_X7_value (({ frames := 2, cells := 0, slots := 0, locals := 42 } : Room)) (va_Pc [.ref a_, .int p1, .int p2] (pP E (w_X7_value E a_ a_tape a_reader a_scripts a_now a_trial a_kept a_book a_keptBook a_history a_draws a_refused a_now_row a_now_partners a_now_share a_now_leftOver c_hasImage c_now_askedCount c_now_outcome c_now_row))) (vp_Sl (fun q : Int64 => q = rr)) 0 0 (fun _ => False) := by
  refine Met.ofW (cc := cX7_value) (maxL := 3) (ret := (some .long)) (by decide) rfl ?_
  intro p e s m args below meth c s₁ B hml hv
  obtain ⟨rfl, ⟨hK, hN⟩, hP⟩ := hv
  have hx := B.exec
  have hb := B.bytes
  have hr := B.returns
  have hts := atoms_spec (ws := v_f_X7_value) B.pre
  have hown : s.vm.findClass RX7 = some m.cls := own_of hd_X7_value.1 (findClass_of_methodNamed B.named)
  have hlocks : meth.locks = false := B.notSynchronized
  replace hP : va_P E.1 vwCl [(a_, .inr (8, [.ref a_tape, .ref a_reader, .ref a_scripts, .ref a_now, .ref a_trial, .ref a_kept, .ref a_book, .ref a_keptBook, .ref a_history, .ref a_draws, .ref a_refused, .int c_hasImage])), (a_now, .inr (6, [.ref a_now_row, .ref a_now_partners, .int c_now_askedCount, .int c_now_outcome, .ref a_now_share, .ref a_now_leftOver])), (a_now_row, .inl (E.2.1, 81, .inl c_now_row))] s.heap := hP
  have hl := lv_entry ([.ref a_, .int p1, .int p2]) (n := 3) (Nat.le_of_ble_eq_true rfl)
  rw [lg_entry_eq]
  generalize (lg_sl ([.ref a_, .int p1, .int p2]) ++ List.replicate (3 - (lg_sl ([.ref a_, .int p1, .int p2])).length) Slot.unset).toArray = ls at hl ⊢
  have hl : lv_has ls 3 [(0, .ref a_), (1, .int p1), (2, .int p2)] := hl
  obtain ⟨Q, hQ⟩ : ∃ Q : State → Prop, Q = MQ below (vp_Sl (fun q : Int64 => q = rr)) #[Value.ref a_, Value.int p1, Value.int p2] s 0 0 (fun _ => False) := ⟨_, rfl⟩
  rw [← hQ]
  change W p l e ({ frames := 2, cells := 0, slots := 0, locals := 42 } : Room) s m #[Value.ref a_, Value.int p1, Value.int p2] below meth c s.heap [] 0 0 Q (F0 m 0 ls [])
  unfold F_X7_value at hF
  refine lv_aload_n hx hb dX7_value_0 rfl (lv_at hl 0 rfl) ?_
  refine lv_iload_n hx hb dX7_value_1 rfl (lv_at hl 1 rfl) ?_
  refine lv_iload_n hx hb dX7_value_2 rfl (lv_at hl 2 rfl) ?_
  replace hF := bd1_s hF
  obtain ⟨r_1, hc_2, hF⟩ := hF
  have hPc : va_P E.1 vwCl (w_X7_canBeAsked E a_ a_tape a_reader a_scripts a_now a_trial a_kept a_book a_keptBook a_history a_draws a_refused a_now_row a_now_partners a_now_share a_now_leftOver c_hasImage c_now_askedCount c_now_outcome c_now_row) s.heap := hP.sub (ws' := [(a_, .inr (8, [.ref a_tape, .ref a_reader, .ref a_scripts, .ref a_now, .ref a_trial, .ref a_kept, .ref a_book, .ref a_keptBook, .ref a_history, .ref a_draws, .ref a_refused, .int c_hasImage])), (a_now, .inr (6, [.ref a_now_row, .ref a_now_partners, .int c_now_askedCount, .int c_now_outcome, .ref a_now_share, .ref a_now_leftOver])), (a_now_row, .inl (E.2.1, 81, .inl c_now_row))]) [0, 1, 2] rfl
  have hrc := va_recv hK hPc (ci := 8) (q0 := 0) rfl rfl
  refine pE_z (va_runV (As := [.int p1, .int p2]) (rest := [])  ⟨hx, hb, hml, hown, hts⟩ (f_X7_canBeAsked l E (a_ := a_) (a_tape := a_tape) (a_reader := a_reader) (a_scripts := a_scripts) (a_now := a_now) (a_trial := a_trial) (a_kept := a_kept) (a_book := a_book) (a_keptBook := a_keptBook) (a_history := a_history) (a_draws := a_draws) (a_refused := a_refused) (a_now_row := a_now_row) (a_now_partners := a_now_partners) (a_now_share := a_now_share) (a_now_leftOver := a_now_leftOver) (p1 := p1) (p2 := p2) (c_hasImage := c_hasImage) (c_now_askedCount := c_now_askedCount) (c_now_outcome := c_now_outcome) (c_now_row := c_now_row) hc_2) (cwV 2 hts g_f_X7_value_f_X7_canBeAsked_146 rfl rfl rfl hd_X7_canBeAsked ⟨Nat.le_of_ble_eq_true rfl, Nat.le_of_ble_eq_true rfl⟩) ⟨pP.blind, hrc, (pP.pre ⟨hK, hN⟩ hPc)⟩ rfl rfl hl.1 rfl (lv_room (Nat.le_of_ble_eq_true rfl)) dX7_value_3 ⟨Nat.le_of_ble_eq_true rfl, Nat.le_of_ble_eq_true rfl⟩) (fun hb_3 => ?_)
  refine lv_if_eq (tgt := 23) hx hb dX7_value_6 (by decide) (fun c_4 => ?_) (fun c_4 => ?_)
  ·
    replace hF := ip c_4 hF
    refine lv_ldc2 (v := -100000000) hx hb hown (hts (.constantLong RX7 154 (-100000000)) (List.mem_of_getElem? (i := 1) rfl)) dX7_value_23 ?_
    rw [hQ]
    obtain e9_0 := inj1 hF
    exact W.lret (v := (-100000000 : Int64)) hx hb hr (fun tt ht hW => ⟨_, rfl, e9_0, ht⟩) (fun _ h => by cases h) dX7_value_26
  ·
    replace hF := inn c_4 hF
    refine lv_aload_n hx hb dX7_value_9 rfl (lv_at hl 0 rfl) ?_
    refine gt_X7_3 (v := .ref a_now) hx hb hts i_f_X7_value_X7 hown hK hP 0 rfl (hts (.fieldLink RX7 35 "HushWatch" "now" "LHushWatch$State;") (List.mem_of_getElem? (i := 2) rfl)) rfl dX7_value_10 ?_
    refine lv_iload_n hx hb dX7_value_13 rfl (lv_at hl 1 rfl) ?_
    refine lv_i2l (v := p1.toInt64) hx hb dX7_value_14 rfl ?_
    refine lv_iload_n hx hb dX7_value_15 rfl (lv_at hl 2 rfl) ?_
    refine lv_i2l (v := p2.toInt64) hx hb dX7_value_16 rfl ?_
    replace hF := bd1_s hF
    obtain ⟨r_5, hc_6, hF⟩ := hF
    have hPc : va_P E.1 vwCl (w_X5_valueOf E a_now a_now_row a_now_partners a_now_share a_now_leftOver c_now_askedCount c_now_outcome c_now_row) s.heap := hP.sub (ws' := [(a_now, .inr (6, [.ref a_now_row, .ref a_now_partners, .int c_now_askedCount, .int c_now_outcome, .ref a_now_share, .ref a_now_leftOver])), (a_now_row, .inl (E.2.1, 81, .inl c_now_row))]) [1, 2] rfl
    have hrc := va_recv hK hPc (ci := 6) (q0 := 0) rfl rfl
    refine pE_l (va_runV (As := [.long p1.toInt64, .long p2.toInt64]) (rest := [])  ⟨hx, hb, hml, hown, hts⟩ (f_X5_valueOf l E (a_ := a_now) (a_row := a_now_row) (a_partners := a_now_partners) (a_share := a_now_share) (a_leftOver := a_now_leftOver) (p1 := p1.toInt64) (p2 := p2.toInt64) (c_askedCount := c_now_askedCount) (c_outcome := c_now_outcome) (c_row := c_now_row) hc_6) (cwV 2 hts g_f_X7_value_f_X5_valueOf_150 rfl rfl rfl hd_X5_valueOf ⟨Nat.le_of_ble_eq_true rfl, Nat.le_of_ble_eq_true rfl⟩) ⟨pP.blind, hrc, (pP.pre ⟨hK, hN⟩ hPc)⟩ rfl rfl hl.1 rfl (lv_room (Nat.le_of_ble_eq_true rfl)) dX7_value_17 ⟨Nat.le_of_ble_eq_true rfl, Nat.le_of_ble_eq_true rfl⟩) ?_
    refine lv_goto (tgt := 26) hx hb dX7_value_20 (by decide) ?_
    rw [hQ]
    obtain e9_0 := inj1 hF
    exact W.lret (v := r_5) hx hb hr (fun tt ht hW => ⟨_, rfl, e9_0, ht⟩) (fun _ h => by cases h) dX7_value_26
end
-- 40.pub08
section
def dl_X7_walk_40_pub08_0 : List (Nat × Instr × Nat) := [(47, .iload 7, 2), (49, .iload 4, 2), (51, .if_icmp .ge 39, 3), (54, .aload_n 0, 1), (55, .getfield 39, 3), (58, .iconst 0, 1), (59, .iload_n 1, 1), (60, .iload_n 2, 1), (61, .iload_n 3, 1), (62, .invokevirtual 220, 3), (65, .iconst (-1), 1), (66, .if_icmp .ne 24, 3), (69, .aload_n 0, 1), (70, .getfield 39, 3), (73, .iconst 0, 1), (74, .iload_n 1, 1), (75, .iload_n 2, 1), (76, .iload_n 3, 1), (77, .invokevirtual 241, 3), (80, .pop, 1), (81, .iinc 6 1, 3), (84, .iinc 7 1, 3), (87, .goto (-40), 3), (90, .iload 5, 2), (92, .tableswitch 75 0 2 #[28, 50, 72], 28), (120, .aload_n 0, 1), (121, .getfield 39, 3), (124, .getfield 114, 3), (127, .bipush 11, 2), (129, .iaload, 1), (130, .aload_n 0, 1), (131, .getfield 35, 3), (134, .getfield 114, 3), (137, .bipush 11, 2), (139, .iaload, 1), (140, .isub, 1), (141, .ireturn, 1), (142, .aload_n 0, 1), (143, .getfield 39, 3), (146, .getfield 114, 3), (149, .bipush 12, 2), (151, .iaload, 1), (152, .aload_n 0, 1), (153, .getfield 35, 3), (156, .getfield 114, 3), (159, .bipush 12, 2), (161, .iaload, 1), (162, .isub, 1), (163, .ireturn, 1), (164, .iload 6, 2)]
set_option maxRecDepth 100000 in
theorem dall_X7_walk_40_pub08_0 : dchk cX7_walk dl_X7_walk_40_pub08_0 = true := by decide +kernel
theorem dX7_walk_47 : decode cX7_walk 47 = .ok (.iload 7, 2) := dchk_at dall_X7_walk_40_pub08_0 (k := 0) rfl
theorem dX7_walk_49 : decode cX7_walk 49 = .ok (.iload 4, 2) := dchk_at dall_X7_walk_40_pub08_0 (k := 1) rfl
theorem dX7_walk_51 : decode cX7_walk 51 = .ok (.if_icmp .ge 39, 3) := dchk_at dall_X7_walk_40_pub08_0 (k := 2) rfl
theorem dX7_walk_54 : decode cX7_walk 54 = .ok (.aload_n 0, 1) := dchk_at dall_X7_walk_40_pub08_0 (k := 3) rfl
theorem dX7_walk_55 : decode cX7_walk 55 = .ok (.getfield 39, 3) := dchk_at dall_X7_walk_40_pub08_0 (k := 4) rfl
theorem dX7_walk_58 : decode cX7_walk 58 = .ok (.iconst 0, 1) := dchk_at dall_X7_walk_40_pub08_0 (k := 5) rfl
theorem dX7_walk_59 : decode cX7_walk 59 = .ok (.iload_n 1, 1) := dchk_at dall_X7_walk_40_pub08_0 (k := 6) rfl
theorem dX7_walk_60 : decode cX7_walk 60 = .ok (.iload_n 2, 1) := dchk_at dall_X7_walk_40_pub08_0 (k := 7) rfl
theorem dX7_walk_61 : decode cX7_walk 61 = .ok (.iload_n 3, 1) := dchk_at dall_X7_walk_40_pub08_0 (k := 8) rfl
theorem dX7_walk_62 : decode cX7_walk 62 = .ok (.invokevirtual 220, 3) := dchk_at dall_X7_walk_40_pub08_0 (k := 9) rfl
theorem dX7_walk_65 : decode cX7_walk 65 = .ok (.iconst (-1), 1) := dchk_at dall_X7_walk_40_pub08_0 (k := 10) rfl
theorem dX7_walk_66 : decode cX7_walk 66 = .ok (.if_icmp .ne 24, 3) := dchk_at dall_X7_walk_40_pub08_0 (k := 11) rfl
theorem dX7_walk_69 : decode cX7_walk 69 = .ok (.aload_n 0, 1) := dchk_at dall_X7_walk_40_pub08_0 (k := 12) rfl
theorem dX7_walk_70 : decode cX7_walk 70 = .ok (.getfield 39, 3) := dchk_at dall_X7_walk_40_pub08_0 (k := 13) rfl
theorem dX7_walk_73 : decode cX7_walk 73 = .ok (.iconst 0, 1) := dchk_at dall_X7_walk_40_pub08_0 (k := 14) rfl
theorem dX7_walk_74 : decode cX7_walk 74 = .ok (.iload_n 1, 1) := dchk_at dall_X7_walk_40_pub08_0 (k := 15) rfl
theorem dX7_walk_75 : decode cX7_walk 75 = .ok (.iload_n 2, 1) := dchk_at dall_X7_walk_40_pub08_0 (k := 16) rfl
theorem dX7_walk_76 : decode cX7_walk 76 = .ok (.iload_n 3, 1) := dchk_at dall_X7_walk_40_pub08_0 (k := 17) rfl
theorem dX7_walk_77 : decode cX7_walk 77 = .ok (.invokevirtual 241, 3) := dchk_at dall_X7_walk_40_pub08_0 (k := 18) rfl
theorem dX7_walk_80 : decode cX7_walk 80 = .ok (.pop, 1) := dchk_at dall_X7_walk_40_pub08_0 (k := 19) rfl
theorem dX7_walk_81 : decode cX7_walk 81 = .ok (.iinc 6 1, 3) := dchk_at dall_X7_walk_40_pub08_0 (k := 20) rfl
theorem dX7_walk_84 : decode cX7_walk 84 = .ok (.iinc 7 1, 3) := dchk_at dall_X7_walk_40_pub08_0 (k := 21) rfl
theorem dX7_walk_87 : decode cX7_walk 87 = .ok (.goto (-40), 3) := dchk_at dall_X7_walk_40_pub08_0 (k := 22) rfl
theorem dX7_walk_90 : decode cX7_walk 90 = .ok (.iload 5, 2) := dchk_at dall_X7_walk_40_pub08_0 (k := 23) rfl
theorem dX7_walk_92 : decode cX7_walk 92 = .ok (.tableswitch 75 0 2 #[28, 50, 72], 28) := dchk_at dall_X7_walk_40_pub08_0 (k := 24) rfl
theorem dX7_walk_120 : decode cX7_walk 120 = .ok (.aload_n 0, 1) := dchk_at dall_X7_walk_40_pub08_0 (k := 25) rfl
theorem dX7_walk_121 : decode cX7_walk 121 = .ok (.getfield 39, 3) := dchk_at dall_X7_walk_40_pub08_0 (k := 26) rfl
theorem dX7_walk_124 : decode cX7_walk 124 = .ok (.getfield 114, 3) := dchk_at dall_X7_walk_40_pub08_0 (k := 27) rfl
theorem dX7_walk_127 : decode cX7_walk 127 = .ok (.bipush 11, 2) := dchk_at dall_X7_walk_40_pub08_0 (k := 28) rfl
theorem dX7_walk_129 : decode cX7_walk 129 = .ok (.iaload, 1) := dchk_at dall_X7_walk_40_pub08_0 (k := 29) rfl
theorem dX7_walk_130 : decode cX7_walk 130 = .ok (.aload_n 0, 1) := dchk_at dall_X7_walk_40_pub08_0 (k := 30) rfl
theorem dX7_walk_131 : decode cX7_walk 131 = .ok (.getfield 35, 3) := dchk_at dall_X7_walk_40_pub08_0 (k := 31) rfl
theorem dX7_walk_134 : decode cX7_walk 134 = .ok (.getfield 114, 3) := dchk_at dall_X7_walk_40_pub08_0 (k := 32) rfl
theorem dX7_walk_137 : decode cX7_walk 137 = .ok (.bipush 11, 2) := dchk_at dall_X7_walk_40_pub08_0 (k := 33) rfl
theorem dX7_walk_139 : decode cX7_walk 139 = .ok (.iaload, 1) := dchk_at dall_X7_walk_40_pub08_0 (k := 34) rfl
theorem dX7_walk_140 : decode cX7_walk 140 = .ok (.isub, 1) := dchk_at dall_X7_walk_40_pub08_0 (k := 35) rfl
theorem dX7_walk_141 : decode cX7_walk 141 = .ok (.ireturn, 1) := dchk_at dall_X7_walk_40_pub08_0 (k := 36) rfl
theorem dX7_walk_142 : decode cX7_walk 142 = .ok (.aload_n 0, 1) := dchk_at dall_X7_walk_40_pub08_0 (k := 37) rfl
theorem dX7_walk_143 : decode cX7_walk 143 = .ok (.getfield 39, 3) := dchk_at dall_X7_walk_40_pub08_0 (k := 38) rfl
theorem dX7_walk_146 : decode cX7_walk 146 = .ok (.getfield 114, 3) := dchk_at dall_X7_walk_40_pub08_0 (k := 39) rfl
theorem dX7_walk_149 : decode cX7_walk 149 = .ok (.bipush 12, 2) := dchk_at dall_X7_walk_40_pub08_0 (k := 40) rfl
theorem dX7_walk_151 : decode cX7_walk 151 = .ok (.iaload, 1) := dchk_at dall_X7_walk_40_pub08_0 (k := 41) rfl
theorem dX7_walk_152 : decode cX7_walk 152 = .ok (.aload_n 0, 1) := dchk_at dall_X7_walk_40_pub08_0 (k := 42) rfl
theorem dX7_walk_153 : decode cX7_walk 153 = .ok (.getfield 35, 3) := dchk_at dall_X7_walk_40_pub08_0 (k := 43) rfl
theorem dX7_walk_156 : decode cX7_walk 156 = .ok (.getfield 114, 3) := dchk_at dall_X7_walk_40_pub08_0 (k := 44) rfl
theorem dX7_walk_159 : decode cX7_walk 159 = .ok (.bipush 12, 2) := dchk_at dall_X7_walk_40_pub08_0 (k := 45) rfl
theorem dX7_walk_161 : decode cX7_walk 161 = .ok (.iaload, 1) := dchk_at dall_X7_walk_40_pub08_0 (k := 46) rfl
theorem dX7_walk_162 : decode cX7_walk 162 = .ok (.isub, 1) := dchk_at dall_X7_walk_40_pub08_0 (k := 47) rfl
theorem dX7_walk_163 : decode cX7_walk 163 = .ok (.ireturn, 1) := dchk_at dall_X7_walk_40_pub08_0 (k := 48) rfl
theorem dX7_walk_164 : decode cX7_walk 164 = .ok (.iload 6, 2) := dchk_at dall_X7_walk_40_pub08_0 (k := 49) rfl
def dl_X7_walk_40_pub08_1 : List (Nat × Instr × Nat) := [(166, .ireturn, 1), (167, .iconst (-1), 1), (168, .ireturn, 1), (0, .iload 4, 2), (2, .iconst 1, 1), (3, .if_icmp .lt 25, 3), (28, .iconst (-1), 1), (29, .ireturn, 1), (6, .iload 4, 2), (8, .bipush 99, 2), (10, .if_icmp .gt 18, 3), (13, .aload_n 0, 1), (14, .getfield 35, 3), (17, .iconst 0, 1), (18, .iload_n 1, 1), (19, .iload_n 2, 1), (20, .iload_n 3, 1), (21, .invokevirtual 220, 3), (24, .iconst (-1), 1), (25, .if_icmp .eq 5, 3), (30, .aload_n 0, 1), (31, .getfield 39, 3), (34, .aload_n 0, 1), (35, .getfield 35, 3), (38, .invokevirtual 237, 3), (41, .iconst 0, 1), (42, .istore 6, 2), (44, .iconst 0, 1), (45, .istore 7, 2)]
set_option maxRecDepth 100000 in
theorem dall_X7_walk_40_pub08_1 : dchk cX7_walk dl_X7_walk_40_pub08_1 = true := by decide +kernel
theorem dX7_walk_166 : decode cX7_walk 166 = .ok (.ireturn, 1) := dchk_at dall_X7_walk_40_pub08_1 (k := 0) rfl
theorem dX7_walk_167 : decode cX7_walk 167 = .ok (.iconst (-1), 1) := dchk_at dall_X7_walk_40_pub08_1 (k := 1) rfl
theorem dX7_walk_168 : decode cX7_walk 168 = .ok (.ireturn, 1) := dchk_at dall_X7_walk_40_pub08_1 (k := 2) rfl
theorem dX7_walk_0 : decode cX7_walk 0 = .ok (.iload 4, 2) := dchk_at dall_X7_walk_40_pub08_1 (k := 3) rfl
theorem dX7_walk_2 : decode cX7_walk 2 = .ok (.iconst 1, 1) := dchk_at dall_X7_walk_40_pub08_1 (k := 4) rfl
theorem dX7_walk_3 : decode cX7_walk 3 = .ok (.if_icmp .lt 25, 3) := dchk_at dall_X7_walk_40_pub08_1 (k := 5) rfl
theorem dX7_walk_28 : decode cX7_walk 28 = .ok (.iconst (-1), 1) := dchk_at dall_X7_walk_40_pub08_1 (k := 6) rfl
theorem dX7_walk_29 : decode cX7_walk 29 = .ok (.ireturn, 1) := dchk_at dall_X7_walk_40_pub08_1 (k := 7) rfl
theorem dX7_walk_6 : decode cX7_walk 6 = .ok (.iload 4, 2) := dchk_at dall_X7_walk_40_pub08_1 (k := 8) rfl
theorem dX7_walk_8 : decode cX7_walk 8 = .ok (.bipush 99, 2) := dchk_at dall_X7_walk_40_pub08_1 (k := 9) rfl
theorem dX7_walk_10 : decode cX7_walk 10 = .ok (.if_icmp .gt 18, 3) := dchk_at dall_X7_walk_40_pub08_1 (k := 10) rfl
theorem dX7_walk_13 : decode cX7_walk 13 = .ok (.aload_n 0, 1) := dchk_at dall_X7_walk_40_pub08_1 (k := 11) rfl
theorem dX7_walk_14 : decode cX7_walk 14 = .ok (.getfield 35, 3) := dchk_at dall_X7_walk_40_pub08_1 (k := 12) rfl
theorem dX7_walk_17 : decode cX7_walk 17 = .ok (.iconst 0, 1) := dchk_at dall_X7_walk_40_pub08_1 (k := 13) rfl
theorem dX7_walk_18 : decode cX7_walk 18 = .ok (.iload_n 1, 1) := dchk_at dall_X7_walk_40_pub08_1 (k := 14) rfl
theorem dX7_walk_19 : decode cX7_walk 19 = .ok (.iload_n 2, 1) := dchk_at dall_X7_walk_40_pub08_1 (k := 15) rfl
theorem dX7_walk_20 : decode cX7_walk 20 = .ok (.iload_n 3, 1) := dchk_at dall_X7_walk_40_pub08_1 (k := 16) rfl
theorem dX7_walk_21 : decode cX7_walk 21 = .ok (.invokevirtual 220, 3) := dchk_at dall_X7_walk_40_pub08_1 (k := 17) rfl
theorem dX7_walk_24 : decode cX7_walk 24 = .ok (.iconst (-1), 1) := dchk_at dall_X7_walk_40_pub08_1 (k := 18) rfl
theorem dX7_walk_25 : decode cX7_walk 25 = .ok (.if_icmp .eq 5, 3) := dchk_at dall_X7_walk_40_pub08_1 (k := 19) rfl
theorem dX7_walk_30 : decode cX7_walk 30 = .ok (.aload_n 0, 1) := dchk_at dall_X7_walk_40_pub08_1 (k := 20) rfl
theorem dX7_walk_31 : decode cX7_walk 31 = .ok (.getfield 39, 3) := dchk_at dall_X7_walk_40_pub08_1 (k := 21) rfl
theorem dX7_walk_34 : decode cX7_walk 34 = .ok (.aload_n 0, 1) := dchk_at dall_X7_walk_40_pub08_1 (k := 22) rfl
theorem dX7_walk_35 : decode cX7_walk 35 = .ok (.getfield 35, 3) := dchk_at dall_X7_walk_40_pub08_1 (k := 23) rfl
theorem dX7_walk_38 : decode cX7_walk 38 = .ok (.invokevirtual 237, 3) := dchk_at dall_X7_walk_40_pub08_1 (k := 24) rfl
theorem dX7_walk_41 : decode cX7_walk 41 = .ok (.iconst 0, 1) := dchk_at dall_X7_walk_40_pub08_1 (k := 25) rfl
theorem dX7_walk_42 : decode cX7_walk 42 = .ok (.istore 6, 2) := dchk_at dall_X7_walk_40_pub08_1 (k := 26) rfl
theorem dX7_walk_44 : decode cX7_walk 44 = .ok (.iconst 0, 1) := dchk_at dall_X7_walk_40_pub08_1 (k := 27) rfl
theorem dX7_walk_45 : decode cX7_walk 45 = .ok (.istore 7, 2) := dchk_at dall_X7_walk_40_pub08_1 (k := 28) rfl
def dl_X7_would_40_pub08_0 : List (Nat × Instr × Nat) := [(0, .aload_n 0, 1), (1, .getfield 35, 3), (4, .iconst 0, 1), (5, .iload_n 1, 1), (6, .iload_n 2, 1), (7, .iload_n 3, 1), (8, .invokevirtual 220, 3), (11, .iconst (-1), 1), (12, .if_icmp .eq 5, 3), (17, .aload_n 0, 1), (18, .iload_n 1, 1), (19, .iload_n 2, 1), (20, .iload_n 3, 1), (21, .invokevirtual 224, 3), (24, .istore 5, 2), (26, .iload 4, 2), (28, .tableswitch 47 0 2 #[28, 31, 39], 28), (56, .iload 5, 2), (58, .ireturn, 1), (59, .aload_n 0, 1), (60, .getfield 39, 3), (63, .getfield 228, 3), (66, .ireturn, 1), (67, .aload_n 0, 1), (68, .getfield 39, 3), (71, .getfield 231, 3), (74, .ireturn, 1), (75, .iconst (-1), 1), (76, .ireturn, 1), (15, .iconst (-1), 1), (16, .ireturn, 1)]
set_option maxRecDepth 100000 in
theorem dall_X7_would_40_pub08_0 : dchk cX7_would dl_X7_would_40_pub08_0 = true := by decide +kernel
theorem dX7_would_0 : decode cX7_would 0 = .ok (.aload_n 0, 1) := dchk_at dall_X7_would_40_pub08_0 (k := 0) rfl
theorem dX7_would_1 : decode cX7_would 1 = .ok (.getfield 35, 3) := dchk_at dall_X7_would_40_pub08_0 (k := 1) rfl
theorem dX7_would_4 : decode cX7_would 4 = .ok (.iconst 0, 1) := dchk_at dall_X7_would_40_pub08_0 (k := 2) rfl
theorem dX7_would_5 : decode cX7_would 5 = .ok (.iload_n 1, 1) := dchk_at dall_X7_would_40_pub08_0 (k := 3) rfl
theorem dX7_would_6 : decode cX7_would 6 = .ok (.iload_n 2, 1) := dchk_at dall_X7_would_40_pub08_0 (k := 4) rfl
theorem dX7_would_7 : decode cX7_would 7 = .ok (.iload_n 3, 1) := dchk_at dall_X7_would_40_pub08_0 (k := 5) rfl
theorem dX7_would_8 : decode cX7_would 8 = .ok (.invokevirtual 220, 3) := dchk_at dall_X7_would_40_pub08_0 (k := 6) rfl
theorem dX7_would_11 : decode cX7_would 11 = .ok (.iconst (-1), 1) := dchk_at dall_X7_would_40_pub08_0 (k := 7) rfl
theorem dX7_would_12 : decode cX7_would 12 = .ok (.if_icmp .eq 5, 3) := dchk_at dall_X7_would_40_pub08_0 (k := 8) rfl
theorem dX7_would_17 : decode cX7_would 17 = .ok (.aload_n 0, 1) := dchk_at dall_X7_would_40_pub08_0 (k := 9) rfl
theorem dX7_would_18 : decode cX7_would 18 = .ok (.iload_n 1, 1) := dchk_at dall_X7_would_40_pub08_0 (k := 10) rfl
theorem dX7_would_19 : decode cX7_would 19 = .ok (.iload_n 2, 1) := dchk_at dall_X7_would_40_pub08_0 (k := 11) rfl
theorem dX7_would_20 : decode cX7_would 20 = .ok (.iload_n 3, 1) := dchk_at dall_X7_would_40_pub08_0 (k := 12) rfl
theorem dX7_would_21 : decode cX7_would 21 = .ok (.invokevirtual 224, 3) := dchk_at dall_X7_would_40_pub08_0 (k := 13) rfl
theorem dX7_would_24 : decode cX7_would 24 = .ok (.istore 5, 2) := dchk_at dall_X7_would_40_pub08_0 (k := 14) rfl
theorem dX7_would_26 : decode cX7_would 26 = .ok (.iload 4, 2) := dchk_at dall_X7_would_40_pub08_0 (k := 15) rfl
theorem dX7_would_28 : decode cX7_would 28 = .ok (.tableswitch 47 0 2 #[28, 31, 39], 28) := dchk_at dall_X7_would_40_pub08_0 (k := 16) rfl
theorem dX7_would_56 : decode cX7_would 56 = .ok (.iload 5, 2) := dchk_at dall_X7_would_40_pub08_0 (k := 17) rfl
theorem dX7_would_58 : decode cX7_would 58 = .ok (.ireturn, 1) := dchk_at dall_X7_would_40_pub08_0 (k := 18) rfl
theorem dX7_would_59 : decode cX7_would 59 = .ok (.aload_n 0, 1) := dchk_at dall_X7_would_40_pub08_0 (k := 19) rfl
theorem dX7_would_60 : decode cX7_would 60 = .ok (.getfield 39, 3) := dchk_at dall_X7_would_40_pub08_0 (k := 20) rfl
theorem dX7_would_63 : decode cX7_would 63 = .ok (.getfield 228, 3) := dchk_at dall_X7_would_40_pub08_0 (k := 21) rfl
theorem dX7_would_66 : decode cX7_would 66 = .ok (.ireturn, 1) := dchk_at dall_X7_would_40_pub08_0 (k := 22) rfl
theorem dX7_would_67 : decode cX7_would 67 = .ok (.aload_n 0, 1) := dchk_at dall_X7_would_40_pub08_0 (k := 23) rfl
theorem dX7_would_68 : decode cX7_would 68 = .ok (.getfield 39, 3) := dchk_at dall_X7_would_40_pub08_0 (k := 24) rfl
theorem dX7_would_71 : decode cX7_would 71 = .ok (.getfield 231, 3) := dchk_at dall_X7_would_40_pub08_0 (k := 25) rfl
theorem dX7_would_74 : decode cX7_would 74 = .ok (.ireturn, 1) := dchk_at dall_X7_would_40_pub08_0 (k := 26) rfl
theorem dX7_would_75 : decode cX7_would 75 = .ok (.iconst (-1), 1) := dchk_at dall_X7_would_40_pub08_0 (k := 27) rfl
theorem dX7_would_76 : decode cX7_would 76 = .ok (.ireturn, 1) := dchk_at dall_X7_would_40_pub08_0 (k := 28) rfl
theorem dX7_would_15 : decode cX7_would 15 = .ok (.iconst (-1), 1) := dchk_at dall_X7_would_40_pub08_0 (k := 29) rfl
theorem dX7_would_16 : decode cX7_would 16 = .ok (.ireturn, 1) := dchk_at dall_X7_would_40_pub08_0 (k := 30) rfl
def B_X7_walk_47 (K : Nat) (p1 : Int32) (p2 : Int32) (p3 : Int32) (p4 : Int32) (x6 : Int32) (x7 : Int32) (c_trial_row : Nat → Int32) (c_trial_partners : Nat → Int32) (c_trial_askedCount : Int32) (c_trial_outcome : Int32) (c_trial_share : Nat → Int32) (c_trial_leftOver : Nat → Int32) : Option ((Int32 × Int32 × (Nat → Int32) × (Nat → Int32) × Int32 × Int32 × (Nat → Int32) × (Nat → Int32)) ⊕ (Int32 × (Nat → Int32) × (Nat → Int32) × Int32 × Int32 × (Nat → Int32) × (Nat → Int32))) :=
  if p4 ≤ x7 then some (.inr (x6, c_trial_row, c_trial_partners, c_trial_askedCount, c_trial_outcome, c_trial_share, c_trial_leftOver)) else bd1 (F_X5_refusal (0 : Int32) p1 p2 p3 c_trial_row) (fun r_9 => if r_9 = (-1 : Int32) then bd7 (F_X5_doAct K (0 : Int32) p1 p2 p3 c_trial_row c_trial_partners c_trial_askedCount c_trial_outcome c_trial_share c_trial_leftOver) (fun r_12 w_13 w_14 w_15 w_16 w_17 w_18 => some (.inl (x6 + (1 : Int32), x7 + (1 : Int32), w_13, w_14, w_15, w_16, w_17, w_18))) else some (.inr (x6, c_trial_row, c_trial_partners, c_trial_askedCount, c_trial_outcome, c_trial_share, c_trial_leftOver)))
def J_X7_walk_90 (p5 : Int32) (c_now_row : Nat → Int32) (x6 : Int32) (c_trial_row : Nat → Int32) (c_trial_partners : Nat → Int32) (c_trial_askedCount : Int32) (c_trial_outcome : Int32) (c_trial_share : Nat → Int32) (c_trial_leftOver : Nat → Int32) : Option (Int32 × (Nat → Int32) × (Nat → Int32) × Int32 × Int32 × (Nat → Int32) × (Nat → Int32)) :=
  if p5 = (0 : Int32) then some ((c_trial_row 11) - (c_now_row 11), c_trial_row, c_trial_partners, c_trial_askedCount, c_trial_outcome, c_trial_share, c_trial_leftOver) else if p5 = (1 : Int32) then some ((c_trial_row 12) - (c_now_row 12), c_trial_row, c_trial_partners, c_trial_askedCount, c_trial_outcome, c_trial_share, c_trial_leftOver) else if p5 = (2 : Int32) then some (x6, c_trial_row, c_trial_partners, c_trial_askedCount, c_trial_outcome, c_trial_share, c_trial_leftOver) else some ((-1 : Int32), c_trial_row, c_trial_partners, c_trial_askedCount, c_trial_outcome, c_trial_share, c_trial_leftOver)
def F_X7_walk (K : Nat) (p1 : Int32) (p2 : Int32) (p3 : Int32) (p4 : Int32) (p5 : Int32) (c_now_row : Nat → Int32) (c_trial_row : Nat → Int32) (c_trial_partners : Nat → Int32) (c_trial_askedCount : Int32) (c_trial_outcome : Int32) (c_trial_share : Nat → Int32) (c_trial_leftOver : Nat → Int32) : Option (Int32 × (Nat → Int32) × (Nat → Int32) × Int32 × Int32 × (Nat → Int32) × (Nat → Int32)) :=
  if p4 < (1 : Int32) then some ((-1 : Int32), c_trial_row, c_trial_partners, c_trial_askedCount, c_trial_outcome, c_trial_share, c_trial_leftOver) else if (99 : Int32) < p4 then some ((-1 : Int32), c_trial_row, c_trial_partners, c_trial_askedCount, c_trial_outcome, c_trial_share, c_trial_leftOver) else bd1 (F_X5_refusal (0 : Int32) p1 p2 p3 c_now_row) (fun r_3 => if r_3 = (-1 : Int32) then bd1 (F_X5_copyFrom c_trial_row c_now_row) (fun w_6 => bd7 (lpF (fun u9 : Int32 × Int32 × (Nat → Int32) × (Nat → Int32) × Int32 × Int32 × (Nat → Int32) × (Nat → Int32) => B_X7_walk_47 K p1 p2 p3 p4 u9.1 u9.2.1 u9.2.2.1 u9.2.2.2.1 u9.2.2.2.2.1 u9.2.2.2.2.2.1 u9.2.2.2.2.2.2.1 u9.2.2.2.2.2.2.2) K ((0 : Int32), (0 : Int32), w_6, c_trial_partners, c_trial_askedCount, c_trial_outcome, c_trial_share, c_trial_leftOver)) (fun x6_20 c_trial_row_21 c_trial_partners_22 c_trial_askedCount_23 c_trial_outcome_24 c_trial_share_25 c_trial_leftOver_26 => J_X7_walk_90 p5 c_now_row x6_20 c_trial_row_21 c_trial_partners_22 c_trial_askedCount_23 c_trial_outcome_24 c_trial_share_25 c_trial_leftOver_26)) else some ((-1 : Int32), c_trial_row, c_trial_partners, c_trial_askedCount, c_trial_outcome, c_trial_share, c_trial_leftOver))
abbrev w_X7_walk (E : EE) (a_ a_tape a_reader a_scripts a_now a_trial a_kept a_book a_keptBook a_history a_draws a_refused a_now_row a_now_partners a_now_share a_now_leftOver a_trial_row a_trial_partners a_trial_share a_trial_leftOver : Nat) (c_hasImage : Int32) (c_now_askedCount : Int32) (c_now_outcome : Int32) (c_now_row : Nat → Int32) (c_trial_askedCount : Int32) (c_trial_outcome : Int32) (c_trial_row : Nat → Int32) (c_trial_partners : Nat → Int32) (c_trial_share : Nat → Int32) (c_trial_leftOver : Nat → Int32) : va_W := [(a_, .inr (8, [.ref a_tape, .ref a_reader, .ref a_scripts, .ref a_now, .ref a_trial, .ref a_kept, .ref a_book, .ref a_keptBook, .ref a_history, .ref a_draws, .ref a_refused, .int c_hasImage])), (a_now, .inr (6, [.ref a_now_row, .ref a_now_partners, .int c_now_askedCount, .int c_now_outcome, .ref a_now_share, .ref a_now_leftOver])), (a_now_row, .inl (E.2.1, 81, .inl c_now_row)), (a_trial, .inr (6, [.ref a_trial_row, .ref a_trial_partners, .int c_trial_askedCount, .int c_trial_outcome, .ref a_trial_share, .ref a_trial_leftOver])), (a_trial_row, .inl (E.2.1, 81, .inl c_trial_row)), (a_trial_partners, .inl (E.2.1, 8, .inl c_trial_partners)), (a_trial_share, .inl (E.2.1, 2, .inl c_trial_share)), (a_trial_leftOver, .inl (E.2.1, 2, .inl c_trial_leftOver))]
def v_f_X7_walk : List Cond := .code yX7_walk cX7_walk 8 (some .int) :: ([.fieldLink RX7 35 "HushWatch" "now" "LHushWatch$State;", .fieldLink RX7 39 "HushWatch" "trial" "LHushWatch$State;", .methodLink RX7 220 yX5_refusal, .instanceMethod yX5_refusal, .selects RX5 yX5_refusal yX5_refusal, .initialized RX5, .methodLink RX7 237 yX5_copyFrom, .instanceMethod yX5_copyFrom, .selects RX5 yX5_copyFrom yX5_copyFrom, .methodLink RX7 241 yX5_doAct, .instanceMethod yX5_doAct, .selects RX5 yX5_doAct yX5_doAct] ++ (wsX70 ++ (v_f_X5_refusal ++ (v_f_X5_copyFrom ++ (v_f_X5_doAct ++ (wsX50 ++ ([])))))))
theorem gw_f_X7_walk : v_f_X7_walk.all goodWord = true := by decide +kernel
theorem i_f_X7_walk_X7 : ∀ w ∈ wsX70, w ∈ v_f_X7_walk := fun _ h => List.mem_cons_of_mem _ (List.mem_append_right _ (List.mem_append_left _ h))
theorem i_f_X7_walk_X5 : ∀ w ∈ wsX50, w ∈ v_f_X7_walk := fun _ h => List.mem_cons_of_mem _ (List.mem_append_right _ (List.mem_append_right _ (List.mem_append_right _ (List.mem_append_right _ (List.mem_append_right _ (List.mem_append_left _ h))))))
theorem g_f_X7_walk_f_X5_refusal_220 : GoodIn v_f_X7_walk (wsV RX7 220 RX5 yX5_refusal v_f_X5_refusal) := goodIn_app (goodIn_of _ (by decide +kernel)) (goodIn_sub (fun _ h => List.mem_cons_of_mem _ (List.mem_append_right _ (List.mem_append_right _ (List.mem_append_left _ h)))) gw_f_X5_refusal)
theorem g_f_X7_walk_f_X5_copyFrom_237 : GoodIn v_f_X7_walk (wsV RX7 237 RX5 yX5_copyFrom v_f_X5_copyFrom) := goodIn_app (goodIn_of _ (by decide +kernel)) (goodIn_sub (fun _ h => List.mem_cons_of_mem _ (List.mem_append_right _ (List.mem_append_right _ (List.mem_append_right _ (List.mem_append_left _ h))))) gw_f_X5_copyFrom)
theorem g_f_X7_walk_f_X5_doAct_241 : GoodIn v_f_X7_walk (wsV RX7 241 RX5 yX5_doAct v_f_X5_doAct) := goodIn_app (goodIn_of _ (by decide +kernel)) (goodIn_sub (fun _ h => List.mem_cons_of_mem _ (List.mem_append_right _ (List.mem_append_right _ (List.mem_append_right _ (List.mem_append_right _ (List.mem_append_left _ h)))))) gw_f_X5_doAct)
theorem hd_X7_walk : yX7_walk.cls = RX7 ∧ yX7_walk.cls ≠ "java/lang/invoke/MethodHandle" ∧ yX7_walk.cls ≠ "java/lang/invoke/VarHandle" ∧ (parseMethodDescriptor yX7_walk.desc).map (fun d => d.parameters.length) = some 5 := by decide +kernel
set_option maxHeartbeats 4000000 in
set_option maxRecDepth 100000 in
theorem wb_X7_walk_47 {p : Program} (l : Launch) {e : Env} {s : State} {m : MethodId} {below : List Frame} {meth : Method} {c : Code} {Q : State → Prop} (E : EE) (K : Nat) {a_ a_tape a_reader a_scripts a_now a_trial a_kept a_book a_keptBook a_history a_draws a_refused a_now_row a_now_partners a_now_share a_now_leftOver a_trial_row a_trial_partners a_trial_share a_trial_leftOver : Nat} {p1 : Int32} {p2 : Int32} {p3 : Int32} {p4 : Int32} {p5 : Int32} {c_hasImage : Int32} {c_now_askedCount : Int32} {c_now_outcome : Int32} {c_now_row : Nat → Int32} {x6 : Int32} {x7 : Int32} {c_trial_row : Nat → Int32} {c_trial_partners : Nat → Int32} {c_trial_askedCount : Int32} {c_trial_outcome : Int32} {c_trial_share : Nat → Int32} {c_trial_leftOver : Nat → Int32} (hx : p.tables.exec = Jvm.exec) (hb : c.code = cX7_walk) (hml : c.maxLocals = 8) (hown : s.vm.findClass RX7 = some m.cls) (hts : ∀ w ∈ v_f_X7_walk, w.before #[Value.ref a_, Value.int p1, Value.int p2, Value.int p3, Value.int p4, Value.int p5] s = true) (hK : va_K E.1 vwCl (TY E) s) (hN : NX s) {A : Nat → Prop} (hA : ∀ q : Nat, s.heap.size ≤ q → A q) {xx : (Int32 × Int32 × (Nat → Int32) × (Nat → Int32) × Int32 × Int32 × (Nat → Int32) × (Nat → Int32)) ⊕ (Int32 × (Nat → Int32) × (Nat → Int32) × Int32 × Int32 × (Nat → Int32) × (Nat → Int32))} (hC : ∀ (x6 : Int32), ∀ (x7 : Int32), ∀ (c_trial_row : Nat → Int32), ∀ (c_trial_partners : Nat → Int32), ∀ (c_trial_askedCount : Int32), ∀ (c_trial_outcome : Int32), ∀ (c_trial_share : Nat → Int32), ∀ (c_trial_leftOver : Nat → Int32), xx = .inl (x6, x7, c_trial_row, c_trial_partners, c_trial_askedCount, c_trial_outcome, c_trial_share, c_trial_leftOver) → ∀ (H : Heap) (locs : List Loc) (ls : Array Slot), va_P E.1 vwCl (w_X7_walk E a_ a_tape a_reader a_scripts a_now a_trial a_kept a_book a_keptBook a_history a_draws a_refused a_now_row a_now_partners a_now_share a_now_leftOver a_trial_row a_trial_partners a_trial_share a_trial_leftOver c_hasImage c_now_askedCount c_now_outcome c_now_row c_trial_askedCount c_trial_outcome c_trial_row c_trial_partners c_trial_share c_trial_leftOver) H → va_D A (w_X7_walk E a_ a_tape a_reader a_scripts a_now a_trial a_kept a_book a_keptBook a_history a_draws a_refused a_now_row a_now_partners a_now_share a_now_leftOver a_trial_row a_trial_partners a_trial_share a_trial_leftOver c_hasImage c_now_askedCount c_now_outcome c_now_row c_trial_askedCount c_trial_outcome c_trial_row c_trial_partners c_trial_share c_trial_leftOver) → va_S A s.heap H locs → lv_has ls 8 [(0, .ref a_), (1, .int p1), (2, .int p2), (3, .int p3), (4, .int p4), (5, .int p5), (6, .int x6), (7, .int x7)] → W p l e ({ frames := 5, cells := 0, slots := 0, locals := 124 } : Room) s m #[Value.ref a_, Value.int p1, Value.int p2, Value.int p3, Value.int p4, Value.int p5] below meth c H locs 0 0 Q (F0 m 47 ls [])) (hE : ∀ (x6 : Int32), ∀ (c_trial_row : Nat → Int32), ∀ (c_trial_partners : Nat → Int32), ∀ (c_trial_askedCount : Int32), ∀ (c_trial_outcome : Int32), ∀ (c_trial_share : Nat → Int32), ∀ (c_trial_leftOver : Nat → Int32), xx = .inr (x6, c_trial_row, c_trial_partners, c_trial_askedCount, c_trial_outcome, c_trial_share, c_trial_leftOver) → ((∀ (H : Heap) (locs : List Loc) (ls : Array Slot), va_P E.1 vwCl (w_X7_walk E a_ a_tape a_reader a_scripts a_now a_trial a_kept a_book a_keptBook a_history a_draws a_refused a_now_row a_now_partners a_now_share a_now_leftOver a_trial_row a_trial_partners a_trial_share a_trial_leftOver c_hasImage c_now_askedCount c_now_outcome c_now_row c_trial_askedCount c_trial_outcome c_trial_row c_trial_partners c_trial_share c_trial_leftOver) H → va_D A (w_X7_walk E a_ a_tape a_reader a_scripts a_now a_trial a_kept a_book a_keptBook a_history a_draws a_refused a_now_row a_now_partners a_now_share a_now_leftOver a_trial_row a_trial_partners a_trial_share a_trial_leftOver c_hasImage c_now_askedCount c_now_outcome c_now_row c_trial_askedCount c_trial_outcome c_trial_row c_trial_partners c_trial_share c_trial_leftOver) → va_S A s.heap H locs → lv_has ls 8 [(0, .ref a_), (5, .int p5), (6, .int x6)] → W p l e ({ frames := 5, cells := 0, slots := 0, locals := 124 } : Room) s m #[Value.ref a_, Value.int p1, Value.int p2, Value.int p3, Value.int p4, Value.int p5] below meth c H locs 0 0 Q (F0 m 90 ls [])))) (hF : B_X7_walk_47 K p1 p2 p3 p4 x6 x7 c_trial_row c_trial_partners c_trial_askedCount c_trial_outcome c_trial_share c_trial_leftOver = some xx) : ∀ (H : Heap) (locs : List Loc) (ls : Array Slot), va_P E.1 vwCl (w_X7_walk E a_ a_tape a_reader a_scripts a_now a_trial a_kept a_book a_keptBook a_history a_draws a_refused a_now_row a_now_partners a_now_share a_now_leftOver a_trial_row a_trial_partners a_trial_share a_trial_leftOver c_hasImage c_now_askedCount c_now_outcome c_now_row c_trial_askedCount c_trial_outcome c_trial_row c_trial_partners c_trial_share c_trial_leftOver) H → va_D A (w_X7_walk E a_ a_tape a_reader a_scripts a_now a_trial a_kept a_book a_keptBook a_history a_draws a_refused a_now_row a_now_partners a_now_share a_now_leftOver a_trial_row a_trial_partners a_trial_share a_trial_leftOver c_hasImage c_now_askedCount c_now_outcome c_now_row c_trial_askedCount c_trial_outcome c_trial_row c_trial_partners c_trial_share c_trial_leftOver) → va_S A s.heap H locs → lv_has ls 8 [(0, .ref a_), (1, .int p1), (2, .int p2), (3, .int p3), (4, .int p4), (5, .int p5), (6, .int x6), (7, .int x7)] → W p l e ({ frames := 5, cells := 0, slots := 0, locals := 124 } : Room) s m #[Value.ref a_, Value.int p1, Value.int p2, Value.int p3, Value.int p4, Value.int p5] below meth c H locs 0 0 Q (F0 m 47 ls []) := by
  unfold B_X7_walk_47 at hF
  intro H locs ls hP hD hS hl
  replace hP : va_P E.1 vwCl [(a_, .inr (8, [.ref a_tape, .ref a_reader, .ref a_scripts, .ref a_now, .ref a_trial, .ref a_kept, .ref a_book, .ref a_keptBook, .ref a_history, .ref a_draws, .ref a_refused, .int c_hasImage])), (a_now, .inr (6, [.ref a_now_row, .ref a_now_partners, .int c_now_askedCount, .int c_now_outcome, .ref a_now_share, .ref a_now_leftOver])), (a_now_row, .inl (E.2.1, 81, .inl c_now_row)), (a_trial, .inr (6, [.ref a_trial_row, .ref a_trial_partners, .int c_trial_askedCount, .int c_trial_outcome, .ref a_trial_share, .ref a_trial_leftOver])), (a_trial_row, .inl (E.2.1, 81, .inl c_trial_row)), (a_trial_partners, .inl (E.2.1, 8, .inl c_trial_partners)), (a_trial_share, .inl (E.2.1, 2, .inl c_trial_share)), (a_trial_leftOver, .inl (E.2.1, 2, .inl c_trial_leftOver))] H := hP
  replace hD : va_D A [(a_, .inr (8, [.ref a_tape, .ref a_reader, .ref a_scripts, .ref a_now, .ref a_trial, .ref a_kept, .ref a_book, .ref a_keptBook, .ref a_history, .ref a_draws, .ref a_refused, .int c_hasImage])), (a_now, .inr (6, [.ref a_now_row, .ref a_now_partners, .int c_now_askedCount, .int c_now_outcome, .ref a_now_share, .ref a_now_leftOver])), (a_now_row, .inl (E.2.1, 81, .inl c_now_row)), (a_trial, .inr (6, [.ref a_trial_row, .ref a_trial_partners, .int c_trial_askedCount, .int c_trial_outcome, .ref a_trial_share, .ref a_trial_leftOver])), (a_trial_row, .inl (E.2.1, 81, .inl c_trial_row)), (a_trial_partners, .inl (E.2.1, 8, .inl c_trial_partners)), (a_trial_share, .inl (E.2.1, 2, .inl c_trial_share)), (a_trial_leftOver, .inl (E.2.1, 2, .inl c_trial_leftOver))] := hD
  refine lv_iload hx hb dX7_walk_47 (lv_at hl 7 rfl) ?_
  refine lv_iload hx hb dX7_walk_49 (lv_at hl 4 rfl) ?_
  refine lv_icmp_ge (tgt := 90) hx hb dX7_walk_51 (by decide) (fun c_8 => ?_) (fun c_8 => ?_)
  ·
    replace hF := ip c_8 hF
    cases hF
    exact hE x6 c_trial_row c_trial_partners c_trial_askedCount c_trial_outcome c_trial_share c_trial_leftOver rfl H locs ls (hP.sub [0, 1, 2, 3, 4, 5, 6, 7] rfl) (hD.sub [0, 1, 2, 3, 4, 5, 6, 7] (by decide) rfl) hS (lv_sub hl [0, 5, 6] rfl)
  ·
    replace hF := inn c_8 hF
    refine lv_aload_n hx hb dX7_walk_54 rfl (lv_at hl 0 rfl) ?_
    refine gt_X7_4 (v := .ref a_trial) hx hb hts i_f_X7_walk_X7 hown hK hP 0 rfl (hts (.fieldLink RX7 39 "HushWatch" "trial" "LHushWatch$State;") (List.mem_of_getElem? (i := 2) rfl)) rfl dX7_walk_55 ?_
    refine lv_iconst (v := 0) hx hb dX7_walk_58 (by decide) ?_
    refine lv_iload_n hx hb dX7_walk_59 rfl (lv_at hl 1 rfl) ?_
    refine lv_iload_n hx hb dX7_walk_60 rfl (lv_at hl 2 rfl) ?_
    refine lv_iload_n hx hb dX7_walk_61 rfl (lv_at hl 3 rfl) ?_
    replace hF := bd1_s hF
    obtain ⟨r_9, hc_10, hF⟩ := hF
    have hPc : va_P E.1 vwCl (w_X5_refusal E a_trial a_trial_row a_trial_partners a_trial_share a_trial_leftOver c_trial_askedCount c_trial_outcome c_trial_row) H := hP.sub (ws' := [(a_trial, .inr (6, [.ref a_trial_row, .ref a_trial_partners, .int c_trial_askedCount, .int c_trial_outcome, .ref a_trial_share, .ref a_trial_leftOver])), (a_trial_row, .inl (E.2.1, 81, .inl c_trial_row))]) [3, 4] rfl
    have hrc := va_recv hK hPc (ci := 6) (q0 := 0) rfl rfl
    refine pE_i (va_runV (As := [.int (0 : Int32), .int p1, .int p2, .int p3]) (rest := [])  ⟨hx, hb, hml, hown, hts⟩ (f_X5_refusal l E (a_ := a_trial) (a_row := a_trial_row) (a_partners := a_trial_partners) (a_share := a_trial_share) (a_leftOver := a_trial_leftOver) (p1 := (0 : Int32)) (p2 := p1) (p3 := p2) (p4 := p3) (c_askedCount := c_trial_askedCount) (c_outcome := c_trial_outcome) (c_row := c_trial_row) hc_10) (cwV 4 hts g_f_X7_walk_f_X5_refusal_220 rfl rfl rfl hd_X5_refusal ⟨Nat.le_of_ble_eq_true rfl, Nat.le_of_ble_eq_true rfl⟩) ⟨pP.blind, hrc, (pP.pre ⟨hK, hN⟩ hPc)⟩ rfl rfl hl.1 rfl (lv_room (Nat.le_of_ble_eq_true rfl)) dX7_walk_62 ⟨Nat.le_of_ble_eq_true rfl, Nat.le_of_ble_eq_true rfl⟩) ?_
    refine lv_iconst (v := -1) hx hb dX7_walk_65 (by decide) ?_
    refine lv_icmp_ne (tgt := 90) hx hb dX7_walk_66 (by decide) (fun c_11 => ?_) (fun c_11 => ?_)
    ·
      replace hF := inn c_11 hF
      cases hF
      exact hE x6 c_trial_row c_trial_partners c_trial_askedCount c_trial_outcome c_trial_share c_trial_leftOver rfl H locs ls (hP.sub [0, 1, 2, 3, 4, 5, 6, 7] rfl) (hD.sub [0, 1, 2, 3, 4, 5, 6, 7] (by decide) rfl) hS (lv_sub hl [0, 5, 6] rfl)
    ·
      replace hF := ip c_11 hF
      refine lv_aload_n hx hb dX7_walk_69 rfl (lv_at hl 0 rfl) ?_
      refine gt_X7_4 (v := .ref a_trial) hx hb hts i_f_X7_walk_X7 hown hK hP 0 rfl (hts (.fieldLink RX7 39 "HushWatch" "trial" "LHushWatch$State;") (List.mem_of_getElem? (i := 2) rfl)) rfl dX7_walk_70 ?_
      refine lv_iconst (v := 0) hx hb dX7_walk_73 (by decide) ?_
      refine lv_iload_n hx hb dX7_walk_74 rfl (lv_at hl 1 rfl) ?_
      refine lv_iload_n hx hb dX7_walk_75 rfl (lv_at hl 2 rfl) ?_
      refine lv_iload_n hx hb dX7_walk_76 rfl (lv_at hl 3 rfl) ?_
      replace hF := bd7_s hF
      obtain ⟨r_12, w_13, w_14, w_15, w_16, w_17, w_18, hc_19, hF⟩ := hF
      obtain ⟨hPc, hDc, hFc⟩ := wcut (wc := (w_X5_doAct E a_trial a_trial_row a_trial_partners a_trial_share a_trial_leftOver c_trial_askedCount c_trial_outcome c_trial_row c_trial_partners c_trial_share c_trial_leftOver)) hP hD hS hA [3, 4, 5, 6, 7] (by decide) rfl
      have hrc := va_recv hK hPc (ci := 6) (q0 := 0) rfl rfl
      refine cE_i (wc := (w_X5_doAct E a_trial a_trial_row a_trial_partners a_trial_share a_trial_leftOver c_trial_askedCount c_trial_outcome c_trial_row c_trial_partners c_trial_share c_trial_leftOver)) (wr := [(a_, .inr (8, [.ref a_tape, .ref a_reader, .ref a_scripts, .ref a_now, .ref a_trial, .ref a_kept, .ref a_book, .ref a_keptBook, .ref a_history, .ref a_draws, .ref a_refused, .int c_hasImage])), (a_now, .inr (6, [.ref a_now_row, .ref a_now_partners, .int c_now_askedCount, .int c_now_outcome, .ref a_now_share, .ref a_now_leftOver])), (a_now_row, .inl (E.2.1, 81, .inl c_now_row))]) (w1 := (w_X5_doAct E a_trial a_trial_row a_trial_partners a_trial_share a_trial_leftOver w_15 w_16 w_13 w_14 w_17 w_18)) (va_runV (As := [.int (0 : Int32), .int p1, .int p2, .int p3]) (rest := [])  ⟨hx, hb, hml, hown, hts⟩ (f_X5_doAct l E H.size K (a_ := a_trial) (a_row := a_trial_row) (a_partners := a_trial_partners) (a_share := a_trial_share) (a_leftOver := a_trial_leftOver) (p1 := (0 : Int32)) (p2 := p1) (p3 := p2) (p4 := p3) (c_askedCount := c_trial_askedCount) (c_outcome := c_trial_outcome) (c_row := c_trial_row) (c_partners := c_trial_partners) (c_share := c_trial_share) (c_leftOver := c_trial_leftOver) hc_19) (cwV 4 hts g_f_X7_walk_f_X5_doAct_241 rfl rfl rfl hd_X5_doAct ⟨Nat.le_of_ble_eq_true rfl, Nat.le_of_ble_eq_true rfl⟩) ⟨pW.blind, hrc, (pW.pre ⟨hK, hN⟩ hPc hDc)⟩ rfl rfl hl.1 rfl (lv_room (Nat.le_of_ble_eq_true rfl)) dX7_walk_77 ⟨Nat.le_of_ble_eq_true rfl, Nat.le_of_ble_eq_true rfl⟩) hS hFc hP hD [3, 4, 5, 6, 7] [0, 1, 2] rfl rfl (by decide) (by decide) (fun H locs hP hD hS => ?_)
      replace hP : va_P E.1 vwCl [(a_, .inr (8, [.ref a_tape, .ref a_reader, .ref a_scripts, .ref a_now, .ref a_trial, .ref a_kept, .ref a_book, .ref a_keptBook, .ref a_history, .ref a_draws, .ref a_refused, .int c_hasImage])), (a_now, .inr (6, [.ref a_now_row, .ref a_now_partners, .int c_now_askedCount, .int c_now_outcome, .ref a_now_share, .ref a_now_leftOver])), (a_now_row, .inl (E.2.1, 81, .inl c_now_row)), (a_trial, .inr (6, [.ref a_trial_row, .ref a_trial_partners, .int w_15, .int w_16, .ref a_trial_share, .ref a_trial_leftOver])), (a_trial_row, .inl (E.2.1, 81, .inl w_13)), (a_trial_partners, .inl (E.2.1, 8, .inl w_14)), (a_trial_share, .inl (E.2.1, 2, .inl w_17)), (a_trial_leftOver, .inl (E.2.1, 2, .inl w_18))] H := hP
      replace hD : va_D A [(a_, .inr (8, [.ref a_tape, .ref a_reader, .ref a_scripts, .ref a_now, .ref a_trial, .ref a_kept, .ref a_book, .ref a_keptBook, .ref a_history, .ref a_draws, .ref a_refused, .int c_hasImage])), (a_now, .inr (6, [.ref a_now_row, .ref a_now_partners, .int c_now_askedCount, .int c_now_outcome, .ref a_now_share, .ref a_now_leftOver])), (a_now_row, .inl (E.2.1, 81, .inl c_now_row)), (a_trial, .inr (6, [.ref a_trial_row, .ref a_trial_partners, .int w_15, .int w_16, .ref a_trial_share, .ref a_trial_leftOver])), (a_trial_row, .inl (E.2.1, 81, .inl w_13)), (a_trial_partners, .inl (E.2.1, 8, .inl w_14)), (a_trial_share, .inl (E.2.1, 2, .inl w_17)), (a_trial_leftOver, .inl (E.2.1, 2, .inl w_18))] := hD
      refine lv_pop hx hb dX7_walk_80 rfl ?_
      refine lv_iinc (v := x6 + (1 : Int32)) (lv' := [(6, .int (x6 + (1 : Int32))), (0, .ref a_), (1, .int p1), (2, .int p2), (3, .int p3), (4, .int p4), (5, .int p5), (7, .int x7)]) hx hb dX7_walk_81 hl (k := 6) rfl (rfl) (by decide) rfl (fun ls hl => ?_)
      refine lv_iinc (v := x7 + (1 : Int32)) (lv' := [(7, .int (x7 + (1 : Int32))), (6, .int (x6 + (1 : Int32))), (0, .ref a_), (1, .int p1), (2, .int p2), (3, .int p3), (4, .int p4), (5, .int p5)]) hx hb dX7_walk_84 hl (k := 7) rfl (rfl) (by decide) rfl (fun ls hl => ?_)
      refine lv_goto (tgt := 47) hx hb dX7_walk_87 (by decide) ?_
      cases hF
      exact hC (x6 + (1 : Int32)) (x7 + (1 : Int32)) w_13 w_14 w_15 w_16 w_17 w_18 rfl H locs ls (hP.sub [0, 1, 2, 3, 4, 5, 6, 7] rfl) (hD.sub [0, 1, 2, 3, 4, 5, 6, 7] (by decide) rfl) hS (lv_sub hl [2, 3, 4, 5, 6, 7, 1, 0] rfl)

set_option maxHeartbeats 4000000 in
set_option maxRecDepth 100000 in
theorem lw_X7_walk_47 {p : Program} (l : Launch) {e : Env} {s : State} {m : MethodId} {below : List Frame} {meth : Method} {c : Code} {Q : State → Prop} (E : EE) (K : Nat) {a_ a_tape a_reader a_scripts a_now a_trial a_kept a_book a_keptBook a_history a_draws a_refused a_now_row a_now_partners a_now_share a_now_leftOver a_trial_row a_trial_partners a_trial_share a_trial_leftOver : Nat} {p1 : Int32} {p2 : Int32} {p3 : Int32} {p4 : Int32} {p5 : Int32} {c_hasImage : Int32} {c_now_askedCount : Int32} {c_now_outcome : Int32} {c_now_row : Nat → Int32} (hx : p.tables.exec = Jvm.exec) (hb : c.code = cX7_walk) (hml : c.maxLocals = 8) (hown : s.vm.findClass RX7 = some m.cls) (hts : ∀ w ∈ v_f_X7_walk, w.before #[Value.ref a_, Value.int p1, Value.int p2, Value.int p3, Value.int p4, Value.int p5] s = true) (hK : va_K E.1 vwCl (TY E) s) (hN : NX s) {A : Nat → Prop} (hA : ∀ q : Nat, s.heap.size ≤ q → A q) (j9 : Nat) (x6 : Int32) (x7 : Int32) (c_trial_row : Nat → Int32) (c_trial_partners : Nat → Int32) (c_trial_askedCount : Int32) (c_trial_outcome : Int32) (c_trial_share : Nat → Int32) (c_trial_leftOver : Nat → Int32) (x6' : Int32) (c_trial_row' : Nat → Int32) (c_trial_partners' : Nat → Int32) (c_trial_askedCount' : Int32) (c_trial_outcome' : Int32) (c_trial_share' : Nat → Int32) (c_trial_leftOver' : Nat → Int32) (hL : lpF (fun u9 : Int32 × Int32 × (Nat → Int32) × (Nat → Int32) × Int32 × Int32 × (Nat → Int32) × (Nat → Int32) => B_X7_walk_47 K p1 p2 p3 p4 u9.1 u9.2.1 u9.2.2.1 u9.2.2.2.1 u9.2.2.2.2.1 u9.2.2.2.2.2.1 u9.2.2.2.2.2.2.1 u9.2.2.2.2.2.2.2) j9 (x6, x7, c_trial_row, c_trial_partners, c_trial_askedCount, c_trial_outcome, c_trial_share, c_trial_leftOver) = some (x6', c_trial_row', c_trial_partners', c_trial_askedCount', c_trial_outcome', c_trial_share', c_trial_leftOver')) (hX : (∀ (H : Heap) (locs : List Loc) (ls : Array Slot), va_P E.1 vwCl (w_X7_walk E a_ a_tape a_reader a_scripts a_now a_trial a_kept a_book a_keptBook a_history a_draws a_refused a_now_row a_now_partners a_now_share a_now_leftOver a_trial_row a_trial_partners a_trial_share a_trial_leftOver c_hasImage c_now_askedCount c_now_outcome c_now_row c_trial_askedCount' c_trial_outcome' c_trial_row' c_trial_partners' c_trial_share' c_trial_leftOver') H → va_D A (w_X7_walk E a_ a_tape a_reader a_scripts a_now a_trial a_kept a_book a_keptBook a_history a_draws a_refused a_now_row a_now_partners a_now_share a_now_leftOver a_trial_row a_trial_partners a_trial_share a_trial_leftOver c_hasImage c_now_askedCount c_now_outcome c_now_row c_trial_askedCount' c_trial_outcome' c_trial_row' c_trial_partners' c_trial_share' c_trial_leftOver') → va_S A s.heap H locs → lv_has ls 8 [(0, .ref a_), (5, .int p5), (6, .int x6')] → W p l e ({ frames := 5, cells := 0, slots := 0, locals := 124 } : Room) s m #[Value.ref a_, Value.int p1, Value.int p2, Value.int p3, Value.int p4, Value.int p5] below meth c H locs 0 0 Q (F0 m 90 ls []))) : ∀ (H : Heap) (locs : List Loc) (ls : Array Slot), va_P E.1 vwCl (w_X7_walk E a_ a_tape a_reader a_scripts a_now a_trial a_kept a_book a_keptBook a_history a_draws a_refused a_now_row a_now_partners a_now_share a_now_leftOver a_trial_row a_trial_partners a_trial_share a_trial_leftOver c_hasImage c_now_askedCount c_now_outcome c_now_row c_trial_askedCount c_trial_outcome c_trial_row c_trial_partners c_trial_share c_trial_leftOver) H → va_D A (w_X7_walk E a_ a_tape a_reader a_scripts a_now a_trial a_kept a_book a_keptBook a_history a_draws a_refused a_now_row a_now_partners a_now_share a_now_leftOver a_trial_row a_trial_partners a_trial_share a_trial_leftOver c_hasImage c_now_askedCount c_now_outcome c_now_row c_trial_askedCount c_trial_outcome c_trial_row c_trial_partners c_trial_share c_trial_leftOver) → va_S A s.heap H locs → lv_has ls 8 [(0, .ref a_), (1, .int p1), (2, .int p2), (3, .int p3), (4, .int p4), (5, .int p5), (6, .int x6), (7, .int x7)] → W p l e ({ frames := 5, cells := 0, slots := 0, locals := 124 } : Room) s m #[Value.ref a_, Value.int p1, Value.int p2, Value.int p3, Value.int p4, Value.int p5] below meth c H locs 0 0 Q (F0 m 47 ls []) := by
  exact lp_rule (P := (fun u9 : Int32 × Int32 × (Nat → Int32) × (Nat → Int32) × Int32 × Int32 × (Nat → Int32) × (Nat → Int32) => ∀ (H : Heap) (locs : List Loc) (ls : Array Slot), va_P E.1 vwCl (w_X7_walk E a_ a_tape a_reader a_scripts a_now a_trial a_kept a_book a_keptBook a_history a_draws a_refused a_now_row a_now_partners a_now_share a_now_leftOver a_trial_row a_trial_partners a_trial_share a_trial_leftOver c_hasImage c_now_askedCount c_now_outcome c_now_row u9.2.2.2.2.1 u9.2.2.2.2.2.1 u9.2.2.1 u9.2.2.2.1 u9.2.2.2.2.2.2.1 u9.2.2.2.2.2.2.2) H → va_D A (w_X7_walk E a_ a_tape a_reader a_scripts a_now a_trial a_kept a_book a_keptBook a_history a_draws a_refused a_now_row a_now_partners a_now_share a_now_leftOver a_trial_row a_trial_partners a_trial_share a_trial_leftOver c_hasImage c_now_askedCount c_now_outcome c_now_row u9.2.2.2.2.1 u9.2.2.2.2.2.1 u9.2.2.1 u9.2.2.2.1 u9.2.2.2.2.2.2.1 u9.2.2.2.2.2.2.2) → va_S A s.heap H locs → lv_has ls 8 [(0, .ref a_), (1, .int p1), (2, .int p2), (3, .int p3), (4, .int p4), (5, .int p5), (6, .int u9.1), (7, .int u9.2.1)] → W p l e ({ frames := 5, cells := 0, slots := 0, locals := 124 } : Room) s m #[Value.ref a_, Value.int p1, Value.int p2, Value.int p3, Value.int p4, Value.int p5] below meth c H locs 0 0 Q (F0 m 47 ls []))) (R := (fun r9 : Int32 × (Nat → Int32) × (Nat → Int32) × Int32 × Int32 × (Nat → Int32) × (Nat → Int32) => (∀ (H : Heap) (locs : List Loc) (ls : Array Slot), va_P E.1 vwCl (w_X7_walk E a_ a_tape a_reader a_scripts a_now a_trial a_kept a_book a_keptBook a_history a_draws a_refused a_now_row a_now_partners a_now_share a_now_leftOver a_trial_row a_trial_partners a_trial_share a_trial_leftOver c_hasImage c_now_askedCount c_now_outcome c_now_row r9.2.2.2.1 r9.2.2.2.2.1 r9.2.1 r9.2.2.1 r9.2.2.2.2.2.1 r9.2.2.2.2.2.2) H → va_D A (w_X7_walk E a_ a_tape a_reader a_scripts a_now a_trial a_kept a_book a_keptBook a_history a_draws a_refused a_now_row a_now_partners a_now_share a_now_leftOver a_trial_row a_trial_partners a_trial_share a_trial_leftOver c_hasImage c_now_askedCount c_now_outcome c_now_row r9.2.2.2.1 r9.2.2.2.2.1 r9.2.1 r9.2.2.1 r9.2.2.2.2.2.1 r9.2.2.2.2.2.2) → va_S A s.heap H locs → lv_has ls 8 [(0, .ref a_), (5, .int p5), (6, .int r9.1)] → W p l e ({ frames := 5, cells := 0, slots := 0, locals := 124 } : Room) s m #[Value.ref a_, Value.int p1, Value.int p2, Value.int p3, Value.int p4, Value.int p5] below meth c H locs 0 0 Q (F0 m 90 ls [])))) (fun u9 xx hF hC hE => wb_X7_walk_47 l E K (p1 := p1) (p2 := p2) (p3 := p3) (p4 := p4) (p5 := p5) (c_hasImage := c_hasImage) (c_now_askedCount := c_now_askedCount) (c_now_outcome := c_now_outcome) (c_now_row := c_now_row) (x6 := u9.1) (x7 := u9.2.1) (c_trial_row := u9.2.2.1) (c_trial_partners := u9.2.2.2.1) (c_trial_askedCount := u9.2.2.2.2.1) (c_trial_outcome := u9.2.2.2.2.2.1) (c_trial_share := u9.2.2.2.2.2.2.1) (c_trial_leftOver := u9.2.2.2.2.2.2.2) hx hb hml hown hts hK hN hA (fun x6 x7 c_trial_row c_trial_partners c_trial_askedCount c_trial_outcome c_trial_share c_trial_leftOver q9 => hC _ q9) (fun x6 c_trial_row c_trial_partners c_trial_askedCount c_trial_outcome c_trial_share c_trial_leftOver q9 => hE _ q9) hF) j9 (x6, x7, c_trial_row, c_trial_partners, c_trial_askedCount, c_trial_outcome, c_trial_share, c_trial_leftOver) (x6', c_trial_row', c_trial_partners', c_trial_askedCount', c_trial_outcome', c_trial_share', c_trial_leftOver') hL hX

set_option maxHeartbeats 4000000 in
set_option maxRecDepth 100000 in
theorem j_X7_walk_90 {p : Program} (l : Launch) {e : Env} {s : State} {m : MethodId} {below : List Frame} {meth : Method} {c : Code} {Q : State → Prop} (E : EE) (K : Nat) {a_ a_tape a_reader a_scripts a_now a_trial a_kept a_book a_keptBook a_history a_draws a_refused a_now_row a_now_partners a_now_share a_now_leftOver a_trial_row a_trial_partners a_trial_share a_trial_leftOver : Nat} {p1 : Int32} {p2 : Int32} {p3 : Int32} {p4 : Int32} {p5 : Int32} {c_hasImage : Int32} {c_now_askedCount : Int32} {c_now_outcome : Int32} {c_now_row : Nat → Int32} {x6 : Int32} {c_trial_row : Nat → Int32} {c_trial_partners : Nat → Int32} {c_trial_askedCount : Int32} {c_trial_outcome : Int32} {c_trial_share : Nat → Int32} {c_trial_leftOver : Nat → Int32} (hx : p.tables.exec = Jvm.exec) (hb : c.code = cX7_walk) (hml : c.maxLocals = 8) (hown : s.vm.findClass RX7 = some m.cls) (hts : ∀ w ∈ v_f_X7_walk, w.before #[Value.ref a_, Value.int p1, Value.int p2, Value.int p3, Value.int p4, Value.int p5] s = true) (hK : va_K E.1 vwCl (TY E) s) (hN : NX s) {A : Nat → Prop} (hA : ∀ q : Nat, s.heap.size ≤ q → A q) {rr : Int32} {n_trial_row : Nat → Int32} {n_trial_partners : Nat → Int32} {n_trial_askedCount : Int32} {n_trial_outcome : Int32} {n_trial_share : Nat → Int32} {n_trial_leftOver : Nat → Int32} (hr : meth.sig.returnType = (some .int)) (hlocks : meth.locks = false) (hQ : Q = MQ below (va_Qi (fun (q : Int32) (_u : Unit) => q = rr) (fun (_u : Unit) tt => va_P E.1 vwCl (w_X7_walk E a_ a_tape a_reader a_scripts a_now a_trial a_kept a_book a_keptBook a_history a_draws a_refused a_now_row a_now_partners a_now_share a_now_leftOver a_trial_row a_trial_partners a_trial_share a_trial_leftOver c_hasImage c_now_askedCount c_now_outcome c_now_row n_trial_askedCount n_trial_outcome n_trial_row n_trial_partners n_trial_share n_trial_leftOver) tt.heap ∧ va_D A (w_X7_walk E a_ a_tape a_reader a_scripts a_now a_trial a_kept a_book a_keptBook a_history a_draws a_refused a_now_row a_now_partners a_now_share a_now_leftOver a_trial_row a_trial_partners a_trial_share a_trial_leftOver c_hasImage c_now_askedCount c_now_outcome c_now_row n_trial_askedCount n_trial_outcome n_trial_row n_trial_partners n_trial_share n_trial_leftOver)) A) #[Value.ref a_, Value.int p1, Value.int p2, Value.int p3, Value.int p4, Value.int p5] s 0 0 A) (hF : J_X7_walk_90 p5 c_now_row x6 c_trial_row c_trial_partners c_trial_askedCount c_trial_outcome c_trial_share c_trial_leftOver = some (rr, n_trial_row, n_trial_partners, n_trial_askedCount, n_trial_outcome, n_trial_share, n_trial_leftOver)) : ∀ (H : Heap) (locs : List Loc) (ls : Array Slot), va_P E.1 vwCl (w_X7_walk E a_ a_tape a_reader a_scripts a_now a_trial a_kept a_book a_keptBook a_history a_draws a_refused a_now_row a_now_partners a_now_share a_now_leftOver a_trial_row a_trial_partners a_trial_share a_trial_leftOver c_hasImage c_now_askedCount c_now_outcome c_now_row c_trial_askedCount c_trial_outcome c_trial_row c_trial_partners c_trial_share c_trial_leftOver) H → va_D A (w_X7_walk E a_ a_tape a_reader a_scripts a_now a_trial a_kept a_book a_keptBook a_history a_draws a_refused a_now_row a_now_partners a_now_share a_now_leftOver a_trial_row a_trial_partners a_trial_share a_trial_leftOver c_hasImage c_now_askedCount c_now_outcome c_now_row c_trial_askedCount c_trial_outcome c_trial_row c_trial_partners c_trial_share c_trial_leftOver) → va_S A s.heap H locs → lv_has ls 8 [(0, .ref a_), (5, .int p5), (6, .int x6)] → W p l e ({ frames := 5, cells := 0, slots := 0, locals := 124 } : Room) s m #[Value.ref a_, Value.int p1, Value.int p2, Value.int p3, Value.int p4, Value.int p5] below meth c H locs 0 0 Q (F0 m 90 ls []) := by
  unfold J_X7_walk_90 at hF
  intro H locs ls hP hD hS hl
  replace hP : va_P E.1 vwCl [(a_, .inr (8, [.ref a_tape, .ref a_reader, .ref a_scripts, .ref a_now, .ref a_trial, .ref a_kept, .ref a_book, .ref a_keptBook, .ref a_history, .ref a_draws, .ref a_refused, .int c_hasImage])), (a_now, .inr (6, [.ref a_now_row, .ref a_now_partners, .int c_now_askedCount, .int c_now_outcome, .ref a_now_share, .ref a_now_leftOver])), (a_now_row, .inl (E.2.1, 81, .inl c_now_row)), (a_trial, .inr (6, [.ref a_trial_row, .ref a_trial_partners, .int c_trial_askedCount, .int c_trial_outcome, .ref a_trial_share, .ref a_trial_leftOver])), (a_trial_row, .inl (E.2.1, 81, .inl c_trial_row)), (a_trial_partners, .inl (E.2.1, 8, .inl c_trial_partners)), (a_trial_share, .inl (E.2.1, 2, .inl c_trial_share)), (a_trial_leftOver, .inl (E.2.1, 2, .inl c_trial_leftOver))] H := hP
  replace hD : va_D A [(a_, .inr (8, [.ref a_tape, .ref a_reader, .ref a_scripts, .ref a_now, .ref a_trial, .ref a_kept, .ref a_book, .ref a_keptBook, .ref a_history, .ref a_draws, .ref a_refused, .int c_hasImage])), (a_now, .inr (6, [.ref a_now_row, .ref a_now_partners, .int c_now_askedCount, .int c_now_outcome, .ref a_now_share, .ref a_now_leftOver])), (a_now_row, .inl (E.2.1, 81, .inl c_now_row)), (a_trial, .inr (6, [.ref a_trial_row, .ref a_trial_partners, .int c_trial_askedCount, .int c_trial_outcome, .ref a_trial_share, .ref a_trial_leftOver])), (a_trial_row, .inl (E.2.1, 81, .inl c_trial_row)), (a_trial_partners, .inl (E.2.1, 8, .inl c_trial_partners)), (a_trial_share, .inl (E.2.1, 2, .inl c_trial_share)), (a_trial_leftOver, .inl (E.2.1, 2, .inl c_trial_leftOver))] := hD
  refine lv_iload hx hb dX7_walk_90 (lv_at hl 1 rfl) ?_
  rcases Classical.em (p5 = (0 : Int32)) with c_28_0 | c_28_0
  ·
    replace hF := ip c_28_0 hF
    refine lv_tableIn (off := 28) (tgt := 120) hx hb dX7_walk_92 (by rw [c_28_0]; decide) (by rw [c_28_0]; decide) (by rw [c_28_0]; decide) (by decide) ?_
    refine lv_aload_n hx hb dX7_walk_120 rfl (lv_at hl 0 rfl) ?_
    refine gt_X7_4 (v := .ref a_trial) hx hb hts i_f_X7_walk_X7 hown hK hP 0 rfl (hts (.fieldLink RX7 39 "HushWatch" "trial" "LHushWatch$State;") (List.mem_of_getElem? (i := 2) rfl)) rfl dX7_walk_121 ?_
    refine va_getN (D := E.1) (ci := 6) (v := .ref a_trial_row) (C := RX5) (T := TX5) (N := 6) hx hb hts i_f_X7_walk_X5 hown hK hP 3 rfl rfl 0 (by decide) (nx hN 12 rfl) (fun _ h9 => h9) rfl dX7_walk_124 ?_
    refine lv_bipush (v := 11) hx hb dX7_walk_127 (by decide) ?_
    refine va_iald hx hb hK hP 4 0 rfl rfl (vin rfl) dX7_walk_129 ?_
    refine W.eq (g2 := F0 m 130 ls [.int (c_trial_row 11)]) rfl ?_
    refine lv_aload_n hx hb dX7_walk_130 rfl (lv_at hl 0 rfl) ?_
    refine gt_X7_3 (v := .ref a_now) hx hb hts i_f_X7_walk_X7 hown hK hP 0 rfl (hts (.fieldLink RX7 35 "HushWatch" "now" "LHushWatch$State;") (List.mem_of_getElem? (i := 1) rfl)) rfl dX7_walk_131 ?_
    refine va_getN (D := E.1) (ci := 6) (v := .ref a_now_row) (C := RX5) (T := TX5) (N := 6) hx hb hts i_f_X7_walk_X5 hown hK hP 1 rfl rfl 0 (by decide) (nx hN 12 rfl) (fun _ h9 => h9) rfl dX7_walk_134 ?_
    refine lv_bipush (v := 11) hx hb dX7_walk_137 (by decide) ?_
    refine va_iald hx hb hK hP 2 0 rfl rfl (vin rfl) dX7_walk_139 ?_
    refine W.eq (g2 := F0 m 140 ls [.int (c_now_row 11), .int (c_trial_row 11)]) rfl ?_
    refine lv_isub hx hb dX7_walk_140 ?_
    rw [hQ]
    have h9 := fin9 (P := fun u9 : Int32 × (Nat → Int32) × (Nat → Int32) × Int32 × Int32 × (Nat → Int32) × (Nat → Int32) => ((c_trial_row 11) - (c_now_row 11)) = u9.1 ∧ va_P E.1 vwCl (w_X7_walk E a_ a_tape a_reader a_scripts a_now a_trial a_kept a_book a_keptBook a_history a_draws a_refused a_now_row a_now_partners a_now_share a_now_leftOver a_trial_row a_trial_partners a_trial_share a_trial_leftOver c_hasImage c_now_askedCount c_now_outcome c_now_row u9.2.2.2.1 u9.2.2.2.2.1 u9.2.1 u9.2.2.1 u9.2.2.2.2.2.1 u9.2.2.2.2.2.2) H ∧ va_D A (w_X7_walk E a_ a_tape a_reader a_scripts a_now a_trial a_kept a_book a_keptBook a_history a_draws a_refused a_now_row a_now_partners a_now_share a_now_leftOver a_trial_row a_trial_partners a_trial_share a_trial_leftOver c_hasImage c_now_askedCount c_now_outcome c_now_row u9.2.2.2.1 u9.2.2.2.2.1 u9.2.1 u9.2.2.1 u9.2.2.2.2.2.1 u9.2.2.2.2.2.2)) hF ⟨rfl, hP, hD⟩
    obtain ⟨e9_0, hP9, hD9⟩ := h9
    exact W.iret (v := (c_trial_row 11) - (c_now_row 11)) hx hb hr (fun tt ht hW => ⟨⟨_, (), rfl, e9_0, ht ▸ hP9, hD9⟩, hS.F ht⟩) hS.2.2 dX7_walk_141
  replace hF := inn c_28_0 hF
  rcases Classical.em (p5 = (1 : Int32)) with c_28_1 | c_28_1
  ·
    replace hF := ip c_28_1 hF
    refine lv_tableIn (off := 50) (tgt := 142) hx hb dX7_walk_92 (by rw [c_28_1]; decide) (by rw [c_28_1]; decide) (by rw [c_28_1]; decide) (by decide) ?_
    refine lv_aload_n hx hb dX7_walk_142 rfl (lv_at hl 0 rfl) ?_
    refine gt_X7_4 (v := .ref a_trial) hx hb hts i_f_X7_walk_X7 hown hK hP 0 rfl (hts (.fieldLink RX7 39 "HushWatch" "trial" "LHushWatch$State;") (List.mem_of_getElem? (i := 2) rfl)) rfl dX7_walk_143 ?_
    refine va_getN (D := E.1) (ci := 6) (v := .ref a_trial_row) (C := RX5) (T := TX5) (N := 6) hx hb hts i_f_X7_walk_X5 hown hK hP 3 rfl rfl 0 (by decide) (nx hN 12 rfl) (fun _ h9 => h9) rfl dX7_walk_146 ?_
    refine lv_bipush (v := 12) hx hb dX7_walk_149 (by decide) ?_
    refine va_iald hx hb hK hP 4 0 rfl rfl (vin rfl) dX7_walk_151 ?_
    refine W.eq (g2 := F0 m 152 ls [.int (c_trial_row 12)]) rfl ?_
    refine lv_aload_n hx hb dX7_walk_152 rfl (lv_at hl 0 rfl) ?_
    refine gt_X7_3 (v := .ref a_now) hx hb hts i_f_X7_walk_X7 hown hK hP 0 rfl (hts (.fieldLink RX7 35 "HushWatch" "now" "LHushWatch$State;") (List.mem_of_getElem? (i := 1) rfl)) rfl dX7_walk_153 ?_
    refine va_getN (D := E.1) (ci := 6) (v := .ref a_now_row) (C := RX5) (T := TX5) (N := 6) hx hb hts i_f_X7_walk_X5 hown hK hP 1 rfl rfl 0 (by decide) (nx hN 12 rfl) (fun _ h9 => h9) rfl dX7_walk_156 ?_
    refine lv_bipush (v := 12) hx hb dX7_walk_159 (by decide) ?_
    refine va_iald hx hb hK hP 2 0 rfl rfl (vin rfl) dX7_walk_161 ?_
    refine W.eq (g2 := F0 m 162 ls [.int (c_now_row 12), .int (c_trial_row 12)]) rfl ?_
    refine lv_isub hx hb dX7_walk_162 ?_
    rw [hQ]
    have h9 := fin9 (P := fun u9 : Int32 × (Nat → Int32) × (Nat → Int32) × Int32 × Int32 × (Nat → Int32) × (Nat → Int32) => ((c_trial_row 12) - (c_now_row 12)) = u9.1 ∧ va_P E.1 vwCl (w_X7_walk E a_ a_tape a_reader a_scripts a_now a_trial a_kept a_book a_keptBook a_history a_draws a_refused a_now_row a_now_partners a_now_share a_now_leftOver a_trial_row a_trial_partners a_trial_share a_trial_leftOver c_hasImage c_now_askedCount c_now_outcome c_now_row u9.2.2.2.1 u9.2.2.2.2.1 u9.2.1 u9.2.2.1 u9.2.2.2.2.2.1 u9.2.2.2.2.2.2) H ∧ va_D A (w_X7_walk E a_ a_tape a_reader a_scripts a_now a_trial a_kept a_book a_keptBook a_history a_draws a_refused a_now_row a_now_partners a_now_share a_now_leftOver a_trial_row a_trial_partners a_trial_share a_trial_leftOver c_hasImage c_now_askedCount c_now_outcome c_now_row u9.2.2.2.1 u9.2.2.2.2.1 u9.2.1 u9.2.2.1 u9.2.2.2.2.2.1 u9.2.2.2.2.2.2)) hF ⟨rfl, hP, hD⟩
    obtain ⟨e9_0, hP9, hD9⟩ := h9
    exact W.iret (v := (c_trial_row 12) - (c_now_row 12)) hx hb hr (fun tt ht hW => ⟨⟨_, (), rfl, e9_0, ht ▸ hP9, hD9⟩, hS.F ht⟩) hS.2.2 dX7_walk_163
  replace hF := inn c_28_1 hF
  rcases Classical.em (p5 = (2 : Int32)) with c_28_2 | c_28_2
  ·
    replace hF := ip c_28_2 hF
    refine lv_tableIn (off := 72) (tgt := 164) hx hb dX7_walk_92 (by rw [c_28_2]; decide) (by rw [c_28_2]; decide) (by rw [c_28_2]; decide) (by decide) ?_
    refine lv_iload hx hb dX7_walk_164 (lv_at hl 2 rfl) ?_
    rw [hQ]
    have h9 := fin9 (P := fun u9 : Int32 × (Nat → Int32) × (Nat → Int32) × Int32 × Int32 × (Nat → Int32) × (Nat → Int32) => x6 = u9.1 ∧ va_P E.1 vwCl (w_X7_walk E a_ a_tape a_reader a_scripts a_now a_trial a_kept a_book a_keptBook a_history a_draws a_refused a_now_row a_now_partners a_now_share a_now_leftOver a_trial_row a_trial_partners a_trial_share a_trial_leftOver c_hasImage c_now_askedCount c_now_outcome c_now_row u9.2.2.2.1 u9.2.2.2.2.1 u9.2.1 u9.2.2.1 u9.2.2.2.2.2.1 u9.2.2.2.2.2.2) H ∧ va_D A (w_X7_walk E a_ a_tape a_reader a_scripts a_now a_trial a_kept a_book a_keptBook a_history a_draws a_refused a_now_row a_now_partners a_now_share a_now_leftOver a_trial_row a_trial_partners a_trial_share a_trial_leftOver c_hasImage c_now_askedCount c_now_outcome c_now_row u9.2.2.2.1 u9.2.2.2.2.1 u9.2.1 u9.2.2.1 u9.2.2.2.2.2.1 u9.2.2.2.2.2.2)) hF ⟨rfl, hP, hD⟩
    obtain ⟨e9_0, hP9, hD9⟩ := h9
    exact W.iret (v := x6) hx hb hr (fun tt ht hW => ⟨⟨_, (), rfl, e9_0, ht ▸ hP9, hD9⟩, hS.F ht⟩) hS.2.2 dX7_walk_166
  replace hF := inn c_28_2 hF
  refine lv_tableOut (tgt := 167) hx hb dX7_walk_92 (by have t0 : (0 : Int32).toInt = 0 := (by decide); have t1 : (1 : Int32).toInt = 1 := (by decide); have t2 : (2 : Int32).toInt = 2 := (by decide); simp only [← Int32.toInt_inj, t0, t1, t2] at c_28_0 c_28_1 c_28_2; omega) (by decide) ?_
  refine lv_iconst (v := -1) hx hb dX7_walk_167 (by decide) ?_
  rw [hQ]
  have h9 := fin9 (P := fun u9 : Int32 × (Nat → Int32) × (Nat → Int32) × Int32 × Int32 × (Nat → Int32) × (Nat → Int32) => (-1 : Int32) = u9.1 ∧ va_P E.1 vwCl (w_X7_walk E a_ a_tape a_reader a_scripts a_now a_trial a_kept a_book a_keptBook a_history a_draws a_refused a_now_row a_now_partners a_now_share a_now_leftOver a_trial_row a_trial_partners a_trial_share a_trial_leftOver c_hasImage c_now_askedCount c_now_outcome c_now_row u9.2.2.2.1 u9.2.2.2.2.1 u9.2.1 u9.2.2.1 u9.2.2.2.2.2.1 u9.2.2.2.2.2.2) H ∧ va_D A (w_X7_walk E a_ a_tape a_reader a_scripts a_now a_trial a_kept a_book a_keptBook a_history a_draws a_refused a_now_row a_now_partners a_now_share a_now_leftOver a_trial_row a_trial_partners a_trial_share a_trial_leftOver c_hasImage c_now_askedCount c_now_outcome c_now_row u9.2.2.2.1 u9.2.2.2.2.1 u9.2.1 u9.2.2.1 u9.2.2.2.2.2.1 u9.2.2.2.2.2.2)) hF ⟨rfl, hP, hD⟩
  obtain ⟨e9_0, hP9, hD9⟩ := h9
  exact W.iret (v := (-1 : Int32)) hx hb hr (fun tt ht hW => ⟨⟨_, (), rfl, e9_0, ht ▸ hP9, hD9⟩, hS.F ht⟩) hS.2.2 dX7_walk_168

set_option maxHeartbeats 4000000 in
set_option maxRecDepth 100000 in
theorem f_X7_walk (l : Launch) (E : EE) (sz : Nat) (K : Nat) {a_ a_tape a_reader a_scripts a_now a_trial a_kept a_book a_keptBook a_history a_draws a_refused a_now_row a_now_partners a_now_share a_now_leftOver a_trial_row a_trial_partners a_trial_share a_trial_leftOver : Nat} {p1 : Int32} {p2 : Int32} {p3 : Int32} {p4 : Int32} {p5 : Int32} {c_hasImage : Int32} {c_now_askedCount : Int32} {c_now_outcome : Int32} {c_now_row : Nat → Int32} {c_trial_askedCount : Int32} {c_trial_outcome : Int32} {c_trial_row : Nat → Int32} {c_trial_partners : Nat → Int32} {c_trial_share : Nat → Int32} {c_trial_leftOver : Nat → Int32} {rr : Int32} {n_trial_row : Nat → Int32} {n_trial_partners : Nat → Int32} {n_trial_askedCount : Int32} {n_trial_outcome : Int32} {n_trial_share : Nat → Int32} {n_trial_leftOver : Nat → Int32} (hF : F_X7_walk K p1 p2 p3 p4 p5 c_now_row c_trial_row c_trial_partners c_trial_askedCount c_trial_outcome c_trial_share c_trial_leftOver = some (rr, n_trial_row, n_trial_partners, n_trial_askedCount, n_trial_outcome, n_trial_share, n_trial_leftOver)) : Met l yX7_walk v_f_X7_walk (({ frames := 5, cells := 0, slots := 0, locals := 124 } : Room)) (va_Pc [.ref a_, .int p1, .int p2, .int p3, .int p4, .int p5] (pW E sz (w_X7_walk E a_ a_tape a_reader a_scripts a_now a_trial a_kept a_book a_keptBook a_history a_draws a_refused a_now_row a_now_partners a_now_share a_now_leftOver a_trial_row a_trial_partners a_trial_share a_trial_leftOver c_hasImage c_now_askedCount c_now_outcome c_now_row c_trial_askedCount c_trial_outcome c_trial_row c_trial_partners c_trial_share c_trial_leftOver))) (va_Qi (fun (q : Int32) (_u : Unit) => q = rr) (fun (_u : Unit) tt => va_P E.1 vwCl (w_X7_walk E a_ a_tape a_reader a_scripts a_now a_trial a_kept a_book a_keptBook a_history a_draws a_refused a_now_row a_now_partners a_now_share a_now_leftOver a_trial_row a_trial_partners a_trial_share a_trial_leftOver c_hasImage c_now_askedCount c_now_outcome c_now_row n_trial_askedCount n_trial_outcome n_trial_row n_trial_partners n_trial_share n_trial_leftOver) tt.heap ∧ va_D (va_A (w_X7_walk E a_ a_tape a_reader a_scripts a_now a_trial a_kept a_book a_keptBook a_history a_draws a_refused a_now_row a_now_partners a_now_share a_now_leftOver a_trial_row a_trial_partners a_trial_share a_trial_leftOver c_hasImage c_now_askedCount c_now_outcome c_now_row c_trial_askedCount c_trial_outcome c_trial_row c_trial_partners c_trial_share c_trial_leftOver) sz) (w_X7_walk E a_ a_tape a_reader a_scripts a_now a_trial a_kept a_book a_keptBook a_history a_draws a_refused a_now_row a_now_partners a_now_share a_now_leftOver a_trial_row a_trial_partners a_trial_share a_trial_leftOver c_hasImage c_now_askedCount c_now_outcome c_now_row n_trial_askedCount n_trial_outcome n_trial_row n_trial_partners n_trial_share n_trial_leftOver)) (va_A (w_X7_walk E a_ a_tape a_reader a_scripts a_now a_trial a_kept a_book a_keptBook a_history a_draws a_refused a_now_row a_now_partners a_now_share a_now_leftOver a_trial_row a_trial_partners a_trial_share a_trial_leftOver c_hasImage c_now_askedCount c_now_outcome c_now_row c_trial_askedCount c_trial_outcome c_trial_row c_trial_partners c_trial_share c_trial_leftOver) sz)) 0 0 (va_A (w_X7_walk E a_ a_tape a_reader a_scripts a_now a_trial a_kept a_book a_keptBook a_history a_draws a_refused a_now_row a_now_partners a_now_share a_now_leftOver a_trial_row a_trial_partners a_trial_share a_trial_leftOver c_hasImage c_now_askedCount c_now_outcome c_now_row c_trial_askedCount c_trial_outcome c_trial_row c_trial_partners c_trial_share c_trial_leftOver) sz) := by
  refine Met.ofW (cc := cX7_walk) (maxL := 8) (ret := (some .int)) (by decide) rfl ?_
  intro p e s m args below meth c s₁ B hml hv
  obtain ⟨rfl, hsz, ⟨hK, hN⟩, hP, hD0⟩ := hv
  have hx := B.exec
  have hb := B.bytes
  have hr := B.returns
  have hts := atoms_spec (ws := v_f_X7_walk) B.pre
  have hown : s.vm.findClass RX7 = some m.cls := own_of hd_X7_walk.1 (findClass_of_methodNamed B.named)
  have hlocks : meth.locks = false := B.notSynchronized
  subst hsz
  have hD := hD0.self (sz := s.heap.size)
  generalize hAe : va_A (w_X7_walk E a_ a_tape a_reader a_scripts a_now a_trial a_kept a_book a_keptBook a_history a_draws a_refused a_now_row a_now_partners a_now_share a_now_leftOver a_trial_row a_trial_partners a_trial_share a_trial_leftOver c_hasImage c_now_askedCount c_now_outcome c_now_row c_trial_askedCount c_trial_outcome c_trial_row c_trial_partners c_trial_share c_trial_leftOver) s.heap.size = A at hD ⊢
  have hA : ∀ q : Nat, s.heap.size ≤ q → A q := fun q h => by rw [← hAe]; exact Or.inr h
  have hS : va_S A s.heap s.heap [] := va_S.rf
  have hl := lv_entry ([.ref a_, .int p1, .int p2, .int p3, .int p4, .int p5]) (n := 8) (Nat.le_of_ble_eq_true rfl)
  rw [lg_entry_eq]
  generalize (lg_sl ([.ref a_, .int p1, .int p2, .int p3, .int p4, .int p5]) ++ List.replicate (8 - (lg_sl ([.ref a_, .int p1, .int p2, .int p3, .int p4, .int p5])).length) Slot.unset).toArray = ls at hl ⊢
  have hl : lv_has ls 8 [(0, .ref a_), (1, .int p1), (2, .int p2), (3, .int p3), (4, .int p4), (5, .int p5)] := hl
  obtain ⟨Q, hQ⟩ : ∃ Q : State → Prop, Q = MQ below (va_Qi (fun (q : Int32) (_u : Unit) => q = rr) (fun (_u : Unit) tt => va_P E.1 vwCl (w_X7_walk E a_ a_tape a_reader a_scripts a_now a_trial a_kept a_book a_keptBook a_history a_draws a_refused a_now_row a_now_partners a_now_share a_now_leftOver a_trial_row a_trial_partners a_trial_share a_trial_leftOver c_hasImage c_now_askedCount c_now_outcome c_now_row n_trial_askedCount n_trial_outcome n_trial_row n_trial_partners n_trial_share n_trial_leftOver) tt.heap ∧ va_D A (w_X7_walk E a_ a_tape a_reader a_scripts a_now a_trial a_kept a_book a_keptBook a_history a_draws a_refused a_now_row a_now_partners a_now_share a_now_leftOver a_trial_row a_trial_partners a_trial_share a_trial_leftOver c_hasImage c_now_askedCount c_now_outcome c_now_row n_trial_askedCount n_trial_outcome n_trial_row n_trial_partners n_trial_share n_trial_leftOver)) A) #[Value.ref a_, Value.int p1, Value.int p2, Value.int p3, Value.int p4, Value.int p5] s 0 0 A := ⟨_, rfl⟩
  rw [← hQ]
  change W p l e ({ frames := 5, cells := 0, slots := 0, locals := 124 } : Room) s m #[Value.ref a_, Value.int p1, Value.int p2, Value.int p3, Value.int p4, Value.int p5] below meth c s.heap [] 0 0 Q (F0 m 0 ls [])
  suffices hh9 : ∀ (H : Heap) (locs : List Loc), va_P E.1 vwCl (w_X7_walk E a_ a_tape a_reader a_scripts a_now a_trial a_kept a_book a_keptBook a_history a_draws a_refused a_now_row a_now_partners a_now_share a_now_leftOver a_trial_row a_trial_partners a_trial_share a_trial_leftOver c_hasImage c_now_askedCount c_now_outcome c_now_row c_trial_askedCount c_trial_outcome c_trial_row c_trial_partners c_trial_share c_trial_leftOver) H → va_D A (w_X7_walk E a_ a_tape a_reader a_scripts a_now a_trial a_kept a_book a_keptBook a_history a_draws a_refused a_now_row a_now_partners a_now_share a_now_leftOver a_trial_row a_trial_partners a_trial_share a_trial_leftOver c_hasImage c_now_askedCount c_now_outcome c_now_row c_trial_askedCount c_trial_outcome c_trial_row c_trial_partners c_trial_share c_trial_leftOver) → va_S A s.heap H locs → W p l e ({ frames := 5, cells := 0, slots := 0, locals := 124 } : Room) s m #[Value.ref a_, Value.int p1, Value.int p2, Value.int p3, Value.int p4, Value.int p5] below meth c H locs 0 0 Q (F0 m 0 ls []) from hh9 s.heap [] hP hD hS
  clear hP hD hS
  intro H locs hP hD hS
  replace hP : va_P E.1 vwCl [(a_, .inr (8, [.ref a_tape, .ref a_reader, .ref a_scripts, .ref a_now, .ref a_trial, .ref a_kept, .ref a_book, .ref a_keptBook, .ref a_history, .ref a_draws, .ref a_refused, .int c_hasImage])), (a_now, .inr (6, [.ref a_now_row, .ref a_now_partners, .int c_now_askedCount, .int c_now_outcome, .ref a_now_share, .ref a_now_leftOver])), (a_now_row, .inl (E.2.1, 81, .inl c_now_row)), (a_trial, .inr (6, [.ref a_trial_row, .ref a_trial_partners, .int c_trial_askedCount, .int c_trial_outcome, .ref a_trial_share, .ref a_trial_leftOver])), (a_trial_row, .inl (E.2.1, 81, .inl c_trial_row)), (a_trial_partners, .inl (E.2.1, 8, .inl c_trial_partners)), (a_trial_share, .inl (E.2.1, 2, .inl c_trial_share)), (a_trial_leftOver, .inl (E.2.1, 2, .inl c_trial_leftOver))] H := hP
  replace hD : va_D A [(a_, .inr (8, [.ref a_tape, .ref a_reader, .ref a_scripts, .ref a_now, .ref a_trial, .ref a_kept, .ref a_book, .ref a_keptBook, .ref a_history, .ref a_draws, .ref a_refused, .int c_hasImage])), (a_now, .inr (6, [.ref a_now_row, .ref a_now_partners, .int c_now_askedCount, .int c_now_outcome, .ref a_now_share, .ref a_now_leftOver])), (a_now_row, .inl (E.2.1, 81, .inl c_now_row)), (a_trial, .inr (6, [.ref a_trial_row, .ref a_trial_partners, .int c_trial_askedCount, .int c_trial_outcome, .ref a_trial_share, .ref a_trial_leftOver])), (a_trial_row, .inl (E.2.1, 81, .inl c_trial_row)), (a_trial_partners, .inl (E.2.1, 8, .inl c_trial_partners)), (a_trial_share, .inl (E.2.1, 2, .inl c_trial_share)), (a_trial_leftOver, .inl (E.2.1, 2, .inl c_trial_leftOver))] := hD
  unfold F_X7_walk at hF
  refine lv_iload hx hb dX7_walk_0 (lv_at hl 4 rfl) ?_
  refine lv_iconst (v := 1) hx hb dX7_walk_2 (by decide) ?_
  refine lv_icmp_lt (tgt := 28) hx hb dX7_walk_3 (by decide) (fun c_1 => ?_) (fun c_1 => ?_)
  ·
    replace hF := ip c_1 hF
    refine lv_iconst (v := -1) hx hb dX7_walk_28 (by decide) ?_
    rw [hQ]
    have h9 := fin9 (P := fun u9 : Int32 × (Nat → Int32) × (Nat → Int32) × Int32 × Int32 × (Nat → Int32) × (Nat → Int32) => (-1 : Int32) = u9.1 ∧ va_P E.1 vwCl (w_X7_walk E a_ a_tape a_reader a_scripts a_now a_trial a_kept a_book a_keptBook a_history a_draws a_refused a_now_row a_now_partners a_now_share a_now_leftOver a_trial_row a_trial_partners a_trial_share a_trial_leftOver c_hasImage c_now_askedCount c_now_outcome c_now_row u9.2.2.2.1 u9.2.2.2.2.1 u9.2.1 u9.2.2.1 u9.2.2.2.2.2.1 u9.2.2.2.2.2.2) H ∧ va_D A (w_X7_walk E a_ a_tape a_reader a_scripts a_now a_trial a_kept a_book a_keptBook a_history a_draws a_refused a_now_row a_now_partners a_now_share a_now_leftOver a_trial_row a_trial_partners a_trial_share a_trial_leftOver c_hasImage c_now_askedCount c_now_outcome c_now_row u9.2.2.2.1 u9.2.2.2.2.1 u9.2.1 u9.2.2.1 u9.2.2.2.2.2.1 u9.2.2.2.2.2.2)) hF ⟨rfl, hP, hD⟩
    obtain ⟨e9_0, hP9, hD9⟩ := h9
    exact W.iret (v := (-1 : Int32)) hx hb hr (fun tt ht hW => ⟨⟨_, (), rfl, e9_0, ht ▸ hP9, hD9⟩, hS.F ht⟩) hS.2.2 dX7_walk_29
  ·
    replace hF := inn c_1 hF
    refine lv_iload hx hb dX7_walk_6 (lv_at hl 4 rfl) ?_
    refine lv_bipush (v := 99) hx hb dX7_walk_8 (by decide) ?_
    refine lv_icmp_gt (tgt := 28) hx hb dX7_walk_10 (by decide) (fun c_2 => ?_) (fun c_2 => ?_)
    ·
      replace hF := ip c_2 hF
      refine lv_iconst (v := -1) hx hb dX7_walk_28 (by decide) ?_
      rw [hQ]
      have h9 := fin9 (P := fun u9 : Int32 × (Nat → Int32) × (Nat → Int32) × Int32 × Int32 × (Nat → Int32) × (Nat → Int32) => (-1 : Int32) = u9.1 ∧ va_P E.1 vwCl (w_X7_walk E a_ a_tape a_reader a_scripts a_now a_trial a_kept a_book a_keptBook a_history a_draws a_refused a_now_row a_now_partners a_now_share a_now_leftOver a_trial_row a_trial_partners a_trial_share a_trial_leftOver c_hasImage c_now_askedCount c_now_outcome c_now_row u9.2.2.2.1 u9.2.2.2.2.1 u9.2.1 u9.2.2.1 u9.2.2.2.2.2.1 u9.2.2.2.2.2.2) H ∧ va_D A (w_X7_walk E a_ a_tape a_reader a_scripts a_now a_trial a_kept a_book a_keptBook a_history a_draws a_refused a_now_row a_now_partners a_now_share a_now_leftOver a_trial_row a_trial_partners a_trial_share a_trial_leftOver c_hasImage c_now_askedCount c_now_outcome c_now_row u9.2.2.2.1 u9.2.2.2.2.1 u9.2.1 u9.2.2.1 u9.2.2.2.2.2.1 u9.2.2.2.2.2.2)) hF ⟨rfl, hP, hD⟩
      obtain ⟨e9_0, hP9, hD9⟩ := h9
      exact W.iret (v := (-1 : Int32)) hx hb hr (fun tt ht hW => ⟨⟨_, (), rfl, e9_0, ht ▸ hP9, hD9⟩, hS.F ht⟩) hS.2.2 dX7_walk_29
    ·
      replace hF := inn c_2 hF
      refine lv_aload_n hx hb dX7_walk_13 rfl (lv_at hl 0 rfl) ?_
      refine gt_X7_3 (v := .ref a_now) hx hb hts i_f_X7_walk_X7 hown hK hP 0 rfl (hts (.fieldLink RX7 35 "HushWatch" "now" "LHushWatch$State;") (List.mem_of_getElem? (i := 1) rfl)) rfl dX7_walk_14 ?_
      refine lv_iconst (v := 0) hx hb dX7_walk_17 (by decide) ?_
      refine lv_iload_n hx hb dX7_walk_18 rfl (lv_at hl 1 rfl) ?_
      refine lv_iload_n hx hb dX7_walk_19 rfl (lv_at hl 2 rfl) ?_
      refine lv_iload_n hx hb dX7_walk_20 rfl (lv_at hl 3 rfl) ?_
      replace hF := bd1_s hF
      obtain ⟨r_3, hc_4, hF⟩ := hF
      have hPc : va_P E.1 vwCl (w_X5_refusal E a_now a_now_row a_now_partners a_now_share a_now_leftOver c_now_askedCount c_now_outcome c_now_row) H := hP.sub (ws' := [(a_now, .inr (6, [.ref a_now_row, .ref a_now_partners, .int c_now_askedCount, .int c_now_outcome, .ref a_now_share, .ref a_now_leftOver])), (a_now_row, .inl (E.2.1, 81, .inl c_now_row))]) [1, 2] rfl
      have hrc := va_recv hK hPc (ci := 6) (q0 := 0) rfl rfl
      refine pE_i (va_runV (As := [.int (0 : Int32), .int p1, .int p2, .int p3]) (rest := [])  ⟨hx, hb, hml, hown, hts⟩ (f_X5_refusal l E (a_ := a_now) (a_row := a_now_row) (a_partners := a_now_partners) (a_share := a_now_share) (a_leftOver := a_now_leftOver) (p1 := (0 : Int32)) (p2 := p1) (p3 := p2) (p4 := p3) (c_askedCount := c_now_askedCount) (c_outcome := c_now_outcome) (c_row := c_now_row) hc_4) (cwV 4 hts g_f_X7_walk_f_X5_refusal_220 rfl rfl rfl hd_X5_refusal ⟨Nat.le_of_ble_eq_true rfl, Nat.le_of_ble_eq_true rfl⟩) ⟨pP.blind, hrc, (pP.pre ⟨hK, hN⟩ hPc)⟩ rfl rfl hl.1 rfl (lv_room (Nat.le_of_ble_eq_true rfl)) dX7_walk_21 ⟨Nat.le_of_ble_eq_true rfl, Nat.le_of_ble_eq_true rfl⟩) ?_
      refine lv_iconst (v := -1) hx hb dX7_walk_24 (by decide) ?_
      refine lv_icmp_eq (tgt := 30) hx hb dX7_walk_25 (by decide) (fun c_5 => ?_) (fun c_5 => ?_)
      ·
        replace hF := ip c_5 hF
        refine lv_aload_n hx hb dX7_walk_30 rfl (lv_at hl 0 rfl) ?_
        refine gt_X7_4 (v := .ref a_trial) hx hb hts i_f_X7_walk_X7 hown hK hP 0 rfl (hts (.fieldLink RX7 39 "HushWatch" "trial" "LHushWatch$State;") (List.mem_of_getElem? (i := 2) rfl)) rfl dX7_walk_31 ?_
        refine lv_aload_n hx hb dX7_walk_34 rfl (lv_at hl 0 rfl) ?_
        refine gt_X7_3 (v := .ref a_now) hx hb hts i_f_X7_walk_X7 hown hK hP 0 rfl (hts (.fieldLink RX7 35 "HushWatch" "now" "LHushWatch$State;") (List.mem_of_getElem? (i := 1) rfl)) rfl dX7_walk_35 ?_
        replace hF := bd1_s hF
        obtain ⟨w_6, hc_7, hF⟩ := hF
        obtain ⟨hPc, hDc, hFc⟩ := wcut (wc := (w_X5_copyFrom E a_trial a_trial_row a_trial_partners a_trial_share a_trial_leftOver a_now a_now_row a_now_partners a_now_share a_now_leftOver c_trial_askedCount c_trial_outcome c_trial_row c_now_askedCount c_now_outcome c_now_row)) hP hD hS hA [3, 4, 1, 2] (by decide) rfl
        have hrc := va_recv hK hPc (ci := 6) (q0 := 0) rfl rfl
        refine cE_v (wc := (w_X5_copyFrom E a_trial a_trial_row a_trial_partners a_trial_share a_trial_leftOver a_now a_now_row a_now_partners a_now_share a_now_leftOver c_trial_askedCount c_trial_outcome c_trial_row c_now_askedCount c_now_outcome c_now_row)) (wr := [(a_, .inr (8, [.ref a_tape, .ref a_reader, .ref a_scripts, .ref a_now, .ref a_trial, .ref a_kept, .ref a_book, .ref a_keptBook, .ref a_history, .ref a_draws, .ref a_refused, .int c_hasImage])), (a_trial_partners, .inl (E.2.1, 8, .inl c_trial_partners)), (a_trial_share, .inl (E.2.1, 2, .inl c_trial_share)), (a_trial_leftOver, .inl (E.2.1, 2, .inl c_trial_leftOver))]) (w1 := (w_X5_copyFrom E a_trial a_trial_row a_trial_partners a_trial_share a_trial_leftOver a_now a_now_row a_now_partners a_now_share a_now_leftOver c_trial_askedCount c_trial_outcome w_6 c_now_askedCount c_now_outcome c_now_row)) (va_runV (As := [.ref a_now]) (rest := [])  ⟨hx, hb, hml, hown, hts⟩ (f_X5_copyFrom l E H.size (a_ := a_trial) (a_row := a_trial_row) (a_partners := a_trial_partners) (a_share := a_trial_share) (a_leftOver := a_trial_leftOver) (a_o1 := a_now) (a_o1_row := a_now_row) (a_o1_partners := a_now_partners) (a_o1_share := a_now_share) (a_o1_leftOver := a_now_leftOver) (c_askedCount := c_trial_askedCount) (c_outcome := c_trial_outcome) (c_row := c_trial_row) (c_o1_askedCount := c_now_askedCount) (c_o1_outcome := c_now_outcome) (c_o1_row := c_now_row) hc_7) (cwV 1 hts g_f_X7_walk_f_X5_copyFrom_237 rfl rfl rfl hd_X5_copyFrom ⟨Nat.le_of_ble_eq_true rfl, Nat.le_of_ble_eq_true rfl⟩) ⟨pW.blind, hrc, (pW.pre ⟨hK, hN⟩ hPc hDc)⟩ rfl rfl hl.1 rfl (lv_room (Nat.le_of_ble_eq_true rfl)) dX7_walk_38 ⟨Nat.le_of_ble_eq_true rfl, Nat.le_of_ble_eq_true rfl⟩) hS hFc hP hD [3, 4, 1, 2] [0, 5, 6, 7] rfl rfl (by decide) (by decide) (fun H locs hP hD hS => ?_)
        replace hP : va_P E.1 vwCl [(a_, .inr (8, [.ref a_tape, .ref a_reader, .ref a_scripts, .ref a_now, .ref a_trial, .ref a_kept, .ref a_book, .ref a_keptBook, .ref a_history, .ref a_draws, .ref a_refused, .int c_hasImage])), (a_trial_partners, .inl (E.2.1, 8, .inl c_trial_partners)), (a_trial_share, .inl (E.2.1, 2, .inl c_trial_share)), (a_trial_leftOver, .inl (E.2.1, 2, .inl c_trial_leftOver)), (a_trial, .inr (6, [.ref a_trial_row, .ref a_trial_partners, .int c_trial_askedCount, .int c_trial_outcome, .ref a_trial_share, .ref a_trial_leftOver])), (a_trial_row, .inl (E.2.1, 81, .inl w_6)), (a_now, .inr (6, [.ref a_now_row, .ref a_now_partners, .int c_now_askedCount, .int c_now_outcome, .ref a_now_share, .ref a_now_leftOver])), (a_now_row, .inl (E.2.1, 81, .inl c_now_row))] H := hP
        replace hD : va_D A [(a_, .inr (8, [.ref a_tape, .ref a_reader, .ref a_scripts, .ref a_now, .ref a_trial, .ref a_kept, .ref a_book, .ref a_keptBook, .ref a_history, .ref a_draws, .ref a_refused, .int c_hasImage])), (a_trial_partners, .inl (E.2.1, 8, .inl c_trial_partners)), (a_trial_share, .inl (E.2.1, 2, .inl c_trial_share)), (a_trial_leftOver, .inl (E.2.1, 2, .inl c_trial_leftOver)), (a_trial, .inr (6, [.ref a_trial_row, .ref a_trial_partners, .int c_trial_askedCount, .int c_trial_outcome, .ref a_trial_share, .ref a_trial_leftOver])), (a_trial_row, .inl (E.2.1, 81, .inl w_6)), (a_now, .inr (6, [.ref a_now_row, .ref a_now_partners, .int c_now_askedCount, .int c_now_outcome, .ref a_now_share, .ref a_now_leftOver])), (a_now_row, .inl (E.2.1, 81, .inl c_now_row))] := hD
        refine lv_iconst (v := 0) hx hb dX7_walk_41 (by decide) ?_
        refine lv_istore (lv' := [(6, .int (0 : Int32)), (0, .ref a_), (1, .int p1), (2, .int p2), (3, .int p3), (4, .int p4), (5, .int p5)]) hx hb dX7_walk_42 hl (by decide) rfl (fun ls hl => ?_)
        refine lv_iconst (v := 0) hx hb dX7_walk_44 (by decide) ?_
        refine lv_istore (lv' := [(7, .int (0 : Int32)), (6, .int (0 : Int32)), (0, .ref a_), (1, .int p1), (2, .int p2), (3, .int p3), (4, .int p4), (5, .int p5)]) hx hb dX7_walk_45 hl (by decide) rfl (fun ls hl => ?_)
        replace hF := bd7_s hF
        obtain ⟨x6_20, c_trial_row_21, c_trial_partners_22, c_trial_askedCount_23, c_trial_outcome_24, c_trial_share_25, c_trial_leftOver_26, hL_27, hF⟩ := hF
        refine lw_X7_walk_47 l E K (p1 := p1) (p2 := p2) (p3 := p3) (p4 := p4) (p5 := p5) (c_hasImage := c_hasImage) (c_now_askedCount := c_now_askedCount) (c_now_outcome := c_now_outcome) (c_now_row := c_now_row) hx hb hml hown hts hK hN hA K (0 : Int32) (0 : Int32) w_6 c_trial_partners c_trial_askedCount c_trial_outcome c_trial_share c_trial_leftOver x6_20 c_trial_row_21 c_trial_partners_22 c_trial_askedCount_23 c_trial_outcome_24 c_trial_share_25 c_trial_leftOver_26 hL_27 ?_ H locs ls (hP.sub [0, 6, 7, 4, 5, 1, 2, 3] rfl) (hD.sub [0, 6, 7, 4, 5, 1, 2, 3] (by decide) rfl) hS (lv_sub hl [2, 3, 4, 5, 6, 7, 1, 0] rfl)
        ·
          intro H locs ls hP hD hS hl
          replace hP : va_P E.1 vwCl [(a_, .inr (8, [.ref a_tape, .ref a_reader, .ref a_scripts, .ref a_now, .ref a_trial, .ref a_kept, .ref a_book, .ref a_keptBook, .ref a_history, .ref a_draws, .ref a_refused, .int c_hasImage])), (a_now, .inr (6, [.ref a_now_row, .ref a_now_partners, .int c_now_askedCount, .int c_now_outcome, .ref a_now_share, .ref a_now_leftOver])), (a_now_row, .inl (E.2.1, 81, .inl c_now_row)), (a_trial, .inr (6, [.ref a_trial_row, .ref a_trial_partners, .int c_trial_askedCount_23, .int c_trial_outcome_24, .ref a_trial_share, .ref a_trial_leftOver])), (a_trial_row, .inl (E.2.1, 81, .inl c_trial_row_21)), (a_trial_partners, .inl (E.2.1, 8, .inl c_trial_partners_22)), (a_trial_share, .inl (E.2.1, 2, .inl c_trial_share_25)), (a_trial_leftOver, .inl (E.2.1, 2, .inl c_trial_leftOver_26))] H := hP
          replace hD : va_D A [(a_, .inr (8, [.ref a_tape, .ref a_reader, .ref a_scripts, .ref a_now, .ref a_trial, .ref a_kept, .ref a_book, .ref a_keptBook, .ref a_history, .ref a_draws, .ref a_refused, .int c_hasImage])), (a_now, .inr (6, [.ref a_now_row, .ref a_now_partners, .int c_now_askedCount, .int c_now_outcome, .ref a_now_share, .ref a_now_leftOver])), (a_now_row, .inl (E.2.1, 81, .inl c_now_row)), (a_trial, .inr (6, [.ref a_trial_row, .ref a_trial_partners, .int c_trial_askedCount_23, .int c_trial_outcome_24, .ref a_trial_share, .ref a_trial_leftOver])), (a_trial_row, .inl (E.2.1, 81, .inl c_trial_row_21)), (a_trial_partners, .inl (E.2.1, 8, .inl c_trial_partners_22)), (a_trial_share, .inl (E.2.1, 2, .inl c_trial_share_25)), (a_trial_leftOver, .inl (E.2.1, 2, .inl c_trial_leftOver_26))] := hD
          exact j_X7_walk_90 l E K (p1 := p1) (p2 := p2) (p3 := p3) (p4 := p4) (p5 := p5) (c_hasImage := c_hasImage) (c_now_askedCount := c_now_askedCount) (c_now_outcome := c_now_outcome) (c_now_row := c_now_row) (x6 := x6_20) (c_trial_row := c_trial_row_21) (c_trial_partners := c_trial_partners_22) (c_trial_askedCount := c_trial_askedCount_23) (c_trial_outcome := c_trial_outcome_24) (c_trial_share := c_trial_share_25) (c_trial_leftOver := c_trial_leftOver_26) hx hb hml hown hts hK hN hA hr hlocks hQ hF H locs ls (hP.sub [0, 1, 2, 3, 4, 5, 6, 7] rfl) (hD.sub [0, 1, 2, 3, 4, 5, 6, 7] (by decide) rfl) hS (lv_sub hl [0, 1, 2] rfl)
      ·
        replace hF := inn c_5 hF
        refine lv_iconst (v := -1) hx hb dX7_walk_28 (by decide) ?_
        rw [hQ]
        have h9 := fin9 (P := fun u9 : Int32 × (Nat → Int32) × (Nat → Int32) × Int32 × Int32 × (Nat → Int32) × (Nat → Int32) => (-1 : Int32) = u9.1 ∧ va_P E.1 vwCl (w_X7_walk E a_ a_tape a_reader a_scripts a_now a_trial a_kept a_book a_keptBook a_history a_draws a_refused a_now_row a_now_partners a_now_share a_now_leftOver a_trial_row a_trial_partners a_trial_share a_trial_leftOver c_hasImage c_now_askedCount c_now_outcome c_now_row u9.2.2.2.1 u9.2.2.2.2.1 u9.2.1 u9.2.2.1 u9.2.2.2.2.2.1 u9.2.2.2.2.2.2) H ∧ va_D A (w_X7_walk E a_ a_tape a_reader a_scripts a_now a_trial a_kept a_book a_keptBook a_history a_draws a_refused a_now_row a_now_partners a_now_share a_now_leftOver a_trial_row a_trial_partners a_trial_share a_trial_leftOver c_hasImage c_now_askedCount c_now_outcome c_now_row u9.2.2.2.1 u9.2.2.2.2.1 u9.2.1 u9.2.2.1 u9.2.2.2.2.2.1 u9.2.2.2.2.2.2)) hF ⟨rfl, hP, hD⟩
        obtain ⟨e9_0, hP9, hD9⟩ := h9
        exact W.iret (v := (-1 : Int32)) hx hb hr (fun tt ht hW => ⟨⟨_, (), rfl, e9_0, ht ▸ hP9, hD9⟩, hS.F ht⟩) hS.2.2 dX7_walk_29

def F_X7_would (K : Nat) (p1 : Int32) (p2 : Int32) (p3 : Int32) (p4 : Int32) (c_now_row : Nat → Int32) (c_trial_row : Nat → Int32) (c_trial_partners : Nat → Int32) (c_trial_askedCount : Int32) (c_trial_outcome : Int32) (c_trial_share : Nat → Int32) (c_trial_leftOver : Nat → Int32) : Option (Int32 × (Nat → Int32) × (Nat → Int32) × Int32 × Int32 × (Nat → Int32) × (Nat → Int32)) :=
  bd1 (F_X5_refusal (0 : Int32) p1 p2 p3 c_now_row) (fun r_1 => if r_1 = (-1 : Int32) then bd7 (F_X7_tryMove K p1 p2 p3 c_now_row c_trial_row c_trial_partners c_trial_askedCount c_trial_outcome c_trial_share c_trial_leftOver) (fun r_4 w_5 w_6 w_7 w_8 w_9 w_10 => if p4 = (0 : Int32) then some (r_4, w_5, w_6, w_7, w_8, w_9, w_10) else if p4 = (1 : Int32) then some (w_7, w_5, w_6, w_7, w_8, w_9, w_10) else if p4 = (2 : Int32) then some (w_8, w_5, w_6, w_7, w_8, w_9, w_10) else some ((-1 : Int32), w_5, w_6, w_7, w_8, w_9, w_10)) else some ((-1 : Int32), c_trial_row, c_trial_partners, c_trial_askedCount, c_trial_outcome, c_trial_share, c_trial_leftOver))
abbrev w_X7_would (E : EE) (a_ a_tape a_reader a_scripts a_now a_trial a_kept a_book a_keptBook a_history a_draws a_refused a_now_row a_now_partners a_now_share a_now_leftOver a_trial_row a_trial_partners a_trial_share a_trial_leftOver : Nat) (c_hasImage : Int32) (c_now_askedCount : Int32) (c_now_outcome : Int32) (c_now_row : Nat → Int32) (c_trial_askedCount : Int32) (c_trial_outcome : Int32) (c_trial_row : Nat → Int32) (c_trial_partners : Nat → Int32) (c_trial_share : Nat → Int32) (c_trial_leftOver : Nat → Int32) : va_W := [(a_, .inr (8, [.ref a_tape, .ref a_reader, .ref a_scripts, .ref a_now, .ref a_trial, .ref a_kept, .ref a_book, .ref a_keptBook, .ref a_history, .ref a_draws, .ref a_refused, .int c_hasImage])), (a_now, .inr (6, [.ref a_now_row, .ref a_now_partners, .int c_now_askedCount, .int c_now_outcome, .ref a_now_share, .ref a_now_leftOver])), (a_now_row, .inl (E.2.1, 81, .inl c_now_row)), (a_trial, .inr (6, [.ref a_trial_row, .ref a_trial_partners, .int c_trial_askedCount, .int c_trial_outcome, .ref a_trial_share, .ref a_trial_leftOver])), (a_trial_row, .inl (E.2.1, 81, .inl c_trial_row)), (a_trial_partners, .inl (E.2.1, 8, .inl c_trial_partners)), (a_trial_share, .inl (E.2.1, 2, .inl c_trial_share)), (a_trial_leftOver, .inl (E.2.1, 2, .inl c_trial_leftOver))]
def v_f_X7_would : List Cond := .code yX7_would cX7_would 6 (some .int) :: ([.fieldLink RX7 35 "HushWatch" "now" "LHushWatch$State;", .fieldLink RX7 39 "HushWatch" "trial" "LHushWatch$State;", .methodLink RX7 220 yX5_refusal, .instanceMethod yX5_refusal, .selects RX5 yX5_refusal yX5_refusal, .initialized RX5, .methodLink RX7 224 yX7_tryMove, .instanceMethod yX7_tryMove, .selects RX7 yX7_tryMove yX7_tryMove, .initialized RX7] ++ (wsX70 ++ (v_f_X5_refusal ++ (v_f_X7_tryMove ++ (wsX50 ++ ([]))))))
theorem gw_f_X7_would : v_f_X7_would.all goodWord = true := by decide +kernel
theorem i_f_X7_would_X7 : ∀ w ∈ wsX70, w ∈ v_f_X7_would := fun _ h => List.mem_cons_of_mem _ (List.mem_append_right _ (List.mem_append_left _ h))
theorem i_f_X7_would_X5 : ∀ w ∈ wsX50, w ∈ v_f_X7_would := fun _ h => List.mem_cons_of_mem _ (List.mem_append_right _ (List.mem_append_right _ (List.mem_append_right _ (List.mem_append_right _ (List.mem_append_left _ h)))))
theorem g_f_X7_would_f_X5_refusal_220 : GoodIn v_f_X7_would (wsV RX7 220 RX5 yX5_refusal v_f_X5_refusal) := goodIn_app (goodIn_of _ (by decide +kernel)) (goodIn_sub (fun _ h => List.mem_cons_of_mem _ (List.mem_append_right _ (List.mem_append_right _ (List.mem_append_left _ h)))) gw_f_X5_refusal)
theorem g_f_X7_would_f_X7_tryMove_224 : GoodIn v_f_X7_would (wsV RX7 224 RX7 yX7_tryMove v_f_X7_tryMove) := goodIn_app (goodIn_of _ (by decide +kernel)) (goodIn_sub (fun _ h => List.mem_cons_of_mem _ (List.mem_append_right _ (List.mem_append_right _ (List.mem_append_right _ (List.mem_append_left _ h))))) gw_f_X7_tryMove)
theorem hd_X7_would : yX7_would.cls = RX7 ∧ yX7_would.cls ≠ "java/lang/invoke/MethodHandle" ∧ yX7_would.cls ≠ "java/lang/invoke/VarHandle" ∧ (parseMethodDescriptor yX7_would.desc).map (fun d => d.parameters.length) = some 4 := by decide +kernel
set_option maxHeartbeats 4000000 in
set_option maxRecDepth 100000 in
theorem f_X7_would (l : Launch) (E : EE) (sz : Nat) (K : Nat) {a_ a_tape a_reader a_scripts a_now a_trial a_kept a_book a_keptBook a_history a_draws a_refused a_now_row a_now_partners a_now_share a_now_leftOver a_trial_row a_trial_partners a_trial_share a_trial_leftOver : Nat} {p1 : Int32} {p2 : Int32} {p3 : Int32} {p4 : Int32} {c_hasImage : Int32} {c_now_askedCount : Int32} {c_now_outcome : Int32} {c_now_row : Nat → Int32} {c_trial_askedCount : Int32} {c_trial_outcome : Int32} {c_trial_row : Nat → Int32} {c_trial_partners : Nat → Int32} {c_trial_share : Nat → Int32} {c_trial_leftOver : Nat → Int32} {rr : Int32} {n_trial_row : Nat → Int32} {n_trial_partners : Nat → Int32} {n_trial_askedCount : Int32} {n_trial_outcome : Int32} {n_trial_share : Nat → Int32} {n_trial_leftOver : Nat → Int32} (hF : F_X7_would K p1 p2 p3 p4 c_now_row c_trial_row c_trial_partners c_trial_askedCount c_trial_outcome c_trial_share c_trial_leftOver = some (rr, n_trial_row, n_trial_partners, n_trial_askedCount, n_trial_outcome, n_trial_share, n_trial_leftOver)) : Met l yX7_would v_f_X7_would (({ frames := 6, cells := 0, slots := 0, locals := 147 } : Room)) (va_Pc [.ref a_, .int p1, .int p2, .int p3, .int p4] (pW E sz (w_X7_would E a_ a_tape a_reader a_scripts a_now a_trial a_kept a_book a_keptBook a_history a_draws a_refused a_now_row a_now_partners a_now_share a_now_leftOver a_trial_row a_trial_partners a_trial_share a_trial_leftOver c_hasImage c_now_askedCount c_now_outcome c_now_row c_trial_askedCount c_trial_outcome c_trial_row c_trial_partners c_trial_share c_trial_leftOver))) (va_Qi (fun (q : Int32) (_u : Unit) => q = rr) (fun (_u : Unit) tt => va_P E.1 vwCl (w_X7_would E a_ a_tape a_reader a_scripts a_now a_trial a_kept a_book a_keptBook a_history a_draws a_refused a_now_row a_now_partners a_now_share a_now_leftOver a_trial_row a_trial_partners a_trial_share a_trial_leftOver c_hasImage c_now_askedCount c_now_outcome c_now_row n_trial_askedCount n_trial_outcome n_trial_row n_trial_partners n_trial_share n_trial_leftOver) tt.heap ∧ va_D (va_A (w_X7_would E a_ a_tape a_reader a_scripts a_now a_trial a_kept a_book a_keptBook a_history a_draws a_refused a_now_row a_now_partners a_now_share a_now_leftOver a_trial_row a_trial_partners a_trial_share a_trial_leftOver c_hasImage c_now_askedCount c_now_outcome c_now_row c_trial_askedCount c_trial_outcome c_trial_row c_trial_partners c_trial_share c_trial_leftOver) sz) (w_X7_would E a_ a_tape a_reader a_scripts a_now a_trial a_kept a_book a_keptBook a_history a_draws a_refused a_now_row a_now_partners a_now_share a_now_leftOver a_trial_row a_trial_partners a_trial_share a_trial_leftOver c_hasImage c_now_askedCount c_now_outcome c_now_row n_trial_askedCount n_trial_outcome n_trial_row n_trial_partners n_trial_share n_trial_leftOver)) (va_A (w_X7_would E a_ a_tape a_reader a_scripts a_now a_trial a_kept a_book a_keptBook a_history a_draws a_refused a_now_row a_now_partners a_now_share a_now_leftOver a_trial_row a_trial_partners a_trial_share a_trial_leftOver c_hasImage c_now_askedCount c_now_outcome c_now_row c_trial_askedCount c_trial_outcome c_trial_row c_trial_partners c_trial_share c_trial_leftOver) sz)) 0 0 (va_A (w_X7_would E a_ a_tape a_reader a_scripts a_now a_trial a_kept a_book a_keptBook a_history a_draws a_refused a_now_row a_now_partners a_now_share a_now_leftOver a_trial_row a_trial_partners a_trial_share a_trial_leftOver c_hasImage c_now_askedCount c_now_outcome c_now_row c_trial_askedCount c_trial_outcome c_trial_row c_trial_partners c_trial_share c_trial_leftOver) sz) := by
  refine Met.ofW (cc := cX7_would) (maxL := 6) (ret := (some .int)) (by decide) rfl ?_
  intro p e s m args below meth c s₁ B hml hv
  obtain ⟨rfl, hsz, ⟨hK, hN⟩, hP, hD0⟩ := hv
  have hx := B.exec
  have hb := B.bytes
  have hr := B.returns
  have hts := atoms_spec (ws := v_f_X7_would) B.pre
  have hown : s.vm.findClass RX7 = some m.cls := own_of hd_X7_would.1 (findClass_of_methodNamed B.named)
  have hlocks : meth.locks = false := B.notSynchronized
  subst hsz
  have hD := hD0.self (sz := s.heap.size)
  generalize hAe : va_A (w_X7_would E a_ a_tape a_reader a_scripts a_now a_trial a_kept a_book a_keptBook a_history a_draws a_refused a_now_row a_now_partners a_now_share a_now_leftOver a_trial_row a_trial_partners a_trial_share a_trial_leftOver c_hasImage c_now_askedCount c_now_outcome c_now_row c_trial_askedCount c_trial_outcome c_trial_row c_trial_partners c_trial_share c_trial_leftOver) s.heap.size = A at hD ⊢
  have hA : ∀ q : Nat, s.heap.size ≤ q → A q := fun q h => by rw [← hAe]; exact Or.inr h
  have hS : va_S A s.heap s.heap [] := va_S.rf
  have hl := lv_entry ([.ref a_, .int p1, .int p2, .int p3, .int p4]) (n := 6) (Nat.le_of_ble_eq_true rfl)
  rw [lg_entry_eq]
  generalize (lg_sl ([.ref a_, .int p1, .int p2, .int p3, .int p4]) ++ List.replicate (6 - (lg_sl ([.ref a_, .int p1, .int p2, .int p3, .int p4])).length) Slot.unset).toArray = ls at hl ⊢
  have hl : lv_has ls 6 [(0, .ref a_), (1, .int p1), (2, .int p2), (3, .int p3), (4, .int p4)] := hl
  obtain ⟨Q, hQ⟩ : ∃ Q : State → Prop, Q = MQ below (va_Qi (fun (q : Int32) (_u : Unit) => q = rr) (fun (_u : Unit) tt => va_P E.1 vwCl (w_X7_would E a_ a_tape a_reader a_scripts a_now a_trial a_kept a_book a_keptBook a_history a_draws a_refused a_now_row a_now_partners a_now_share a_now_leftOver a_trial_row a_trial_partners a_trial_share a_trial_leftOver c_hasImage c_now_askedCount c_now_outcome c_now_row n_trial_askedCount n_trial_outcome n_trial_row n_trial_partners n_trial_share n_trial_leftOver) tt.heap ∧ va_D A (w_X7_would E a_ a_tape a_reader a_scripts a_now a_trial a_kept a_book a_keptBook a_history a_draws a_refused a_now_row a_now_partners a_now_share a_now_leftOver a_trial_row a_trial_partners a_trial_share a_trial_leftOver c_hasImage c_now_askedCount c_now_outcome c_now_row n_trial_askedCount n_trial_outcome n_trial_row n_trial_partners n_trial_share n_trial_leftOver)) A) #[Value.ref a_, Value.int p1, Value.int p2, Value.int p3, Value.int p4] s 0 0 A := ⟨_, rfl⟩
  rw [← hQ]
  change W p l e ({ frames := 6, cells := 0, slots := 0, locals := 147 } : Room) s m #[Value.ref a_, Value.int p1, Value.int p2, Value.int p3, Value.int p4] below meth c s.heap [] 0 0 Q (F0 m 0 ls [])
  suffices hh9 : ∀ (H : Heap) (locs : List Loc), va_P E.1 vwCl (w_X7_would E a_ a_tape a_reader a_scripts a_now a_trial a_kept a_book a_keptBook a_history a_draws a_refused a_now_row a_now_partners a_now_share a_now_leftOver a_trial_row a_trial_partners a_trial_share a_trial_leftOver c_hasImage c_now_askedCount c_now_outcome c_now_row c_trial_askedCount c_trial_outcome c_trial_row c_trial_partners c_trial_share c_trial_leftOver) H → va_D A (w_X7_would E a_ a_tape a_reader a_scripts a_now a_trial a_kept a_book a_keptBook a_history a_draws a_refused a_now_row a_now_partners a_now_share a_now_leftOver a_trial_row a_trial_partners a_trial_share a_trial_leftOver c_hasImage c_now_askedCount c_now_outcome c_now_row c_trial_askedCount c_trial_outcome c_trial_row c_trial_partners c_trial_share c_trial_leftOver) → va_S A s.heap H locs → W p l e ({ frames := 6, cells := 0, slots := 0, locals := 147 } : Room) s m #[Value.ref a_, Value.int p1, Value.int p2, Value.int p3, Value.int p4] below meth c H locs 0 0 Q (F0 m 0 ls []) from hh9 s.heap [] hP hD hS
  clear hP hD hS
  intro H locs hP hD hS
  replace hP : va_P E.1 vwCl [(a_, .inr (8, [.ref a_tape, .ref a_reader, .ref a_scripts, .ref a_now, .ref a_trial, .ref a_kept, .ref a_book, .ref a_keptBook, .ref a_history, .ref a_draws, .ref a_refused, .int c_hasImage])), (a_now, .inr (6, [.ref a_now_row, .ref a_now_partners, .int c_now_askedCount, .int c_now_outcome, .ref a_now_share, .ref a_now_leftOver])), (a_now_row, .inl (E.2.1, 81, .inl c_now_row)), (a_trial, .inr (6, [.ref a_trial_row, .ref a_trial_partners, .int c_trial_askedCount, .int c_trial_outcome, .ref a_trial_share, .ref a_trial_leftOver])), (a_trial_row, .inl (E.2.1, 81, .inl c_trial_row)), (a_trial_partners, .inl (E.2.1, 8, .inl c_trial_partners)), (a_trial_share, .inl (E.2.1, 2, .inl c_trial_share)), (a_trial_leftOver, .inl (E.2.1, 2, .inl c_trial_leftOver))] H := hP
  replace hD : va_D A [(a_, .inr (8, [.ref a_tape, .ref a_reader, .ref a_scripts, .ref a_now, .ref a_trial, .ref a_kept, .ref a_book, .ref a_keptBook, .ref a_history, .ref a_draws, .ref a_refused, .int c_hasImage])), (a_now, .inr (6, [.ref a_now_row, .ref a_now_partners, .int c_now_askedCount, .int c_now_outcome, .ref a_now_share, .ref a_now_leftOver])), (a_now_row, .inl (E.2.1, 81, .inl c_now_row)), (a_trial, .inr (6, [.ref a_trial_row, .ref a_trial_partners, .int c_trial_askedCount, .int c_trial_outcome, .ref a_trial_share, .ref a_trial_leftOver])), (a_trial_row, .inl (E.2.1, 81, .inl c_trial_row)), (a_trial_partners, .inl (E.2.1, 8, .inl c_trial_partners)), (a_trial_share, .inl (E.2.1, 2, .inl c_trial_share)), (a_trial_leftOver, .inl (E.2.1, 2, .inl c_trial_leftOver))] := hD
  unfold F_X7_would at hF
  refine lv_aload_n hx hb dX7_would_0 rfl (lv_at hl 0 rfl) ?_
  refine gt_X7_3 (v := .ref a_now) hx hb hts i_f_X7_would_X7 hown hK hP 0 rfl (hts (.fieldLink RX7 35 "HushWatch" "now" "LHushWatch$State;") (List.mem_of_getElem? (i := 1) rfl)) rfl dX7_would_1 ?_
  refine lv_iconst (v := 0) hx hb dX7_would_4 (by decide) ?_
  refine lv_iload_n hx hb dX7_would_5 rfl (lv_at hl 1 rfl) ?_
  refine lv_iload_n hx hb dX7_would_6 rfl (lv_at hl 2 rfl) ?_
  refine lv_iload_n hx hb dX7_would_7 rfl (lv_at hl 3 rfl) ?_
  replace hF := bd1_s hF
  obtain ⟨r_1, hc_2, hF⟩ := hF
  have hPc : va_P E.1 vwCl (w_X5_refusal E a_now a_now_row a_now_partners a_now_share a_now_leftOver c_now_askedCount c_now_outcome c_now_row) H := hP.sub (ws' := [(a_now, .inr (6, [.ref a_now_row, .ref a_now_partners, .int c_now_askedCount, .int c_now_outcome, .ref a_now_share, .ref a_now_leftOver])), (a_now_row, .inl (E.2.1, 81, .inl c_now_row))]) [1, 2] rfl
  have hrc := va_recv hK hPc (ci := 6) (q0 := 0) rfl rfl
  refine pE_i (va_runV (As := [.int (0 : Int32), .int p1, .int p2, .int p3]) (rest := [])  ⟨hx, hb, hml, hown, hts⟩ (f_X5_refusal l E (a_ := a_now) (a_row := a_now_row) (a_partners := a_now_partners) (a_share := a_now_share) (a_leftOver := a_now_leftOver) (p1 := (0 : Int32)) (p2 := p1) (p3 := p2) (p4 := p3) (c_askedCount := c_now_askedCount) (c_outcome := c_now_outcome) (c_row := c_now_row) hc_2) (cwV 4 hts g_f_X7_would_f_X5_refusal_220 rfl rfl rfl hd_X5_refusal ⟨Nat.le_of_ble_eq_true rfl, Nat.le_of_ble_eq_true rfl⟩) ⟨pP.blind, hrc, (pP.pre ⟨hK, hN⟩ hPc)⟩ rfl rfl hl.1 rfl (lv_room (Nat.le_of_ble_eq_true rfl)) dX7_would_8 ⟨Nat.le_of_ble_eq_true rfl, Nat.le_of_ble_eq_true rfl⟩) ?_
  refine lv_iconst (v := -1) hx hb dX7_would_11 (by decide) ?_
  refine lv_icmp_eq (tgt := 17) hx hb dX7_would_12 (by decide) (fun c_3 => ?_) (fun c_3 => ?_)
  ·
    replace hF := ip c_3 hF
    refine lv_aload_n hx hb dX7_would_17 rfl (lv_at hl 0 rfl) ?_
    refine lv_iload_n hx hb dX7_would_18 rfl (lv_at hl 1 rfl) ?_
    refine lv_iload_n hx hb dX7_would_19 rfl (lv_at hl 2 rfl) ?_
    refine lv_iload_n hx hb dX7_would_20 rfl (lv_at hl 3 rfl) ?_
    replace hF := bd7_s hF
    obtain ⟨r_4, w_5, w_6, w_7, w_8, w_9, w_10, hc_11, hF⟩ := hF
    obtain ⟨hPc, hDc, hFc⟩ := wcut (wc := (w_X7_tryMove E a_ a_tape a_reader a_scripts a_now a_trial a_kept a_book a_keptBook a_history a_draws a_refused a_now_row a_now_partners a_now_share a_now_leftOver a_trial_row a_trial_partners a_trial_share a_trial_leftOver c_hasImage c_now_askedCount c_now_outcome c_now_row c_trial_askedCount c_trial_outcome c_trial_row c_trial_partners c_trial_share c_trial_leftOver)) hP hD hS hA [0, 1, 2, 3, 4, 5, 6, 7] (by decide) rfl
    have hrc := va_recv hK hPc (ci := 8) (q0 := 0) rfl rfl
    refine cE_i (wc := (w_X7_tryMove E a_ a_tape a_reader a_scripts a_now a_trial a_kept a_book a_keptBook a_history a_draws a_refused a_now_row a_now_partners a_now_share a_now_leftOver a_trial_row a_trial_partners a_trial_share a_trial_leftOver c_hasImage c_now_askedCount c_now_outcome c_now_row c_trial_askedCount c_trial_outcome c_trial_row c_trial_partners c_trial_share c_trial_leftOver)) (wr := []) (w1 := (w_X7_tryMove E a_ a_tape a_reader a_scripts a_now a_trial a_kept a_book a_keptBook a_history a_draws a_refused a_now_row a_now_partners a_now_share a_now_leftOver a_trial_row a_trial_partners a_trial_share a_trial_leftOver c_hasImage c_now_askedCount c_now_outcome c_now_row w_7 w_8 w_5 w_6 w_9 w_10)) (va_runV (As := [.int p1, .int p2, .int p3]) (rest := [])  ⟨hx, hb, hml, hown, hts⟩ (f_X7_tryMove l E H.size K (a_ := a_) (a_tape := a_tape) (a_reader := a_reader) (a_scripts := a_scripts) (a_now := a_now) (a_trial := a_trial) (a_kept := a_kept) (a_book := a_book) (a_keptBook := a_keptBook) (a_history := a_history) (a_draws := a_draws) (a_refused := a_refused) (a_now_row := a_now_row) (a_now_partners := a_now_partners) (a_now_share := a_now_share) (a_now_leftOver := a_now_leftOver) (a_trial_row := a_trial_row) (a_trial_partners := a_trial_partners) (a_trial_share := a_trial_share) (a_trial_leftOver := a_trial_leftOver) (p1 := p1) (p2 := p2) (p3 := p3) (c_hasImage := c_hasImage) (c_now_askedCount := c_now_askedCount) (c_now_outcome := c_now_outcome) (c_now_row := c_now_row) (c_trial_askedCount := c_trial_askedCount) (c_trial_outcome := c_trial_outcome) (c_trial_row := c_trial_row) (c_trial_partners := c_trial_partners) (c_trial_share := c_trial_share) (c_trial_leftOver := c_trial_leftOver) hc_11) (cwV 3 hts g_f_X7_would_f_X7_tryMove_224 rfl rfl rfl hd_X7_tryMove ⟨Nat.le_of_ble_eq_true rfl, Nat.le_of_ble_eq_true rfl⟩) ⟨pW.blind, hrc, (pW.pre ⟨hK, hN⟩ hPc hDc)⟩ rfl rfl hl.1 rfl (lv_room (Nat.le_of_ble_eq_true rfl)) dX7_would_21 ⟨Nat.le_of_ble_eq_true rfl, Nat.le_of_ble_eq_true rfl⟩) hS hFc hP hD [0, 1, 2, 3, 4, 5, 6, 7] [] rfl rfl (by decide) (by decide) (fun H locs hP hD hS => ?_)
    replace hP : va_P E.1 vwCl [(a_, .inr (8, [.ref a_tape, .ref a_reader, .ref a_scripts, .ref a_now, .ref a_trial, .ref a_kept, .ref a_book, .ref a_keptBook, .ref a_history, .ref a_draws, .ref a_refused, .int c_hasImage])), (a_now, .inr (6, [.ref a_now_row, .ref a_now_partners, .int c_now_askedCount, .int c_now_outcome, .ref a_now_share, .ref a_now_leftOver])), (a_now_row, .inl (E.2.1, 81, .inl c_now_row)), (a_trial, .inr (6, [.ref a_trial_row, .ref a_trial_partners, .int w_7, .int w_8, .ref a_trial_share, .ref a_trial_leftOver])), (a_trial_row, .inl (E.2.1, 81, .inl w_5)), (a_trial_partners, .inl (E.2.1, 8, .inl w_6)), (a_trial_share, .inl (E.2.1, 2, .inl w_9)), (a_trial_leftOver, .inl (E.2.1, 2, .inl w_10))] H := hP
    replace hD : va_D A [(a_, .inr (8, [.ref a_tape, .ref a_reader, .ref a_scripts, .ref a_now, .ref a_trial, .ref a_kept, .ref a_book, .ref a_keptBook, .ref a_history, .ref a_draws, .ref a_refused, .int c_hasImage])), (a_now, .inr (6, [.ref a_now_row, .ref a_now_partners, .int c_now_askedCount, .int c_now_outcome, .ref a_now_share, .ref a_now_leftOver])), (a_now_row, .inl (E.2.1, 81, .inl c_now_row)), (a_trial, .inr (6, [.ref a_trial_row, .ref a_trial_partners, .int w_7, .int w_8, .ref a_trial_share, .ref a_trial_leftOver])), (a_trial_row, .inl (E.2.1, 81, .inl w_5)), (a_trial_partners, .inl (E.2.1, 8, .inl w_6)), (a_trial_share, .inl (E.2.1, 2, .inl w_9)), (a_trial_leftOver, .inl (E.2.1, 2, .inl w_10))] := hD
    refine lv_istore (lv' := [(5, .int r_4), (0, .ref a_), (1, .int p1), (2, .int p2), (3, .int p3), (4, .int p4)]) hx hb dX7_would_24 hl (by decide) rfl (fun ls hl => ?_)
    refine lv_iload hx hb dX7_would_26 (lv_at hl 5 rfl) ?_
    rcases Classical.em (p4 = (0 : Int32)) with c_12_0 | c_12_0
    ·
      replace hF := ip c_12_0 hF
      refine lv_tableIn (off := 28) (tgt := 56) hx hb dX7_would_28 (by rw [c_12_0]; decide) (by rw [c_12_0]; decide) (by rw [c_12_0]; decide) (by decide) ?_
      refine lv_iload hx hb dX7_would_56 (lv_at hl 0 rfl) ?_
      rw [hQ]
      have h9 := fin9 (P := fun u9 : Int32 × (Nat → Int32) × (Nat → Int32) × Int32 × Int32 × (Nat → Int32) × (Nat → Int32) => r_4 = u9.1 ∧ va_P E.1 vwCl (w_X7_would E a_ a_tape a_reader a_scripts a_now a_trial a_kept a_book a_keptBook a_history a_draws a_refused a_now_row a_now_partners a_now_share a_now_leftOver a_trial_row a_trial_partners a_trial_share a_trial_leftOver c_hasImage c_now_askedCount c_now_outcome c_now_row u9.2.2.2.1 u9.2.2.2.2.1 u9.2.1 u9.2.2.1 u9.2.2.2.2.2.1 u9.2.2.2.2.2.2) H ∧ va_D A (w_X7_would E a_ a_tape a_reader a_scripts a_now a_trial a_kept a_book a_keptBook a_history a_draws a_refused a_now_row a_now_partners a_now_share a_now_leftOver a_trial_row a_trial_partners a_trial_share a_trial_leftOver c_hasImage c_now_askedCount c_now_outcome c_now_row u9.2.2.2.1 u9.2.2.2.2.1 u9.2.1 u9.2.2.1 u9.2.2.2.2.2.1 u9.2.2.2.2.2.2)) hF ⟨rfl, hP, hD⟩
      obtain ⟨e9_0, hP9, hD9⟩ := h9
      exact W.iret (v := r_4) hx hb hr (fun tt ht hW => ⟨⟨_, (), rfl, e9_0, ht ▸ hP9, hD9⟩, hS.F ht⟩) hS.2.2 dX7_would_58
    replace hF := inn c_12_0 hF
    rcases Classical.em (p4 = (1 : Int32)) with c_12_1 | c_12_1
    ·
      replace hF := ip c_12_1 hF
      refine lv_tableIn (off := 31) (tgt := 59) hx hb dX7_would_28 (by rw [c_12_1]; decide) (by rw [c_12_1]; decide) (by rw [c_12_1]; decide) (by decide) ?_
      refine lv_aload_n hx hb dX7_would_59 rfl (lv_at hl 1 rfl) ?_
      refine gt_X7_4 (v := .ref a_trial) hx hb hts i_f_X7_would_X7 hown hK hP 0 rfl (hts (.fieldLink RX7 39 "HushWatch" "trial" "LHushWatch$State;") (List.mem_of_getElem? (i := 2) rfl)) rfl dX7_would_60 ?_
      refine va_getN (D := E.1) (ci := 6) (v := .int w_7) (C := RX5) (T := TX5) (N := 6) hx hb hts i_f_X7_would_X5 hown hK hP 3 rfl rfl 2 (by decide) (nx hN 14 rfl) (fun _ h9 => h9) rfl dX7_would_63 ?_
      rw [hQ]
      have h9 := fin9 (P := fun u9 : Int32 × (Nat → Int32) × (Nat → Int32) × Int32 × Int32 × (Nat → Int32) × (Nat → Int32) => w_7 = u9.1 ∧ va_P E.1 vwCl (w_X7_would E a_ a_tape a_reader a_scripts a_now a_trial a_kept a_book a_keptBook a_history a_draws a_refused a_now_row a_now_partners a_now_share a_now_leftOver a_trial_row a_trial_partners a_trial_share a_trial_leftOver c_hasImage c_now_askedCount c_now_outcome c_now_row u9.2.2.2.1 u9.2.2.2.2.1 u9.2.1 u9.2.2.1 u9.2.2.2.2.2.1 u9.2.2.2.2.2.2) H ∧ va_D A (w_X7_would E a_ a_tape a_reader a_scripts a_now a_trial a_kept a_book a_keptBook a_history a_draws a_refused a_now_row a_now_partners a_now_share a_now_leftOver a_trial_row a_trial_partners a_trial_share a_trial_leftOver c_hasImage c_now_askedCount c_now_outcome c_now_row u9.2.2.2.1 u9.2.2.2.2.1 u9.2.1 u9.2.2.1 u9.2.2.2.2.2.1 u9.2.2.2.2.2.2)) hF ⟨rfl, hP, hD⟩
      obtain ⟨e9_0, hP9, hD9⟩ := h9
      exact W.iret (v := w_7) hx hb hr (fun tt ht hW => ⟨⟨_, (), rfl, e9_0, ht ▸ hP9, hD9⟩, hS.F ht⟩) hS.2.2 dX7_would_66
    replace hF := inn c_12_1 hF
    rcases Classical.em (p4 = (2 : Int32)) with c_12_2 | c_12_2
    ·
      replace hF := ip c_12_2 hF
      refine lv_tableIn (off := 39) (tgt := 67) hx hb dX7_would_28 (by rw [c_12_2]; decide) (by rw [c_12_2]; decide) (by rw [c_12_2]; decide) (by decide) ?_
      refine lv_aload_n hx hb dX7_would_67 rfl (lv_at hl 1 rfl) ?_
      refine gt_X7_4 (v := .ref a_trial) hx hb hts i_f_X7_would_X7 hown hK hP 0 rfl (hts (.fieldLink RX7 39 "HushWatch" "trial" "LHushWatch$State;") (List.mem_of_getElem? (i := 2) rfl)) rfl dX7_would_68 ?_
      refine va_getN (D := E.1) (ci := 6) (v := .int w_8) (C := RX5) (T := TX5) (N := 6) hx hb hts i_f_X7_would_X5 hown hK hP 3 rfl rfl 3 (by decide) (nx hN 15 rfl) (fun _ h9 => h9) rfl dX7_would_71 ?_
      rw [hQ]
      have h9 := fin9 (P := fun u9 : Int32 × (Nat → Int32) × (Nat → Int32) × Int32 × Int32 × (Nat → Int32) × (Nat → Int32) => w_8 = u9.1 ∧ va_P E.1 vwCl (w_X7_would E a_ a_tape a_reader a_scripts a_now a_trial a_kept a_book a_keptBook a_history a_draws a_refused a_now_row a_now_partners a_now_share a_now_leftOver a_trial_row a_trial_partners a_trial_share a_trial_leftOver c_hasImage c_now_askedCount c_now_outcome c_now_row u9.2.2.2.1 u9.2.2.2.2.1 u9.2.1 u9.2.2.1 u9.2.2.2.2.2.1 u9.2.2.2.2.2.2) H ∧ va_D A (w_X7_would E a_ a_tape a_reader a_scripts a_now a_trial a_kept a_book a_keptBook a_history a_draws a_refused a_now_row a_now_partners a_now_share a_now_leftOver a_trial_row a_trial_partners a_trial_share a_trial_leftOver c_hasImage c_now_askedCount c_now_outcome c_now_row u9.2.2.2.1 u9.2.2.2.2.1 u9.2.1 u9.2.2.1 u9.2.2.2.2.2.1 u9.2.2.2.2.2.2)) hF ⟨rfl, hP, hD⟩
      obtain ⟨e9_0, hP9, hD9⟩ := h9
      exact W.iret (v := w_8) hx hb hr (fun tt ht hW => ⟨⟨_, (), rfl, e9_0, ht ▸ hP9, hD9⟩, hS.F ht⟩) hS.2.2 dX7_would_74
    replace hF := inn c_12_2 hF
    refine lv_tableOut (tgt := 75) hx hb dX7_would_28 (by have t0 : (0 : Int32).toInt = 0 := (by decide); have t1 : (1 : Int32).toInt = 1 := (by decide); have t2 : (2 : Int32).toInt = 2 := (by decide); simp only [← Int32.toInt_inj, t0, t1, t2] at c_12_0 c_12_1 c_12_2; omega) (by decide) ?_
    refine lv_iconst (v := -1) hx hb dX7_would_75 (by decide) ?_
    rw [hQ]
    have h9 := fin9 (P := fun u9 : Int32 × (Nat → Int32) × (Nat → Int32) × Int32 × Int32 × (Nat → Int32) × (Nat → Int32) => (-1 : Int32) = u9.1 ∧ va_P E.1 vwCl (w_X7_would E a_ a_tape a_reader a_scripts a_now a_trial a_kept a_book a_keptBook a_history a_draws a_refused a_now_row a_now_partners a_now_share a_now_leftOver a_trial_row a_trial_partners a_trial_share a_trial_leftOver c_hasImage c_now_askedCount c_now_outcome c_now_row u9.2.2.2.1 u9.2.2.2.2.1 u9.2.1 u9.2.2.1 u9.2.2.2.2.2.1 u9.2.2.2.2.2.2) H ∧ va_D A (w_X7_would E a_ a_tape a_reader a_scripts a_now a_trial a_kept a_book a_keptBook a_history a_draws a_refused a_now_row a_now_partners a_now_share a_now_leftOver a_trial_row a_trial_partners a_trial_share a_trial_leftOver c_hasImage c_now_askedCount c_now_outcome c_now_row u9.2.2.2.1 u9.2.2.2.2.1 u9.2.1 u9.2.2.1 u9.2.2.2.2.2.1 u9.2.2.2.2.2.2)) hF ⟨rfl, hP, hD⟩
    obtain ⟨e9_0, hP9, hD9⟩ := h9
    exact W.iret (v := (-1 : Int32)) hx hb hr (fun tt ht hW => ⟨⟨_, (), rfl, e9_0, ht ▸ hP9, hD9⟩, hS.F ht⟩) hS.2.2 dX7_would_76
  ·
    replace hF := inn c_3 hF
    refine lv_iconst (v := -1) hx hb dX7_would_15 (by decide) ?_
    rw [hQ]
    have h9 := fin9 (P := fun u9 : Int32 × (Nat → Int32) × (Nat → Int32) × Int32 × Int32 × (Nat → Int32) × (Nat → Int32) => (-1 : Int32) = u9.1 ∧ va_P E.1 vwCl (w_X7_would E a_ a_tape a_reader a_scripts a_now a_trial a_kept a_book a_keptBook a_history a_draws a_refused a_now_row a_now_partners a_now_share a_now_leftOver a_trial_row a_trial_partners a_trial_share a_trial_leftOver c_hasImage c_now_askedCount c_now_outcome c_now_row u9.2.2.2.1 u9.2.2.2.2.1 u9.2.1 u9.2.2.1 u9.2.2.2.2.2.1 u9.2.2.2.2.2.2) H ∧ va_D A (w_X7_would E a_ a_tape a_reader a_scripts a_now a_trial a_kept a_book a_keptBook a_history a_draws a_refused a_now_row a_now_partners a_now_share a_now_leftOver a_trial_row a_trial_partners a_trial_share a_trial_leftOver c_hasImage c_now_askedCount c_now_outcome c_now_row u9.2.2.2.1 u9.2.2.2.2.1 u9.2.1 u9.2.2.1 u9.2.2.2.2.2.1 u9.2.2.2.2.2.2)) hF ⟨rfl, hP, hD⟩
    obtain ⟨e9_0, hP9, hD9⟩ := h9
    exact W.iret (v := (-1 : Int32)) hx hb hr (fun tt ht hW => ⟨⟨_, (), rfl, e9_0, ht ▸ hP9, hD9⟩, hS.F ht⟩) hS.2.2 dX7_would_16
end
-- 40.pub09
section
def dl_X7_years_40_pub09_0 : List (Nat × Instr × Nat) := [(37, .iload 5, 2), (39, .iload_n 1, 1), (40, .if_icmp .ge 65, 3), (43, .aload_n 0, 1), (44, .getfield 65, 3), (47, .aload_n 0, 1), (48, .getfield 35, 3), (51, .invokevirtual 117, 3), (54, .invokevirtual 177, 3), (57, .iload 4, 2), (59, .aload_n 0, 1), (60, .aload_n 0, 1), (61, .getfield 65, 3), (64, .getfield 180, 3), (67, .aload_n 0, 1), (68, .getfield 65, 3), (71, .getfield 183, 3), (74, .aload_n 0, 1), (75, .getfield 65, 3), (78, .getfield 186, 3), (81, .aload_n 0, 1), (82, .getfield 65, 3), (85, .getfield 189, 3), (88, .iconst 0, 1), (89, .invokevirtual 163, 3), (92, .iconst 0, 1), (93, .invokestatic 192, 3), (96, .iadd, 1), (97, .istore 4, 2), (99, .iinc 5 1, 3), (102, .goto (-65), 3), (0, .aload_n 0, 1), (1, .getfield 35, 3), (4, .invokevirtual 110, 3), (7, .ifCond .eq 14, 3), (21, .iconst (-1), 1), (22, .ireturn, 1), (10, .iload_n 1, 1), (11, .iconst 1, 1), (12, .if_icmp .lt 9, 3), (15, .iload_n 1, 1), (16, .bipush 40, 2), (18, .if_icmp .le 5, 3), (23, .aload_n 0, 1), (24, .getfield 65, 3), (27, .lload_n 2, 1), (28, .putfield 173, 3), (31, .iconst 0, 1), (32, .istore 4, 2), (34, .iconst 0, 1)]
set_option maxRecDepth 100000 in
theorem dall_X7_years_40_pub09_0 : dchk cX7_years dl_X7_years_40_pub09_0 = true := by decide +kernel
theorem dX7_years_37 : decode cX7_years 37 = .ok (.iload 5, 2) := dchk_at dall_X7_years_40_pub09_0 (k := 0) rfl
theorem dX7_years_39 : decode cX7_years 39 = .ok (.iload_n 1, 1) := dchk_at dall_X7_years_40_pub09_0 (k := 1) rfl
theorem dX7_years_40 : decode cX7_years 40 = .ok (.if_icmp .ge 65, 3) := dchk_at dall_X7_years_40_pub09_0 (k := 2) rfl
theorem dX7_years_43 : decode cX7_years 43 = .ok (.aload_n 0, 1) := dchk_at dall_X7_years_40_pub09_0 (k := 3) rfl
theorem dX7_years_44 : decode cX7_years 44 = .ok (.getfield 65, 3) := dchk_at dall_X7_years_40_pub09_0 (k := 4) rfl
theorem dX7_years_47 : decode cX7_years 47 = .ok (.aload_n 0, 1) := dchk_at dall_X7_years_40_pub09_0 (k := 5) rfl
theorem dX7_years_48 : decode cX7_years 48 = .ok (.getfield 35, 3) := dchk_at dall_X7_years_40_pub09_0 (k := 6) rfl
theorem dX7_years_51 : decode cX7_years 51 = .ok (.invokevirtual 117, 3) := dchk_at dall_X7_years_40_pub09_0 (k := 7) rfl
theorem dX7_years_54 : decode cX7_years 54 = .ok (.invokevirtual 177, 3) := dchk_at dall_X7_years_40_pub09_0 (k := 8) rfl
theorem dX7_years_57 : decode cX7_years 57 = .ok (.iload 4, 2) := dchk_at dall_X7_years_40_pub09_0 (k := 9) rfl
theorem dX7_years_59 : decode cX7_years 59 = .ok (.aload_n 0, 1) := dchk_at dall_X7_years_40_pub09_0 (k := 10) rfl
theorem dX7_years_60 : decode cX7_years 60 = .ok (.aload_n 0, 1) := dchk_at dall_X7_years_40_pub09_0 (k := 11) rfl
theorem dX7_years_61 : decode cX7_years 61 = .ok (.getfield 65, 3) := dchk_at dall_X7_years_40_pub09_0 (k := 12) rfl
theorem dX7_years_64 : decode cX7_years 64 = .ok (.getfield 180, 3) := dchk_at dall_X7_years_40_pub09_0 (k := 13) rfl
theorem dX7_years_67 : decode cX7_years 67 = .ok (.aload_n 0, 1) := dchk_at dall_X7_years_40_pub09_0 (k := 14) rfl
theorem dX7_years_68 : decode cX7_years 68 = .ok (.getfield 65, 3) := dchk_at dall_X7_years_40_pub09_0 (k := 15) rfl
theorem dX7_years_71 : decode cX7_years 71 = .ok (.getfield 183, 3) := dchk_at dall_X7_years_40_pub09_0 (k := 16) rfl
theorem dX7_years_74 : decode cX7_years 74 = .ok (.aload_n 0, 1) := dchk_at dall_X7_years_40_pub09_0 (k := 17) rfl
theorem dX7_years_75 : decode cX7_years 75 = .ok (.getfield 65, 3) := dchk_at dall_X7_years_40_pub09_0 (k := 18) rfl
theorem dX7_years_78 : decode cX7_years 78 = .ok (.getfield 186, 3) := dchk_at dall_X7_years_40_pub09_0 (k := 19) rfl
theorem dX7_years_81 : decode cX7_years 81 = .ok (.aload_n 0, 1) := dchk_at dall_X7_years_40_pub09_0 (k := 20) rfl
theorem dX7_years_82 : decode cX7_years 82 = .ok (.getfield 65, 3) := dchk_at dall_X7_years_40_pub09_0 (k := 21) rfl
theorem dX7_years_85 : decode cX7_years 85 = .ok (.getfield 189, 3) := dchk_at dall_X7_years_40_pub09_0 (k := 22) rfl
theorem dX7_years_88 : decode cX7_years 88 = .ok (.iconst 0, 1) := dchk_at dall_X7_years_40_pub09_0 (k := 23) rfl
theorem dX7_years_89 : decode cX7_years 89 = .ok (.invokevirtual 163, 3) := dchk_at dall_X7_years_40_pub09_0 (k := 24) rfl
theorem dX7_years_92 : decode cX7_years 92 = .ok (.iconst 0, 1) := dchk_at dall_X7_years_40_pub09_0 (k := 25) rfl
theorem dX7_years_93 : decode cX7_years 93 = .ok (.invokestatic 192, 3) := dchk_at dall_X7_years_40_pub09_0 (k := 26) rfl
theorem dX7_years_96 : decode cX7_years 96 = .ok (.iadd, 1) := dchk_at dall_X7_years_40_pub09_0 (k := 27) rfl
theorem dX7_years_97 : decode cX7_years 97 = .ok (.istore 4, 2) := dchk_at dall_X7_years_40_pub09_0 (k := 28) rfl
theorem dX7_years_99 : decode cX7_years 99 = .ok (.iinc 5 1, 3) := dchk_at dall_X7_years_40_pub09_0 (k := 29) rfl
theorem dX7_years_102 : decode cX7_years 102 = .ok (.goto (-65), 3) := dchk_at dall_X7_years_40_pub09_0 (k := 30) rfl
theorem dX7_years_0 : decode cX7_years 0 = .ok (.aload_n 0, 1) := dchk_at dall_X7_years_40_pub09_0 (k := 31) rfl
theorem dX7_years_1 : decode cX7_years 1 = .ok (.getfield 35, 3) := dchk_at dall_X7_years_40_pub09_0 (k := 32) rfl
theorem dX7_years_4 : decode cX7_years 4 = .ok (.invokevirtual 110, 3) := dchk_at dall_X7_years_40_pub09_0 (k := 33) rfl
theorem dX7_years_7 : decode cX7_years 7 = .ok (.ifCond .eq 14, 3) := dchk_at dall_X7_years_40_pub09_0 (k := 34) rfl
theorem dX7_years_21 : decode cX7_years 21 = .ok (.iconst (-1), 1) := dchk_at dall_X7_years_40_pub09_0 (k := 35) rfl
theorem dX7_years_22 : decode cX7_years 22 = .ok (.ireturn, 1) := dchk_at dall_X7_years_40_pub09_0 (k := 36) rfl
theorem dX7_years_10 : decode cX7_years 10 = .ok (.iload_n 1, 1) := dchk_at dall_X7_years_40_pub09_0 (k := 37) rfl
theorem dX7_years_11 : decode cX7_years 11 = .ok (.iconst 1, 1) := dchk_at dall_X7_years_40_pub09_0 (k := 38) rfl
theorem dX7_years_12 : decode cX7_years 12 = .ok (.if_icmp .lt 9, 3) := dchk_at dall_X7_years_40_pub09_0 (k := 39) rfl
theorem dX7_years_15 : decode cX7_years 15 = .ok (.iload_n 1, 1) := dchk_at dall_X7_years_40_pub09_0 (k := 40) rfl
theorem dX7_years_16 : decode cX7_years 16 = .ok (.bipush 40, 2) := dchk_at dall_X7_years_40_pub09_0 (k := 41) rfl
theorem dX7_years_18 : decode cX7_years 18 = .ok (.if_icmp .le 5, 3) := dchk_at dall_X7_years_40_pub09_0 (k := 42) rfl
theorem dX7_years_23 : decode cX7_years 23 = .ok (.aload_n 0, 1) := dchk_at dall_X7_years_40_pub09_0 (k := 43) rfl
theorem dX7_years_24 : decode cX7_years 24 = .ok (.getfield 65, 3) := dchk_at dall_X7_years_40_pub09_0 (k := 44) rfl
theorem dX7_years_27 : decode cX7_years 27 = .ok (.lload_n 2, 1) := dchk_at dall_X7_years_40_pub09_0 (k := 45) rfl
theorem dX7_years_28 : decode cX7_years 28 = .ok (.putfield 173, 3) := dchk_at dall_X7_years_40_pub09_0 (k := 46) rfl
theorem dX7_years_31 : decode cX7_years 31 = .ok (.iconst 0, 1) := dchk_at dall_X7_years_40_pub09_0 (k := 47) rfl
theorem dX7_years_32 : decode cX7_years 32 = .ok (.istore 4, 2) := dchk_at dall_X7_years_40_pub09_0 (k := 48) rfl
theorem dX7_years_34 : decode cX7_years 34 = .ok (.iconst 0, 1) := dchk_at dall_X7_years_40_pub09_0 (k := 49) rfl
def dl_X7_years_40_pub09_1 : List (Nat × Instr × Nat) := [(35, .istore 5, 2), (105, .iload 4, 2), (107, .ireturn, 1)]
set_option maxRecDepth 100000 in
theorem dall_X7_years_40_pub09_1 : dchk cX7_years dl_X7_years_40_pub09_1 = true := by decide +kernel
theorem dX7_years_35 : decode cX7_years 35 = .ok (.istore 5, 2) := dchk_at dall_X7_years_40_pub09_1 (k := 0) rfl
theorem dX7_years_105 : decode cX7_years 105 = .ok (.iload 4, 2) := dchk_at dall_X7_years_40_pub09_1 (k := 1) rfl
theorem dX7_years_107 : decode cX7_years 107 = .ok (.ireturn, 1) := dchk_at dall_X7_years_40_pub09_1 (k := 2) rfl
def B_X7_years_37 (K : Nat) (p1 : Int32) (x4 : Int32) (x5 : Int32) (c_now_row : Nat → Int32) (c_now_partners : Nat → Int32) (c_now_askedCount : Int32) (c_now_outcome : Int32) (c_now_share : Nat → Int32) (c_now_leftOver : Nat → Int32) (c_book_lines : Nat → Int32) (c_history_rows : Nat → Int32) (c_history_next : Int32) (c_history_held : Int32) (c_draws_x : Int64) (c_draws_sort : Int32) (c_draws_a : Int32) (c_draws_b : Int32) (c_draws_c : Int32) (c_refused : Nat → Int32) : Option ((Int32 × Int32 × (Nat → Int32) × (Nat → Int32) × Int32 × Int32 × (Nat → Int32) × (Nat → Int32) × (Nat → Int32) × (Nat → Int32) × Int32 × Int32 × Int64 × Int32 × Int32 × Int32 × Int32 × (Nat → Int32)) ⊕ (Int32 × (Nat → Int32) × (Nat → Int32) × Int32 × Int32 × (Nat → Int32) × (Nat → Int32) × (Nat → Int32) × (Nat → Int32) × Int32 × Int32 × Int64 × Int32 × Int32 × Int32 × Int32 × (Nat → Int32))) :=
  if p1 ≤ x5 then some (.inr (x4, c_now_row, c_now_partners, c_now_askedCount, c_now_outcome, c_now_share, c_now_leftOver, c_book_lines, c_history_rows, c_history_next, c_history_held, c_draws_x, c_draws_sort, c_draws_a, c_draws_b, c_draws_c, c_refused)) else bd1 (F_X5_sites c_now_row) (fun r_8 => bd5 (F_X1_pickAct r_8 c_draws_x c_draws_sort c_draws_a c_draws_b c_draws_c) (fun w_10 w_11 w_12 w_13 w_14 => bd12 (F_X7_act K w_11 w_12 w_13 w_14 (0 : Int32) c_now_row c_now_partners c_now_askedCount c_now_outcome c_now_share c_now_leftOver c_book_lines c_history_rows c_history_next c_history_held c_refused) (fun r_16 w_17 w_18 w_19 w_20 w_21 w_22 w_23 w_24 w_25 w_26 w_27 => some (.inl (x4 + (maxF r_16 (0 : Int32)), x5 + (1 : Int32), w_17, w_18, w_19, w_20, w_21, w_22, w_23, w_24, w_25, w_26, w_10, w_11, w_12, w_13, w_14, w_27)))))
def F_X7_years (K : Nat) (p1 : Int32) (p2 : Int64) (c_now_row : Nat → Int32) (c_now_partners : Nat → Int32) (c_now_askedCount : Int32) (c_now_outcome : Int32) (c_now_share : Nat → Int32) (c_now_leftOver : Nat → Int32) (c_book_lines : Nat → Int32) (c_history_rows : Nat → Int32) (c_history_next : Int32) (c_history_held : Int32) (c_draws_x : Int64) (c_draws_sort : Int32) (c_draws_a : Int32) (c_draws_b : Int32) (c_draws_c : Int32) (c_refused : Nat → Int32) : Option (Int32 × (Nat → Int32) × (Nat → Int32) × Int32 × Int32 × (Nat → Int32) × (Nat → Int32) × (Nat → Int32) × (Nat → Int32) × Int32 × Int32 × Int64 × Int32 × Int32 × Int32 × Int32 × (Nat → Int32)) :=
  bd1 (F_X5_stands c_now_row) (fun r_1 => if r_1 = (0 : Int32) then some ((-1 : Int32), c_now_row, c_now_partners, c_now_askedCount, c_now_outcome, c_now_share, c_now_leftOver, c_book_lines, c_history_rows, c_history_next, c_history_held, c_draws_x, c_draws_sort, c_draws_a, c_draws_b, c_draws_c, c_refused) else if p1 < (1 : Int32) then some ((-1 : Int32), c_now_row, c_now_partners, c_now_askedCount, c_now_outcome, c_now_share, c_now_leftOver, c_book_lines, c_history_rows, c_history_next, c_history_held, c_draws_x, c_draws_sort, c_draws_a, c_draws_b, c_draws_c, c_refused) else if p1 ≤ (40 : Int32) then bd17 (lpF (fun u9 : Int32 × Int32 × (Nat → Int32) × (Nat → Int32) × Int32 × Int32 × (Nat → Int32) × (Nat → Int32) × (Nat → Int32) × (Nat → Int32) × Int32 × Int32 × Int64 × Int32 × Int32 × Int32 × Int32 × (Nat → Int32) => B_X7_years_37 K p1 u9.1 u9.2.1 u9.2.2.1 u9.2.2.2.1 u9.2.2.2.2.1 u9.2.2.2.2.2.1 u9.2.2.2.2.2.2.1 u9.2.2.2.2.2.2.2.1 u9.2.2.2.2.2.2.2.2.1 u9.2.2.2.2.2.2.2.2.2.1 u9.2.2.2.2.2.2.2.2.2.2.1 u9.2.2.2.2.2.2.2.2.2.2.2.1 u9.2.2.2.2.2.2.2.2.2.2.2.2.1 u9.2.2.2.2.2.2.2.2.2.2.2.2.2.1 u9.2.2.2.2.2.2.2.2.2.2.2.2.2.2.1 u9.2.2.2.2.2.2.2.2.2.2.2.2.2.2.2.1 u9.2.2.2.2.2.2.2.2.2.2.2.2.2.2.2.2.1 u9.2.2.2.2.2.2.2.2.2.2.2.2.2.2.2.2.2) K ((0 : Int32), (0 : Int32), c_now_row, c_now_partners, c_now_askedCount, c_now_outcome, c_now_share, c_now_leftOver, c_book_lines, c_history_rows, c_history_next, c_history_held, p2, c_draws_sort, c_draws_a, c_draws_b, c_draws_c, c_refused)) (fun x4_29 c_now_row_30 c_now_partners_31 c_now_askedCount_32 c_now_outcome_33 c_now_share_34 c_now_leftOver_35 c_book_lines_36 c_history_rows_37 c_history_next_38 c_history_held_39 c_draws_x_40 c_draws_sort_41 c_draws_a_42 c_draws_b_43 c_draws_c_44 c_refused_45 => some (x4_29, c_now_row_30, c_now_partners_31, c_now_askedCount_32, c_now_outcome_33, c_now_share_34, c_now_leftOver_35, c_book_lines_36, c_history_rows_37, c_history_next_38, c_history_held_39, c_draws_x_40, c_draws_sort_41, c_draws_a_42, c_draws_b_43, c_draws_c_44, c_refused_45)) else some ((-1 : Int32), c_now_row, c_now_partners, c_now_askedCount, c_now_outcome, c_now_share, c_now_leftOver, c_book_lines, c_history_rows, c_history_next, c_history_held, c_draws_x, c_draws_sort, c_draws_a, c_draws_b, c_draws_c, c_refused))
abbrev w_X7_years (E : EE) (a_ a_tape a_reader a_scripts a_now a_trial a_kept a_book a_keptBook a_history a_draws a_refused a_now_row a_now_partners a_now_share a_now_leftOver a_book_lines a_history_rows : Nat) (c_hasImage : Int32) (c_now_askedCount : Int32) (c_now_outcome : Int32) (c_now_row : Nat → Int32) (c_now_partners : Nat → Int32) (c_now_share : Nat → Int32) (c_now_leftOver : Nat → Int32) (c_book_lines : Nat → Int32) (c_history_next : Int32) (c_history_held : Int32) (c_history_rows : Nat → Int32) (c_draws_x : Int64) (c_draws_sort : Int32) (c_draws_a : Int32) (c_draws_b : Int32) (c_draws_c : Int32) (c_refused : Nat → Int32) : va_W := [(a_, .inr (8, [.ref a_tape, .ref a_reader, .ref a_scripts, .ref a_now, .ref a_trial, .ref a_kept, .ref a_book, .ref a_keptBook, .ref a_history, .ref a_draws, .ref a_refused, .int c_hasImage])), (a_now, .inr (6, [.ref a_now_row, .ref a_now_partners, .int c_now_askedCount, .int c_now_outcome, .ref a_now_share, .ref a_now_leftOver])), (a_now_row, .inl (E.2.1, 81, .inl c_now_row)), (a_now_partners, .inl (E.2.1, 8, .inl c_now_partners)), (a_now_share, .inl (E.2.1, 2, .inl c_now_share)), (a_now_leftOver, .inl (E.2.1, 2, .inl c_now_leftOver)), (a_book, .inr (1, [.ref a_book_lines])), (a_book_lines, .inl (E.2.1, 300, .inl c_book_lines)), (a_history, .inr (3, [.ref a_history_rows, .int c_history_next, .int c_history_held])), (a_history_rows, .inl (E.2.1, 3240, .inl c_history_rows)), (a_draws, .inr (2, [.long c_draws_x, .int c_draws_sort, .int c_draws_a, .int c_draws_b, .int c_draws_c])), (a_refused, .inl (E.2.1, 3, .inl c_refused))]
def v_f_X7_years : List Cond := .code yX7_years cX7_years 6 (some .int) :: ([.fieldLink RX7 35 "HushWatch" "now" "LHushWatch$State;", .fieldLink RX7 65 "HushWatch" "draws" "LHushWatch$Draws;", .methodLink RX7 192 Lib.Math.max.name, .static Lib.Math.max.name, .initialized "java/lang/Math", .code Lib.Math.max.name Lib.Math.max.code 2 (some .int), .methodLink RX7 110 yX5_stands, .instanceMethod yX5_stands, .selects RX5 yX5_stands yX5_stands, .initialized RX5, .methodLink RX7 117 yX5_sites, .instanceMethod yX5_sites, .selects RX5 yX5_sites yX5_sites, .methodLink RX7 177 yX1_pickAct, .instanceMethod yX1_pickAct, .selects RX1 yX1_pickAct yX1_pickAct, .initialized RX1, .methodLink RX7 163 yX7_act, .instanceMethod yX7_act, .selects RX7 yX7_act yX7_act, .initialized RX7] ++ (wsX70 ++ (v_f_X5_stands ++ (wsX10 ++ (v_f_X5_sites ++ (v_f_X1_pickAct ++ (v_f_X7_act ++ ([]))))))))
theorem gw_f_X7_years : v_f_X7_years.all goodWord = true := by decide +kernel
theorem i_f_X7_years_X7 : ∀ w ∈ wsX70, w ∈ v_f_X7_years := fun _ h => List.mem_cons_of_mem _ (List.mem_append_right _ (List.mem_append_left _ h))
theorem i_f_X7_years_X1 : ∀ w ∈ wsX10, w ∈ v_f_X7_years := fun _ h => List.mem_cons_of_mem _ (List.mem_append_right _ (List.mem_append_right _ (List.mem_append_right _ (List.mem_append_left _ h))))
theorem g_f_X7_years_f_X5_stands_110 : GoodIn v_f_X7_years (wsV RX7 110 RX5 yX5_stands v_f_X5_stands) := goodIn_app (goodIn_of _ (by decide +kernel)) (goodIn_sub (fun _ h => List.mem_cons_of_mem _ (List.mem_append_right _ (List.mem_append_right _ (List.mem_append_left _ h)))) gw_f_X5_stands)
theorem g_f_X7_years_f_X5_sites_117 : GoodIn v_f_X7_years (wsV RX7 117 RX5 yX5_sites v_f_X5_sites) := goodIn_app (goodIn_of _ (by decide +kernel)) (goodIn_sub (fun _ h => List.mem_cons_of_mem _ (List.mem_append_right _ (List.mem_append_right _ (List.mem_append_right _ (List.mem_append_right _ (List.mem_append_left _ h)))))) gw_f_X5_sites)
theorem g_f_X7_years_f_X1_pickAct_177 : GoodIn v_f_X7_years (wsV RX7 177 RX1 yX1_pickAct v_f_X1_pickAct) := goodIn_app (goodIn_of _ (by decide +kernel)) (goodIn_sub (fun _ h => List.mem_cons_of_mem _ (List.mem_append_right _ (List.mem_append_right _ (List.mem_append_right _ (List.mem_append_right _ (List.mem_append_right _ (List.mem_append_left _ h))))))) gw_f_X1_pickAct)
theorem g_f_X7_years_f_X7_act_163 : GoodIn v_f_X7_years (wsV RX7 163 RX7 yX7_act v_f_X7_act) := goodIn_app (goodIn_of _ (by decide +kernel)) (goodIn_sub (fun _ h => List.mem_cons_of_mem _ (List.mem_append_right _ (List.mem_append_right _ (List.mem_append_right _ (List.mem_append_right _ (List.mem_append_right _ (List.mem_append_right _ (List.mem_append_left _ h)))))))) gw_f_X7_act)
theorem hd_X7_years : yX7_years.cls = RX7 ∧ yX7_years.cls ≠ "java/lang/invoke/MethodHandle" ∧ yX7_years.cls ≠ "java/lang/invoke/VarHandle" ∧ (parseMethodDescriptor yX7_years.desc).map (fun d => d.parameters.length) = some 2 := by decide +kernel
set_option maxHeartbeats 4000000 in
set_option maxRecDepth 100000 in
theorem wb_X7_years_37 {p : Program} (l : Launch) {e : Env} {s : State} {m : MethodId} {below : List Frame} {meth : Method} {c : Code} {Q : State → Prop} (E : EE) (K : Nat) {a_ a_tape a_reader a_scripts a_now a_trial a_kept a_book a_keptBook a_history a_draws a_refused a_now_row a_now_partners a_now_share a_now_leftOver a_book_lines a_history_rows : Nat} {p1 : Int32} {p2 : Int64} {c_hasImage : Int32} {x4 : Int32} {x5 : Int32} {c_now_row : Nat → Int32} {c_now_partners : Nat → Int32} {c_now_askedCount : Int32} {c_now_outcome : Int32} {c_now_share : Nat → Int32} {c_now_leftOver : Nat → Int32} {c_book_lines : Nat → Int32} {c_history_rows : Nat → Int32} {c_history_next : Int32} {c_history_held : Int32} {c_draws_x : Int64} {c_draws_sort : Int32} {c_draws_a : Int32} {c_draws_b : Int32} {c_draws_c : Int32} {c_refused : Nat → Int32} (hx : p.tables.exec = Jvm.exec) (hb : c.code = cX7_years) (hml : c.maxLocals = 6) (hown : s.vm.findClass RX7 = some m.cls) (hts : ∀ w ∈ v_f_X7_years, w.before #[Value.ref a_, Value.int p1, Value.long p2] s = true) (hK : va_K E.1 vwCl (TY E) s) (hN : NX s) {A : Nat → Prop} (hA : ∀ q : Nat, s.heap.size ≤ q → A q) {xx : (Int32 × Int32 × (Nat → Int32) × (Nat → Int32) × Int32 × Int32 × (Nat → Int32) × (Nat → Int32) × (Nat → Int32) × (Nat → Int32) × Int32 × Int32 × Int64 × Int32 × Int32 × Int32 × Int32 × (Nat → Int32)) ⊕ (Int32 × (Nat → Int32) × (Nat → Int32) × Int32 × Int32 × (Nat → Int32) × (Nat → Int32) × (Nat → Int32) × (Nat → Int32) × Int32 × Int32 × Int64 × Int32 × Int32 × Int32 × Int32 × (Nat → Int32))} (hC : ∀ (x4 : Int32), ∀ (x5 : Int32), ∀ (c_now_row : Nat → Int32), ∀ (c_now_partners : Nat → Int32), ∀ (c_now_askedCount : Int32), ∀ (c_now_outcome : Int32), ∀ (c_now_share : Nat → Int32), ∀ (c_now_leftOver : Nat → Int32), ∀ (c_book_lines : Nat → Int32), ∀ (c_history_rows : Nat → Int32), ∀ (c_history_next : Int32), ∀ (c_history_held : Int32), ∀ (c_draws_x : Int64), ∀ (c_draws_sort : Int32), ∀ (c_draws_a : Int32), ∀ (c_draws_b : Int32), ∀ (c_draws_c : Int32), ∀ (c_refused : Nat → Int32), xx = .inl (x4, x5, c_now_row, c_now_partners, c_now_askedCount, c_now_outcome, c_now_share, c_now_leftOver, c_book_lines, c_history_rows, c_history_next, c_history_held, c_draws_x, c_draws_sort, c_draws_a, c_draws_b, c_draws_c, c_refused) → ∀ (H : Heap) (locs : List Loc) (ls : Array Slot), va_P E.1 vwCl (w_X7_years E a_ a_tape a_reader a_scripts a_now a_trial a_kept a_book a_keptBook a_history a_draws a_refused a_now_row a_now_partners a_now_share a_now_leftOver a_book_lines a_history_rows c_hasImage c_now_askedCount c_now_outcome c_now_row c_now_partners c_now_share c_now_leftOver c_book_lines c_history_next c_history_held c_history_rows c_draws_x c_draws_sort c_draws_a c_draws_b c_draws_c c_refused) H → va_D A (w_X7_years E a_ a_tape a_reader a_scripts a_now a_trial a_kept a_book a_keptBook a_history a_draws a_refused a_now_row a_now_partners a_now_share a_now_leftOver a_book_lines a_history_rows c_hasImage c_now_askedCount c_now_outcome c_now_row c_now_partners c_now_share c_now_leftOver c_book_lines c_history_next c_history_held c_history_rows c_draws_x c_draws_sort c_draws_a c_draws_b c_draws_c c_refused) → va_S A s.heap H locs → lv_has ls 6 [(0, .ref a_), (1, .int p1), (4, .int x4), (5, .int x5)] → W p l e ({ frames := 6, cells := 0, slots := 0, locals := 151 } : Room) s m #[Value.ref a_, Value.int p1, Value.long p2] below meth c H locs 0 0 Q (F0 m 37 ls [])) (hE : ∀ (x4 : Int32), ∀ (c_now_row : Nat → Int32), ∀ (c_now_partners : Nat → Int32), ∀ (c_now_askedCount : Int32), ∀ (c_now_outcome : Int32), ∀ (c_now_share : Nat → Int32), ∀ (c_now_leftOver : Nat → Int32), ∀ (c_book_lines : Nat → Int32), ∀ (c_history_rows : Nat → Int32), ∀ (c_history_next : Int32), ∀ (c_history_held : Int32), ∀ (c_draws_x : Int64), ∀ (c_draws_sort : Int32), ∀ (c_draws_a : Int32), ∀ (c_draws_b : Int32), ∀ (c_draws_c : Int32), ∀ (c_refused : Nat → Int32), xx = .inr (x4, c_now_row, c_now_partners, c_now_askedCount, c_now_outcome, c_now_share, c_now_leftOver, c_book_lines, c_history_rows, c_history_next, c_history_held, c_draws_x, c_draws_sort, c_draws_a, c_draws_b, c_draws_c, c_refused) → ((∀ (H : Heap) (locs : List Loc) (ls : Array Slot), va_P E.1 vwCl (w_X7_years E a_ a_tape a_reader a_scripts a_now a_trial a_kept a_book a_keptBook a_history a_draws a_refused a_now_row a_now_partners a_now_share a_now_leftOver a_book_lines a_history_rows c_hasImage c_now_askedCount c_now_outcome c_now_row c_now_partners c_now_share c_now_leftOver c_book_lines c_history_next c_history_held c_history_rows c_draws_x c_draws_sort c_draws_a c_draws_b c_draws_c c_refused) H → va_D A (w_X7_years E a_ a_tape a_reader a_scripts a_now a_trial a_kept a_book a_keptBook a_history a_draws a_refused a_now_row a_now_partners a_now_share a_now_leftOver a_book_lines a_history_rows c_hasImage c_now_askedCount c_now_outcome c_now_row c_now_partners c_now_share c_now_leftOver c_book_lines c_history_next c_history_held c_history_rows c_draws_x c_draws_sort c_draws_a c_draws_b c_draws_c c_refused) → va_S A s.heap H locs → lv_has ls 6 [(4, .int x4)] → W p l e ({ frames := 6, cells := 0, slots := 0, locals := 151 } : Room) s m #[Value.ref a_, Value.int p1, Value.long p2] below meth c H locs 0 0 Q (F0 m 105 ls [])))) (hF : B_X7_years_37 K p1 x4 x5 c_now_row c_now_partners c_now_askedCount c_now_outcome c_now_share c_now_leftOver c_book_lines c_history_rows c_history_next c_history_held c_draws_x c_draws_sort c_draws_a c_draws_b c_draws_c c_refused = some xx) : ∀ (H : Heap) (locs : List Loc) (ls : Array Slot), va_P E.1 vwCl (w_X7_years E a_ a_tape a_reader a_scripts a_now a_trial a_kept a_book a_keptBook a_history a_draws a_refused a_now_row a_now_partners a_now_share a_now_leftOver a_book_lines a_history_rows c_hasImage c_now_askedCount c_now_outcome c_now_row c_now_partners c_now_share c_now_leftOver c_book_lines c_history_next c_history_held c_history_rows c_draws_x c_draws_sort c_draws_a c_draws_b c_draws_c c_refused) H → va_D A (w_X7_years E a_ a_tape a_reader a_scripts a_now a_trial a_kept a_book a_keptBook a_history a_draws a_refused a_now_row a_now_partners a_now_share a_now_leftOver a_book_lines a_history_rows c_hasImage c_now_askedCount c_now_outcome c_now_row c_now_partners c_now_share c_now_leftOver c_book_lines c_history_next c_history_held c_history_rows c_draws_x c_draws_sort c_draws_a c_draws_b c_draws_c c_refused) → va_S A s.heap H locs → lv_has ls 6 [(0, .ref a_), (1, .int p1), (4, .int x4), (5, .int x5)] → W p l e ({ frames := 6, cells := 0, slots := 0, locals := 151 } : Room) s m #[Value.ref a_, Value.int p1, Value.long p2] below meth c H locs 0 0 Q (F0 m 37 ls []) := by
  unfold B_X7_years_37 at hF
  intro H locs ls hP hD hS hl
  replace hP : va_P E.1 vwCl [(a_, .inr (8, [.ref a_tape, .ref a_reader, .ref a_scripts, .ref a_now, .ref a_trial, .ref a_kept, .ref a_book, .ref a_keptBook, .ref a_history, .ref a_draws, .ref a_refused, .int c_hasImage])), (a_now, .inr (6, [.ref a_now_row, .ref a_now_partners, .int c_now_askedCount, .int c_now_outcome, .ref a_now_share, .ref a_now_leftOver])), (a_now_row, .inl (E.2.1, 81, .inl c_now_row)), (a_now_partners, .inl (E.2.1, 8, .inl c_now_partners)), (a_now_share, .inl (E.2.1, 2, .inl c_now_share)), (a_now_leftOver, .inl (E.2.1, 2, .inl c_now_leftOver)), (a_book, .inr (1, [.ref a_book_lines])), (a_book_lines, .inl (E.2.1, 300, .inl c_book_lines)), (a_history, .inr (3, [.ref a_history_rows, .int c_history_next, .int c_history_held])), (a_history_rows, .inl (E.2.1, 3240, .inl c_history_rows)), (a_draws, .inr (2, [.long c_draws_x, .int c_draws_sort, .int c_draws_a, .int c_draws_b, .int c_draws_c])), (a_refused, .inl (E.2.1, 3, .inl c_refused))] H := hP
  replace hD : va_D A [(a_, .inr (8, [.ref a_tape, .ref a_reader, .ref a_scripts, .ref a_now, .ref a_trial, .ref a_kept, .ref a_book, .ref a_keptBook, .ref a_history, .ref a_draws, .ref a_refused, .int c_hasImage])), (a_now, .inr (6, [.ref a_now_row, .ref a_now_partners, .int c_now_askedCount, .int c_now_outcome, .ref a_now_share, .ref a_now_leftOver])), (a_now_row, .inl (E.2.1, 81, .inl c_now_row)), (a_now_partners, .inl (E.2.1, 8, .inl c_now_partners)), (a_now_share, .inl (E.2.1, 2, .inl c_now_share)), (a_now_leftOver, .inl (E.2.1, 2, .inl c_now_leftOver)), (a_book, .inr (1, [.ref a_book_lines])), (a_book_lines, .inl (E.2.1, 300, .inl c_book_lines)), (a_history, .inr (3, [.ref a_history_rows, .int c_history_next, .int c_history_held])), (a_history_rows, .inl (E.2.1, 3240, .inl c_history_rows)), (a_draws, .inr (2, [.long c_draws_x, .int c_draws_sort, .int c_draws_a, .int c_draws_b, .int c_draws_c])), (a_refused, .inl (E.2.1, 3, .inl c_refused))] := hD
  refine lv_iload hx hb dX7_years_37 (lv_at hl 3 rfl) ?_
  refine lv_iload_n hx hb dX7_years_39 rfl (lv_at hl 1 rfl) ?_
  refine lv_icmp_ge (tgt := 105) hx hb dX7_years_40 (by decide) (fun c_7 => ?_) (fun c_7 => ?_)
  ·
    replace hF := ip c_7 hF
    cases hF
    exact hE x4 c_now_row c_now_partners c_now_askedCount c_now_outcome c_now_share c_now_leftOver c_book_lines c_history_rows c_history_next c_history_held c_draws_x c_draws_sort c_draws_a c_draws_b c_draws_c c_refused rfl H locs ls (hP.sub [0, 1, 2, 3, 4, 5, 6, 7, 8, 9, 10, 11] rfl) (hD.sub [0, 1, 2, 3, 4, 5, 6, 7, 8, 9, 10, 11] (by decide) rfl) hS (lv_sub hl [2] rfl)
  ·
    replace hF := inn c_7 hF
    refine lv_aload_n hx hb dX7_years_43 rfl (lv_at hl 0 rfl) ?_
    refine gt_X7_9 (v := .ref a_draws) hx hb hts i_f_X7_years_X7 hown hK hP 0 rfl (hts (.fieldLink RX7 65 "HushWatch" "draws" "LHushWatch$Draws;") (List.mem_of_getElem? (i := 2) rfl)) rfl dX7_years_44 ?_
    refine lv_aload_n hx hb dX7_years_47 rfl (lv_at hl 0 rfl) ?_
    refine gt_X7_3 (v := .ref a_now) hx hb hts i_f_X7_years_X7 hown hK hP 0 rfl (hts (.fieldLink RX7 35 "HushWatch" "now" "LHushWatch$State;") (List.mem_of_getElem? (i := 1) rfl)) rfl dX7_years_48 ?_
    replace hF := bd1_s hF
    obtain ⟨r_8, hc_9, hF⟩ := hF
    have hPc : va_P E.1 vwCl (w_X5_sites E a_now a_now_row a_now_partners a_now_share a_now_leftOver c_now_askedCount c_now_outcome c_now_row) H := hP.sub (ws' := [(a_now, .inr (6, [.ref a_now_row, .ref a_now_partners, .int c_now_askedCount, .int c_now_outcome, .ref a_now_share, .ref a_now_leftOver])), (a_now_row, .inl (E.2.1, 81, .inl c_now_row))]) [1, 2] rfl
    have hrc := va_recv hK hPc (ci := 6) (q0 := 0) rfl rfl
    refine pE_i (va_runV (As := []) (rest := [.ref a_draws])  ⟨hx, hb, hml, hown, hts⟩ (f_X5_sites l E (a_ := a_now) (a_row := a_now_row) (a_partners := a_now_partners) (a_share := a_now_share) (a_leftOver := a_now_leftOver) (c_askedCount := c_now_askedCount) (c_outcome := c_now_outcome) (c_row := c_now_row) hc_9) (cwV 0 hts g_f_X7_years_f_X5_sites_117 rfl rfl rfl hd_X5_sites ⟨Nat.le_of_ble_eq_true rfl, Nat.le_of_ble_eq_true rfl⟩) ⟨pP.blind, hrc, (pP.pre ⟨hK, hN⟩ hPc)⟩ rfl rfl hl.1 rfl (lv_room (Nat.le_of_ble_eq_true rfl)) dX7_years_51 ⟨Nat.le_of_ble_eq_true rfl, Nat.le_of_ble_eq_true rfl⟩) ?_
    replace hF := bd5_s hF
    obtain ⟨w_10, w_11, w_12, w_13, w_14, hc_15, hF⟩ := hF
    obtain ⟨hPc, hDc, hFc⟩ := wcut (wc := (w_X1_pickAct E a_draws c_draws_x c_draws_sort c_draws_a c_draws_b c_draws_c)) hP hD hS hA [10] (by decide) rfl
    have hrc := va_recv hK hPc (ci := 2) (q0 := 0) rfl rfl
    refine cE_v (wc := (w_X1_pickAct E a_draws c_draws_x c_draws_sort c_draws_a c_draws_b c_draws_c)) (wr := [(a_, .inr (8, [.ref a_tape, .ref a_reader, .ref a_scripts, .ref a_now, .ref a_trial, .ref a_kept, .ref a_book, .ref a_keptBook, .ref a_history, .ref a_draws, .ref a_refused, .int c_hasImage])), (a_now, .inr (6, [.ref a_now_row, .ref a_now_partners, .int c_now_askedCount, .int c_now_outcome, .ref a_now_share, .ref a_now_leftOver])), (a_now_row, .inl (E.2.1, 81, .inl c_now_row)), (a_now_partners, .inl (E.2.1, 8, .inl c_now_partners)), (a_now_share, .inl (E.2.1, 2, .inl c_now_share)), (a_now_leftOver, .inl (E.2.1, 2, .inl c_now_leftOver)), (a_book, .inr (1, [.ref a_book_lines])), (a_book_lines, .inl (E.2.1, 300, .inl c_book_lines)), (a_history, .inr (3, [.ref a_history_rows, .int c_history_next, .int c_history_held])), (a_history_rows, .inl (E.2.1, 3240, .inl c_history_rows)), (a_refused, .inl (E.2.1, 3, .inl c_refused))]) (w1 := (w_X1_pickAct E a_draws w_10 w_11 w_12 w_13 w_14)) (va_runV (As := [.int r_8]) (rest := [])  ⟨hx, hb, hml, hown, hts⟩ (f_X1_pickAct l E H.size (a_ := a_draws) (p1 := r_8) (c_x := c_draws_x) (c_sort := c_draws_sort) (c_a := c_draws_a) (c_b := c_draws_b) (c_c := c_draws_c) hc_15) (cwV 1 hts g_f_X7_years_f_X1_pickAct_177 rfl rfl rfl hd_X1_pickAct ⟨Nat.le_of_ble_eq_true rfl, Nat.le_of_ble_eq_true rfl⟩) ⟨pW.blind, hrc, (pW.pre ⟨hK, hN⟩ hPc hDc)⟩ rfl rfl hl.1 rfl (lv_room (Nat.le_of_ble_eq_true rfl)) dX7_years_54 ⟨Nat.le_of_ble_eq_true rfl, Nat.le_of_ble_eq_true rfl⟩) hS hFc hP hD [10] [0, 1, 2, 3, 4, 5, 6, 7, 8, 9, 11] rfl rfl (by decide) (by decide) (fun H locs hP hD hS => ?_)
    replace hP : va_P E.1 vwCl [(a_, .inr (8, [.ref a_tape, .ref a_reader, .ref a_scripts, .ref a_now, .ref a_trial, .ref a_kept, .ref a_book, .ref a_keptBook, .ref a_history, .ref a_draws, .ref a_refused, .int c_hasImage])), (a_now, .inr (6, [.ref a_now_row, .ref a_now_partners, .int c_now_askedCount, .int c_now_outcome, .ref a_now_share, .ref a_now_leftOver])), (a_now_row, .inl (E.2.1, 81, .inl c_now_row)), (a_now_partners, .inl (E.2.1, 8, .inl c_now_partners)), (a_now_share, .inl (E.2.1, 2, .inl c_now_share)), (a_now_leftOver, .inl (E.2.1, 2, .inl c_now_leftOver)), (a_book, .inr (1, [.ref a_book_lines])), (a_book_lines, .inl (E.2.1, 300, .inl c_book_lines)), (a_history, .inr (3, [.ref a_history_rows, .int c_history_next, .int c_history_held])), (a_history_rows, .inl (E.2.1, 3240, .inl c_history_rows)), (a_refused, .inl (E.2.1, 3, .inl c_refused)), (a_draws, .inr (2, [.long w_10, .int w_11, .int w_12, .int w_13, .int w_14]))] H := hP
    replace hD : va_D A [(a_, .inr (8, [.ref a_tape, .ref a_reader, .ref a_scripts, .ref a_now, .ref a_trial, .ref a_kept, .ref a_book, .ref a_keptBook, .ref a_history, .ref a_draws, .ref a_refused, .int c_hasImage])), (a_now, .inr (6, [.ref a_now_row, .ref a_now_partners, .int c_now_askedCount, .int c_now_outcome, .ref a_now_share, .ref a_now_leftOver])), (a_now_row, .inl (E.2.1, 81, .inl c_now_row)), (a_now_partners, .inl (E.2.1, 8, .inl c_now_partners)), (a_now_share, .inl (E.2.1, 2, .inl c_now_share)), (a_now_leftOver, .inl (E.2.1, 2, .inl c_now_leftOver)), (a_book, .inr (1, [.ref a_book_lines])), (a_book_lines, .inl (E.2.1, 300, .inl c_book_lines)), (a_history, .inr (3, [.ref a_history_rows, .int c_history_next, .int c_history_held])), (a_history_rows, .inl (E.2.1, 3240, .inl c_history_rows)), (a_refused, .inl (E.2.1, 3, .inl c_refused)), (a_draws, .inr (2, [.long w_10, .int w_11, .int w_12, .int w_13, .int w_14]))] := hD
    refine lv_iload hx hb dX7_years_57 (lv_at hl 2 rfl) ?_
    refine lv_aload_n hx hb dX7_years_59 rfl (lv_at hl 0 rfl) ?_
    refine lv_aload_n hx hb dX7_years_60 rfl (lv_at hl 0 rfl) ?_
    refine gt_X7_9 (v := .ref a_draws) hx hb hts i_f_X7_years_X7 hown hK hP 0 rfl (hts (.fieldLink RX7 65 "HushWatch" "draws" "LHushWatch$Draws;") (List.mem_of_getElem? (i := 2) rfl)) rfl dX7_years_61 ?_
    refine va_getN (D := E.1) (ci := 2) (v := .int w_11) (C := RX1) (T := TX1) (N := 5) hx hb hts i_f_X7_years_X1 hown hK hP 11 rfl rfl 1 (by decide) (nx hN 21 rfl) (fun _ h9 => h9) rfl dX7_years_64 ?_
    refine lv_aload_n hx hb dX7_years_67 rfl (lv_at hl 0 rfl) ?_
    refine gt_X7_9 (v := .ref a_draws) hx hb hts i_f_X7_years_X7 hown hK hP 0 rfl (hts (.fieldLink RX7 65 "HushWatch" "draws" "LHushWatch$Draws;") (List.mem_of_getElem? (i := 2) rfl)) rfl dX7_years_68 ?_
    refine va_getN (D := E.1) (ci := 2) (v := .int w_12) (C := RX1) (T := TX1) (N := 5) hx hb hts i_f_X7_years_X1 hown hK hP 11 rfl rfl 2 (by decide) (nx hN 22 rfl) (fun _ h9 => h9) rfl dX7_years_71 ?_
    refine lv_aload_n hx hb dX7_years_74 rfl (lv_at hl 0 rfl) ?_
    refine gt_X7_9 (v := .ref a_draws) hx hb hts i_f_X7_years_X7 hown hK hP 0 rfl (hts (.fieldLink RX7 65 "HushWatch" "draws" "LHushWatch$Draws;") (List.mem_of_getElem? (i := 2) rfl)) rfl dX7_years_75 ?_
    refine va_getN (D := E.1) (ci := 2) (v := .int w_13) (C := RX1) (T := TX1) (N := 5) hx hb hts i_f_X7_years_X1 hown hK hP 11 rfl rfl 3 (by decide) (nx hN 23 rfl) (fun _ h9 => h9) rfl dX7_years_78 ?_
    refine lv_aload_n hx hb dX7_years_81 rfl (lv_at hl 0 rfl) ?_
    refine gt_X7_9 (v := .ref a_draws) hx hb hts i_f_X7_years_X7 hown hK hP 0 rfl (hts (.fieldLink RX7 65 "HushWatch" "draws" "LHushWatch$Draws;") (List.mem_of_getElem? (i := 2) rfl)) rfl dX7_years_82 ?_
    refine va_getN (D := E.1) (ci := 2) (v := .int w_14) (C := RX1) (T := TX1) (N := 5) hx hb hts i_f_X7_years_X1 hown hK hP 11 rfl rfl 4 (by decide) (nx hN 24 rfl) (fun _ h9 => h9) rfl dX7_years_85 ?_
    refine lv_iconst (v := 0) hx hb dX7_years_88 (by decide) ?_
    replace hF := bd12_s hF
    obtain ⟨r_16, w_17, w_18, w_19, w_20, w_21, w_22, w_23, w_24, w_25, w_26, w_27, hc_28, hF⟩ := hF
    obtain ⟨hPc, hDc, hFc⟩ := wcut (wc := (w_X7_act E a_ a_tape a_reader a_scripts a_now a_trial a_kept a_book a_keptBook a_history a_draws a_refused a_now_row a_now_partners a_now_share a_now_leftOver a_book_lines a_history_rows c_hasImage c_now_askedCount c_now_outcome c_now_row c_now_partners c_now_share c_now_leftOver c_book_lines c_history_next c_history_held c_history_rows c_refused)) hP hD hS hA [0, 1, 2, 3, 4, 5, 6, 7, 8, 9, 10] (by decide) rfl
    have hrc := va_recv hK hPc (ci := 8) (q0 := 0) rfl rfl
    refine cE_i (wc := (w_X7_act E a_ a_tape a_reader a_scripts a_now a_trial a_kept a_book a_keptBook a_history a_draws a_refused a_now_row a_now_partners a_now_share a_now_leftOver a_book_lines a_history_rows c_hasImage c_now_askedCount c_now_outcome c_now_row c_now_partners c_now_share c_now_leftOver c_book_lines c_history_next c_history_held c_history_rows c_refused)) (wr := [(a_draws, .inr (2, [.long w_10, .int w_11, .int w_12, .int w_13, .int w_14]))]) (w1 := (w_X7_act E a_ a_tape a_reader a_scripts a_now a_trial a_kept a_book a_keptBook a_history a_draws a_refused a_now_row a_now_partners a_now_share a_now_leftOver a_book_lines a_history_rows c_hasImage w_19 w_20 w_17 w_18 w_21 w_22 w_23 w_25 w_26 w_24 w_27)) (va_runV (As := [.int w_11, .int w_12, .int w_13, .int w_14, .int (0 : Int32)]) (rest := [.int x4])  ⟨hx, hb, hml, hown, hts⟩ (f_X7_act l E H.size K (a_ := a_) (a_tape := a_tape) (a_reader := a_reader) (a_scripts := a_scripts) (a_now := a_now) (a_trial := a_trial) (a_kept := a_kept) (a_book := a_book) (a_keptBook := a_keptBook) (a_history := a_history) (a_draws := a_draws) (a_refused := a_refused) (a_now_row := a_now_row) (a_now_partners := a_now_partners) (a_now_share := a_now_share) (a_now_leftOver := a_now_leftOver) (a_book_lines := a_book_lines) (a_history_rows := a_history_rows) (p1 := w_11) (p2 := w_12) (p3 := w_13) (p4 := w_14) (p5 := (0 : Int32)) (c_hasImage := c_hasImage) (c_now_askedCount := c_now_askedCount) (c_now_outcome := c_now_outcome) (c_now_row := c_now_row) (c_now_partners := c_now_partners) (c_now_share := c_now_share) (c_now_leftOver := c_now_leftOver) (c_book_lines := c_book_lines) (c_history_next := c_history_next) (c_history_held := c_history_held) (c_history_rows := c_history_rows) (c_refused := c_refused) hc_28) (cwV 5 hts g_f_X7_years_f_X7_act_163 rfl rfl rfl hd_X7_act ⟨Nat.le_of_ble_eq_true rfl, Nat.le_of_ble_eq_true rfl⟩) ⟨pW.blind, hrc, (pW.pre ⟨hK, hN⟩ hPc hDc)⟩ rfl rfl hl.1 rfl (lv_room (Nat.le_of_ble_eq_true rfl)) dX7_years_89 ⟨Nat.le_of_ble_eq_true rfl, Nat.le_of_ble_eq_true rfl⟩) hS hFc hP hD [0, 1, 2, 3, 4, 5, 6, 7, 8, 9, 10] [11] rfl rfl (by decide) (by decide) (fun H locs hP hD hS => ?_)
    replace hP : va_P E.1 vwCl [(a_draws, .inr (2, [.long w_10, .int w_11, .int w_12, .int w_13, .int w_14])), (a_, .inr (8, [.ref a_tape, .ref a_reader, .ref a_scripts, .ref a_now, .ref a_trial, .ref a_kept, .ref a_book, .ref a_keptBook, .ref a_history, .ref a_draws, .ref a_refused, .int c_hasImage])), (a_now, .inr (6, [.ref a_now_row, .ref a_now_partners, .int w_19, .int w_20, .ref a_now_share, .ref a_now_leftOver])), (a_now_row, .inl (E.2.1, 81, .inl w_17)), (a_now_partners, .inl (E.2.1, 8, .inl w_18)), (a_now_share, .inl (E.2.1, 2, .inl w_21)), (a_now_leftOver, .inl (E.2.1, 2, .inl w_22)), (a_book, .inr (1, [.ref a_book_lines])), (a_book_lines, .inl (E.2.1, 300, .inl w_23)), (a_history, .inr (3, [.ref a_history_rows, .int w_25, .int w_26])), (a_history_rows, .inl (E.2.1, 3240, .inl w_24)), (a_refused, .inl (E.2.1, 3, .inl w_27))] H := hP
    replace hD : va_D A [(a_draws, .inr (2, [.long w_10, .int w_11, .int w_12, .int w_13, .int w_14])), (a_, .inr (8, [.ref a_tape, .ref a_reader, .ref a_scripts, .ref a_now, .ref a_trial, .ref a_kept, .ref a_book, .ref a_keptBook, .ref a_history, .ref a_draws, .ref a_refused, .int c_hasImage])), (a_now, .inr (6, [.ref a_now_row, .ref a_now_partners, .int w_19, .int w_20, .ref a_now_share, .ref a_now_leftOver])), (a_now_row, .inl (E.2.1, 81, .inl w_17)), (a_now_partners, .inl (E.2.1, 8, .inl w_18)), (a_now_share, .inl (E.2.1, 2, .inl w_21)), (a_now_leftOver, .inl (E.2.1, 2, .inl w_22)), (a_book, .inr (1, [.ref a_book_lines])), (a_book_lines, .inl (E.2.1, 300, .inl w_23)), (a_history, .inr (3, [.ref a_history_rows, .int w_25, .int w_26])), (a_history_rows, .inl (E.2.1, 3240, .inl w_24)), (a_refused, .inl (E.2.1, 3, .inl w_27))] := hD
    refine lv_iconst (v := 0) hx hb dX7_years_92 (by decide) ?_
    refine va_mmax hx hb (hml.trans hl.1.symm) hown (hts (.methodLink RX7 192 Lib.Math.max.name) (List.mem_of_getElem? (i := 3) rfl)) (hts (.static Lib.Math.max.name) (List.mem_of_getElem? (i := 4) rfl)) (hts (.initialized "java/lang/Math") (List.mem_of_getElem? (i := 5) rfl)) (hts (.code Lib.Math.max.name Lib.Math.max.code 2 (some .int)) (List.mem_of_getElem? (i := 6) rfl)) (Nat.le_of_ble_eq_true rfl) (Nat.le_of_ble_eq_true rfl) (Nat.le_of_ble_eq_true rfl) (Nat.le_of_ble_eq_true rfl) dX7_years_93 ?_
    refine W.eq (g2 := F0 m 96 ls [.int (maxF r_16 (0 : Int32)), .int x4]) rfl ?_
    refine lv_iadd hx hb dX7_years_96 ?_
    refine lv_istore (lv' := [(4, .int (x4 + (maxF r_16 (0 : Int32)))), (0, .ref a_), (1, .int p1), (5, .int x5)]) hx hb dX7_years_97 hl (by decide) rfl (fun ls hl => ?_)
    refine lv_iinc (v := x5 + (1 : Int32)) (lv' := [(5, .int (x5 + (1 : Int32))), (4, .int (x4 + (maxF r_16 (0 : Int32)))), (0, .ref a_), (1, .int p1)]) hx hb dX7_years_99 hl (k := 3) rfl (rfl) (by decide) rfl (fun ls hl => ?_)
    refine lv_goto (tgt := 37) hx hb dX7_years_102 (by decide) ?_
    cases hF
    exact hC (x4 + (maxF r_16 (0 : Int32))) (x5 + (1 : Int32)) w_17 w_18 w_19 w_20 w_21 w_22 w_23 w_24 w_25 w_26 w_10 w_11 w_12 w_13 w_14 w_27 rfl H locs ls (hP.sub [1, 2, 3, 4, 5, 6, 7, 8, 9, 10, 0, 11] rfl) (hD.sub [1, 2, 3, 4, 5, 6, 7, 8, 9, 10, 0, 11] (by decide) rfl) hS (lv_sub hl [2, 3, 1, 0] rfl)

set_option maxHeartbeats 4000000 in
set_option maxRecDepth 100000 in
theorem lw_X7_years_37 {p : Program} (l : Launch) {e : Env} {s : State} {m : MethodId} {below : List Frame} {meth : Method} {c : Code} {Q : State → Prop} (E : EE) (K : Nat) {a_ a_tape a_reader a_scripts a_now a_trial a_kept a_book a_keptBook a_history a_draws a_refused a_now_row a_now_partners a_now_share a_now_leftOver a_book_lines a_history_rows : Nat} {p1 : Int32} {p2 : Int64} {c_hasImage : Int32} (hx : p.tables.exec = Jvm.exec) (hb : c.code = cX7_years) (hml : c.maxLocals = 6) (hown : s.vm.findClass RX7 = some m.cls) (hts : ∀ w ∈ v_f_X7_years, w.before #[Value.ref a_, Value.int p1, Value.long p2] s = true) (hK : va_K E.1 vwCl (TY E) s) (hN : NX s) {A : Nat → Prop} (hA : ∀ q : Nat, s.heap.size ≤ q → A q) (j9 : Nat) (x4 : Int32) (x5 : Int32) (c_now_row : Nat → Int32) (c_now_partners : Nat → Int32) (c_now_askedCount : Int32) (c_now_outcome : Int32) (c_now_share : Nat → Int32) (c_now_leftOver : Nat → Int32) (c_book_lines : Nat → Int32) (c_history_rows : Nat → Int32) (c_history_next : Int32) (c_history_held : Int32) (c_draws_x : Int64) (c_draws_sort : Int32) (c_draws_a : Int32) (c_draws_b : Int32) (c_draws_c : Int32) (c_refused : Nat → Int32) (x4' : Int32) (c_now_row' : Nat → Int32) (c_now_partners' : Nat → Int32) (c_now_askedCount' : Int32) (c_now_outcome' : Int32) (c_now_share' : Nat → Int32) (c_now_leftOver' : Nat → Int32) (c_book_lines' : Nat → Int32) (c_history_rows' : Nat → Int32) (c_history_next' : Int32) (c_history_held' : Int32) (c_draws_x' : Int64) (c_draws_sort' : Int32) (c_draws_a' : Int32) (c_draws_b' : Int32) (c_draws_c' : Int32) (c_refused' : Nat → Int32) (hL : lpF (fun u9 : Int32 × Int32 × (Nat → Int32) × (Nat → Int32) × Int32 × Int32 × (Nat → Int32) × (Nat → Int32) × (Nat → Int32) × (Nat → Int32) × Int32 × Int32 × Int64 × Int32 × Int32 × Int32 × Int32 × (Nat → Int32) => B_X7_years_37 K p1 u9.1 u9.2.1 u9.2.2.1 u9.2.2.2.1 u9.2.2.2.2.1 u9.2.2.2.2.2.1 u9.2.2.2.2.2.2.1 u9.2.2.2.2.2.2.2.1 u9.2.2.2.2.2.2.2.2.1 u9.2.2.2.2.2.2.2.2.2.1 u9.2.2.2.2.2.2.2.2.2.2.1 u9.2.2.2.2.2.2.2.2.2.2.2.1 u9.2.2.2.2.2.2.2.2.2.2.2.2.1 u9.2.2.2.2.2.2.2.2.2.2.2.2.2.1 u9.2.2.2.2.2.2.2.2.2.2.2.2.2.2.1 u9.2.2.2.2.2.2.2.2.2.2.2.2.2.2.2.1 u9.2.2.2.2.2.2.2.2.2.2.2.2.2.2.2.2.1 u9.2.2.2.2.2.2.2.2.2.2.2.2.2.2.2.2.2) j9 (x4, x5, c_now_row, c_now_partners, c_now_askedCount, c_now_outcome, c_now_share, c_now_leftOver, c_book_lines, c_history_rows, c_history_next, c_history_held, c_draws_x, c_draws_sort, c_draws_a, c_draws_b, c_draws_c, c_refused) = some (x4', c_now_row', c_now_partners', c_now_askedCount', c_now_outcome', c_now_share', c_now_leftOver', c_book_lines', c_history_rows', c_history_next', c_history_held', c_draws_x', c_draws_sort', c_draws_a', c_draws_b', c_draws_c', c_refused')) (hX : (∀ (H : Heap) (locs : List Loc) (ls : Array Slot), va_P E.1 vwCl (w_X7_years E a_ a_tape a_reader a_scripts a_now a_trial a_kept a_book a_keptBook a_history a_draws a_refused a_now_row a_now_partners a_now_share a_now_leftOver a_book_lines a_history_rows c_hasImage c_now_askedCount' c_now_outcome' c_now_row' c_now_partners' c_now_share' c_now_leftOver' c_book_lines' c_history_next' c_history_held' c_history_rows' c_draws_x' c_draws_sort' c_draws_a' c_draws_b' c_draws_c' c_refused') H → va_D A (w_X7_years E a_ a_tape a_reader a_scripts a_now a_trial a_kept a_book a_keptBook a_history a_draws a_refused a_now_row a_now_partners a_now_share a_now_leftOver a_book_lines a_history_rows c_hasImage c_now_askedCount' c_now_outcome' c_now_row' c_now_partners' c_now_share' c_now_leftOver' c_book_lines' c_history_next' c_history_held' c_history_rows' c_draws_x' c_draws_sort' c_draws_a' c_draws_b' c_draws_c' c_refused') → va_S A s.heap H locs → lv_has ls 6 [(4, .int x4')] → W p l e ({ frames := 6, cells := 0, slots := 0, locals := 151 } : Room) s m #[Value.ref a_, Value.int p1, Value.long p2] below meth c H locs 0 0 Q (F0 m 105 ls []))) : ∀ (H : Heap) (locs : List Loc) (ls : Array Slot), va_P E.1 vwCl (w_X7_years E a_ a_tape a_reader a_scripts a_now a_trial a_kept a_book a_keptBook a_history a_draws a_refused a_now_row a_now_partners a_now_share a_now_leftOver a_book_lines a_history_rows c_hasImage c_now_askedCount c_now_outcome c_now_row c_now_partners c_now_share c_now_leftOver c_book_lines c_history_next c_history_held c_history_rows c_draws_x c_draws_sort c_draws_a c_draws_b c_draws_c c_refused) H → va_D A (w_X7_years E a_ a_tape a_reader a_scripts a_now a_trial a_kept a_book a_keptBook a_history a_draws a_refused a_now_row a_now_partners a_now_share a_now_leftOver a_book_lines a_history_rows c_hasImage c_now_askedCount c_now_outcome c_now_row c_now_partners c_now_share c_now_leftOver c_book_lines c_history_next c_history_held c_history_rows c_draws_x c_draws_sort c_draws_a c_draws_b c_draws_c c_refused) → va_S A s.heap H locs → lv_has ls 6 [(0, .ref a_), (1, .int p1), (4, .int x4), (5, .int x5)] → W p l e ({ frames := 6, cells := 0, slots := 0, locals := 151 } : Room) s m #[Value.ref a_, Value.int p1, Value.long p2] below meth c H locs 0 0 Q (F0 m 37 ls []) := by
  exact lp_rule (P := (fun u9 : Int32 × Int32 × (Nat → Int32) × (Nat → Int32) × Int32 × Int32 × (Nat → Int32) × (Nat → Int32) × (Nat → Int32) × (Nat → Int32) × Int32 × Int32 × Int64 × Int32 × Int32 × Int32 × Int32 × (Nat → Int32) => ∀ (H : Heap) (locs : List Loc) (ls : Array Slot), va_P E.1 vwCl (w_X7_years E a_ a_tape a_reader a_scripts a_now a_trial a_kept a_book a_keptBook a_history a_draws a_refused a_now_row a_now_partners a_now_share a_now_leftOver a_book_lines a_history_rows c_hasImage u9.2.2.2.2.1 u9.2.2.2.2.2.1 u9.2.2.1 u9.2.2.2.1 u9.2.2.2.2.2.2.1 u9.2.2.2.2.2.2.2.1 u9.2.2.2.2.2.2.2.2.1 u9.2.2.2.2.2.2.2.2.2.2.1 u9.2.2.2.2.2.2.2.2.2.2.2.1 u9.2.2.2.2.2.2.2.2.2.1 u9.2.2.2.2.2.2.2.2.2.2.2.2.1 u9.2.2.2.2.2.2.2.2.2.2.2.2.2.1 u9.2.2.2.2.2.2.2.2.2.2.2.2.2.2.1 u9.2.2.2.2.2.2.2.2.2.2.2.2.2.2.2.1 u9.2.2.2.2.2.2.2.2.2.2.2.2.2.2.2.2.1 u9.2.2.2.2.2.2.2.2.2.2.2.2.2.2.2.2.2) H → va_D A (w_X7_years E a_ a_tape a_reader a_scripts a_now a_trial a_kept a_book a_keptBook a_history a_draws a_refused a_now_row a_now_partners a_now_share a_now_leftOver a_book_lines a_history_rows c_hasImage u9.2.2.2.2.1 u9.2.2.2.2.2.1 u9.2.2.1 u9.2.2.2.1 u9.2.2.2.2.2.2.1 u9.2.2.2.2.2.2.2.1 u9.2.2.2.2.2.2.2.2.1 u9.2.2.2.2.2.2.2.2.2.2.1 u9.2.2.2.2.2.2.2.2.2.2.2.1 u9.2.2.2.2.2.2.2.2.2.1 u9.2.2.2.2.2.2.2.2.2.2.2.2.1 u9.2.2.2.2.2.2.2.2.2.2.2.2.2.1 u9.2.2.2.2.2.2.2.2.2.2.2.2.2.2.1 u9.2.2.2.2.2.2.2.2.2.2.2.2.2.2.2.1 u9.2.2.2.2.2.2.2.2.2.2.2.2.2.2.2.2.1 u9.2.2.2.2.2.2.2.2.2.2.2.2.2.2.2.2.2) → va_S A s.heap H locs → lv_has ls 6 [(0, .ref a_), (1, .int p1), (4, .int u9.1), (5, .int u9.2.1)] → W p l e ({ frames := 6, cells := 0, slots := 0, locals := 151 } : Room) s m #[Value.ref a_, Value.int p1, Value.long p2] below meth c H locs 0 0 Q (F0 m 37 ls []))) (R := (fun r9 : Int32 × (Nat → Int32) × (Nat → Int32) × Int32 × Int32 × (Nat → Int32) × (Nat → Int32) × (Nat → Int32) × (Nat → Int32) × Int32 × Int32 × Int64 × Int32 × Int32 × Int32 × Int32 × (Nat → Int32) => (∀ (H : Heap) (locs : List Loc) (ls : Array Slot), va_P E.1 vwCl (w_X7_years E a_ a_tape a_reader a_scripts a_now a_trial a_kept a_book a_keptBook a_history a_draws a_refused a_now_row a_now_partners a_now_share a_now_leftOver a_book_lines a_history_rows c_hasImage r9.2.2.2.1 r9.2.2.2.2.1 r9.2.1 r9.2.2.1 r9.2.2.2.2.2.1 r9.2.2.2.2.2.2.1 r9.2.2.2.2.2.2.2.1 r9.2.2.2.2.2.2.2.2.2.1 r9.2.2.2.2.2.2.2.2.2.2.1 r9.2.2.2.2.2.2.2.2.1 r9.2.2.2.2.2.2.2.2.2.2.2.1 r9.2.2.2.2.2.2.2.2.2.2.2.2.1 r9.2.2.2.2.2.2.2.2.2.2.2.2.2.1 r9.2.2.2.2.2.2.2.2.2.2.2.2.2.2.1 r9.2.2.2.2.2.2.2.2.2.2.2.2.2.2.2.1 r9.2.2.2.2.2.2.2.2.2.2.2.2.2.2.2.2) H → va_D A (w_X7_years E a_ a_tape a_reader a_scripts a_now a_trial a_kept a_book a_keptBook a_history a_draws a_refused a_now_row a_now_partners a_now_share a_now_leftOver a_book_lines a_history_rows c_hasImage r9.2.2.2.1 r9.2.2.2.2.1 r9.2.1 r9.2.2.1 r9.2.2.2.2.2.1 r9.2.2.2.2.2.2.1 r9.2.2.2.2.2.2.2.1 r9.2.2.2.2.2.2.2.2.2.1 r9.2.2.2.2.2.2.2.2.2.2.1 r9.2.2.2.2.2.2.2.2.1 r9.2.2.2.2.2.2.2.2.2.2.2.1 r9.2.2.2.2.2.2.2.2.2.2.2.2.1 r9.2.2.2.2.2.2.2.2.2.2.2.2.2.1 r9.2.2.2.2.2.2.2.2.2.2.2.2.2.2.1 r9.2.2.2.2.2.2.2.2.2.2.2.2.2.2.2.1 r9.2.2.2.2.2.2.2.2.2.2.2.2.2.2.2.2) → va_S A s.heap H locs → lv_has ls 6 [(4, .int r9.1)] → W p l e ({ frames := 6, cells := 0, slots := 0, locals := 151 } : Room) s m #[Value.ref a_, Value.int p1, Value.long p2] below meth c H locs 0 0 Q (F0 m 105 ls [])))) (fun u9 xx hF hC hE => wb_X7_years_37 l E K (p1 := p1) (p2 := p2) (c_hasImage := c_hasImage) (x4 := u9.1) (x5 := u9.2.1) (c_now_row := u9.2.2.1) (c_now_partners := u9.2.2.2.1) (c_now_askedCount := u9.2.2.2.2.1) (c_now_outcome := u9.2.2.2.2.2.1) (c_now_share := u9.2.2.2.2.2.2.1) (c_now_leftOver := u9.2.2.2.2.2.2.2.1) (c_book_lines := u9.2.2.2.2.2.2.2.2.1) (c_history_rows := u9.2.2.2.2.2.2.2.2.2.1) (c_history_next := u9.2.2.2.2.2.2.2.2.2.2.1) (c_history_held := u9.2.2.2.2.2.2.2.2.2.2.2.1) (c_draws_x := u9.2.2.2.2.2.2.2.2.2.2.2.2.1) (c_draws_sort := u9.2.2.2.2.2.2.2.2.2.2.2.2.2.1) (c_draws_a := u9.2.2.2.2.2.2.2.2.2.2.2.2.2.2.1) (c_draws_b := u9.2.2.2.2.2.2.2.2.2.2.2.2.2.2.2.1) (c_draws_c := u9.2.2.2.2.2.2.2.2.2.2.2.2.2.2.2.2.1) (c_refused := u9.2.2.2.2.2.2.2.2.2.2.2.2.2.2.2.2.2) hx hb hml hown hts hK hN hA (fun x4 x5 c_now_row c_now_partners c_now_askedCount c_now_outcome c_now_share c_now_leftOver c_book_lines c_history_rows c_history_next c_history_held c_draws_x c_draws_sort c_draws_a c_draws_b c_draws_c c_refused q9 => hC _ q9) (fun x4 c_now_row c_now_partners c_now_askedCount c_now_outcome c_now_share c_now_leftOver c_book_lines c_history_rows c_history_next c_history_held c_draws_x c_draws_sort c_draws_a c_draws_b c_draws_c c_refused q9 => hE _ q9) hF) j9 (x4, x5, c_now_row, c_now_partners, c_now_askedCount, c_now_outcome, c_now_share, c_now_leftOver, c_book_lines, c_history_rows, c_history_next, c_history_held, c_draws_x, c_draws_sort, c_draws_a, c_draws_b, c_draws_c, c_refused) (x4', c_now_row', c_now_partners', c_now_askedCount', c_now_outcome', c_now_share', c_now_leftOver', c_book_lines', c_history_rows', c_history_next', c_history_held', c_draws_x', c_draws_sort', c_draws_a', c_draws_b', c_draws_c', c_refused') hL hX

set_option maxHeartbeats 4000000 in
set_option maxRecDepth 100000 in
theorem f_X7_years (l : Launch) (E : EE) (sz : Nat) (K : Nat) {a_ a_tape a_reader a_scripts a_now a_trial a_kept a_book a_keptBook a_history a_draws a_refused a_now_row a_now_partners a_now_share a_now_leftOver a_book_lines a_history_rows : Nat} {p1 : Int32} {p2 : Int64} {c_hasImage : Int32} {c_now_askedCount : Int32} {c_now_outcome : Int32} {c_now_row : Nat → Int32} {c_now_partners : Nat → Int32} {c_now_share : Nat → Int32} {c_now_leftOver : Nat → Int32} {c_book_lines : Nat → Int32} {c_history_next : Int32} {c_history_held : Int32} {c_history_rows : Nat → Int32} {c_draws_x : Int64} {c_draws_sort : Int32} {c_draws_a : Int32} {c_draws_b : Int32} {c_draws_c : Int32} {c_refused : Nat → Int32} {rr : Int32} {n_now_row : Nat → Int32} {n_now_partners : Nat → Int32} {n_now_askedCount : Int32} {n_now_outcome : Int32} {n_now_share : Nat → Int32} {n_now_leftOver : Nat → Int32} {n_book_lines : Nat → Int32} {n_history_rows : Nat → Int32} {n_history_next : Int32} {n_history_held : Int32} {n_draws_x : Int64} {n_draws_sort : Int32} {n_draws_a : Int32} {n_draws_b : Int32} {n_draws_c : Int32} {n_refused : Nat → Int32} (hF : F_X7_years K p1 p2 c_now_row c_now_partners c_now_askedCount c_now_outcome c_now_share c_now_leftOver c_book_lines c_history_rows c_history_next c_history_held c_draws_x c_draws_sort c_draws_a c_draws_b c_draws_c c_refused = some (rr, n_now_row, n_now_partners, n_now_askedCount, n_now_outcome, n_now_share, n_now_leftOver, n_book_lines, n_history_rows, n_history_next, n_history_held, n_draws_x, n_draws_sort, n_draws_a, n_draws_b, n_draws_c, n_refused)) : Met l yX7_years v_f_X7_years (({ frames := 6, cells := 0, slots := 0, locals := 151 } : Room)) (va_Pc [.ref a_, .int p1, .long p2] (pW E sz (w_X7_years E a_ a_tape a_reader a_scripts a_now a_trial a_kept a_book a_keptBook a_history a_draws a_refused a_now_row a_now_partners a_now_share a_now_leftOver a_book_lines a_history_rows c_hasImage c_now_askedCount c_now_outcome c_now_row c_now_partners c_now_share c_now_leftOver c_book_lines c_history_next c_history_held c_history_rows c_draws_x c_draws_sort c_draws_a c_draws_b c_draws_c c_refused))) (va_Qi (fun (q : Int32) (_u : Unit) => q = rr) (fun (_u : Unit) tt => va_P E.1 vwCl (w_X7_years E a_ a_tape a_reader a_scripts a_now a_trial a_kept a_book a_keptBook a_history a_draws a_refused a_now_row a_now_partners a_now_share a_now_leftOver a_book_lines a_history_rows c_hasImage n_now_askedCount n_now_outcome n_now_row n_now_partners n_now_share n_now_leftOver n_book_lines n_history_next n_history_held n_history_rows n_draws_x n_draws_sort n_draws_a n_draws_b n_draws_c n_refused) tt.heap ∧ va_D (va_A (w_X7_years E a_ a_tape a_reader a_scripts a_now a_trial a_kept a_book a_keptBook a_history a_draws a_refused a_now_row a_now_partners a_now_share a_now_leftOver a_book_lines a_history_rows c_hasImage c_now_askedCount c_now_outcome c_now_row c_now_partners c_now_share c_now_leftOver c_book_lines c_history_next c_history_held c_history_rows c_draws_x c_draws_sort c_draws_a c_draws_b c_draws_c c_refused) sz) (w_X7_years E a_ a_tape a_reader a_scripts a_now a_trial a_kept a_book a_keptBook a_history a_draws a_refused a_now_row a_now_partners a_now_share a_now_leftOver a_book_lines a_history_rows c_hasImage n_now_askedCount n_now_outcome n_now_row n_now_partners n_now_share n_now_leftOver n_book_lines n_history_next n_history_held n_history_rows n_draws_x n_draws_sort n_draws_a n_draws_b n_draws_c n_refused)) (va_A (w_X7_years E a_ a_tape a_reader a_scripts a_now a_trial a_kept a_book a_keptBook a_history a_draws a_refused a_now_row a_now_partners a_now_share a_now_leftOver a_book_lines a_history_rows c_hasImage c_now_askedCount c_now_outcome c_now_row c_now_partners c_now_share c_now_leftOver c_book_lines c_history_next c_history_held c_history_rows c_draws_x c_draws_sort c_draws_a c_draws_b c_draws_c c_refused) sz)) 0 0 (va_A (w_X7_years E a_ a_tape a_reader a_scripts a_now a_trial a_kept a_book a_keptBook a_history a_draws a_refused a_now_row a_now_partners a_now_share a_now_leftOver a_book_lines a_history_rows c_hasImage c_now_askedCount c_now_outcome c_now_row c_now_partners c_now_share c_now_leftOver c_book_lines c_history_next c_history_held c_history_rows c_draws_x c_draws_sort c_draws_a c_draws_b c_draws_c c_refused) sz) := by
  refine Met.ofW (cc := cX7_years) (maxL := 6) (ret := (some .int)) (by decide) rfl ?_
  intro p e s m args below meth c s₁ B hml hv
  obtain ⟨rfl, hsz, ⟨hK, hN⟩, hP, hD0⟩ := hv
  have hx := B.exec
  have hb := B.bytes
  have hr := B.returns
  have hts := atoms_spec (ws := v_f_X7_years) B.pre
  have hown : s.vm.findClass RX7 = some m.cls := own_of hd_X7_years.1 (findClass_of_methodNamed B.named)
  have hlocks : meth.locks = false := B.notSynchronized
  subst hsz
  have hD := hD0.self (sz := s.heap.size)
  generalize hAe : va_A (w_X7_years E a_ a_tape a_reader a_scripts a_now a_trial a_kept a_book a_keptBook a_history a_draws a_refused a_now_row a_now_partners a_now_share a_now_leftOver a_book_lines a_history_rows c_hasImage c_now_askedCount c_now_outcome c_now_row c_now_partners c_now_share c_now_leftOver c_book_lines c_history_next c_history_held c_history_rows c_draws_x c_draws_sort c_draws_a c_draws_b c_draws_c c_refused) s.heap.size = A at hD ⊢
  have hA : ∀ q : Nat, s.heap.size ≤ q → A q := fun q h => by rw [← hAe]; exact Or.inr h
  have hS : va_S A s.heap s.heap [] := va_S.rf
  have hl := lv_entry ([.ref a_, .int p1, .long p2]) (n := 6) (Nat.le_of_ble_eq_true rfl)
  rw [lg_entry_eq]
  generalize (lg_sl ([.ref a_, .int p1, .long p2]) ++ List.replicate (6 - (lg_sl ([.ref a_, .int p1, .long p2])).length) Slot.unset).toArray = ls at hl ⊢
  have hl : lv_has ls 6 [(0, .ref a_), (1, .int p1), (2, .long p2)] := hl
  obtain ⟨Q, hQ⟩ : ∃ Q : State → Prop, Q = MQ below (va_Qi (fun (q : Int32) (_u : Unit) => q = rr) (fun (_u : Unit) tt => va_P E.1 vwCl (w_X7_years E a_ a_tape a_reader a_scripts a_now a_trial a_kept a_book a_keptBook a_history a_draws a_refused a_now_row a_now_partners a_now_share a_now_leftOver a_book_lines a_history_rows c_hasImage n_now_askedCount n_now_outcome n_now_row n_now_partners n_now_share n_now_leftOver n_book_lines n_history_next n_history_held n_history_rows n_draws_x n_draws_sort n_draws_a n_draws_b n_draws_c n_refused) tt.heap ∧ va_D A (w_X7_years E a_ a_tape a_reader a_scripts a_now a_trial a_kept a_book a_keptBook a_history a_draws a_refused a_now_row a_now_partners a_now_share a_now_leftOver a_book_lines a_history_rows c_hasImage n_now_askedCount n_now_outcome n_now_row n_now_partners n_now_share n_now_leftOver n_book_lines n_history_next n_history_held n_history_rows n_draws_x n_draws_sort n_draws_a n_draws_b n_draws_c n_refused)) A) #[Value.ref a_, Value.int p1, Value.long p2] s 0 0 A := ⟨_, rfl⟩
  rw [← hQ]
  change W p l e ({ frames := 6, cells := 0, slots := 0, locals := 151 } : Room) s m #[Value.ref a_, Value.int p1, Value.long p2] below meth c s.heap [] 0 0 Q (F0 m 0 ls [])
  suffices hh9 : ∀ (H : Heap) (locs : List Loc), va_P E.1 vwCl (w_X7_years E a_ a_tape a_reader a_scripts a_now a_trial a_kept a_book a_keptBook a_history a_draws a_refused a_now_row a_now_partners a_now_share a_now_leftOver a_book_lines a_history_rows c_hasImage c_now_askedCount c_now_outcome c_now_row c_now_partners c_now_share c_now_leftOver c_book_lines c_history_next c_history_held c_history_rows c_draws_x c_draws_sort c_draws_a c_draws_b c_draws_c c_refused) H → va_D A (w_X7_years E a_ a_tape a_reader a_scripts a_now a_trial a_kept a_book a_keptBook a_history a_draws a_refused a_now_row a_now_partners a_now_share a_now_leftOver a_book_lines a_history_rows c_hasImage c_now_askedCount c_now_outcome c_now_row c_now_partners c_now_share c_now_leftOver c_book_lines c_history_next c_history_held c_history_rows c_draws_x c_draws_sort c_draws_a c_draws_b c_draws_c c_refused) → va_S A s.heap H locs → W p l e ({ frames := 6, cells := 0, slots := 0, locals := 151 } : Room) s m #[Value.ref a_, Value.int p1, Value.long p2] below meth c H locs 0 0 Q (F0 m 0 ls []) from hh9 s.heap [] hP hD hS
  clear hP hD hS
  intro H locs hP hD hS
  replace hP : va_P E.1 vwCl [(a_, .inr (8, [.ref a_tape, .ref a_reader, .ref a_scripts, .ref a_now, .ref a_trial, .ref a_kept, .ref a_book, .ref a_keptBook, .ref a_history, .ref a_draws, .ref a_refused, .int c_hasImage])), (a_now, .inr (6, [.ref a_now_row, .ref a_now_partners, .int c_now_askedCount, .int c_now_outcome, .ref a_now_share, .ref a_now_leftOver])), (a_now_row, .inl (E.2.1, 81, .inl c_now_row)), (a_now_partners, .inl (E.2.1, 8, .inl c_now_partners)), (a_now_share, .inl (E.2.1, 2, .inl c_now_share)), (a_now_leftOver, .inl (E.2.1, 2, .inl c_now_leftOver)), (a_book, .inr (1, [.ref a_book_lines])), (a_book_lines, .inl (E.2.1, 300, .inl c_book_lines)), (a_history, .inr (3, [.ref a_history_rows, .int c_history_next, .int c_history_held])), (a_history_rows, .inl (E.2.1, 3240, .inl c_history_rows)), (a_draws, .inr (2, [.long c_draws_x, .int c_draws_sort, .int c_draws_a, .int c_draws_b, .int c_draws_c])), (a_refused, .inl (E.2.1, 3, .inl c_refused))] H := hP
  replace hD : va_D A [(a_, .inr (8, [.ref a_tape, .ref a_reader, .ref a_scripts, .ref a_now, .ref a_trial, .ref a_kept, .ref a_book, .ref a_keptBook, .ref a_history, .ref a_draws, .ref a_refused, .int c_hasImage])), (a_now, .inr (6, [.ref a_now_row, .ref a_now_partners, .int c_now_askedCount, .int c_now_outcome, .ref a_now_share, .ref a_now_leftOver])), (a_now_row, .inl (E.2.1, 81, .inl c_now_row)), (a_now_partners, .inl (E.2.1, 8, .inl c_now_partners)), (a_now_share, .inl (E.2.1, 2, .inl c_now_share)), (a_now_leftOver, .inl (E.2.1, 2, .inl c_now_leftOver)), (a_book, .inr (1, [.ref a_book_lines])), (a_book_lines, .inl (E.2.1, 300, .inl c_book_lines)), (a_history, .inr (3, [.ref a_history_rows, .int c_history_next, .int c_history_held])), (a_history_rows, .inl (E.2.1, 3240, .inl c_history_rows)), (a_draws, .inr (2, [.long c_draws_x, .int c_draws_sort, .int c_draws_a, .int c_draws_b, .int c_draws_c])), (a_refused, .inl (E.2.1, 3, .inl c_refused))] := hD
  unfold F_X7_years at hF
  refine lv_aload_n hx hb dX7_years_0 rfl (lv_at hl 0 rfl) ?_
  refine gt_X7_3 (v := .ref a_now) hx hb hts i_f_X7_years_X7 hown hK hP 0 rfl (hts (.fieldLink RX7 35 "HushWatch" "now" "LHushWatch$State;") (List.mem_of_getElem? (i := 1) rfl)) rfl dX7_years_1 ?_
  replace hF := bd1_s hF
  obtain ⟨r_1, hc_2, hF⟩ := hF
  have hPc : va_P E.1 vwCl (w_X5_stands E a_now a_now_row a_now_partners a_now_share a_now_leftOver c_now_askedCount c_now_outcome c_now_row) H := hP.sub (ws' := [(a_now, .inr (6, [.ref a_now_row, .ref a_now_partners, .int c_now_askedCount, .int c_now_outcome, .ref a_now_share, .ref a_now_leftOver])), (a_now_row, .inl (E.2.1, 81, .inl c_now_row))]) [1, 2] rfl
  have hrc := va_recv hK hPc (ci := 6) (q0 := 0) rfl rfl
  refine pE_z (va_runV (As := []) (rest := [])  ⟨hx, hb, hml, hown, hts⟩ (f_X5_stands l E (a_ := a_now) (a_row := a_now_row) (a_partners := a_now_partners) (a_share := a_now_share) (a_leftOver := a_now_leftOver) (c_askedCount := c_now_askedCount) (c_outcome := c_now_outcome) (c_row := c_now_row) hc_2) (cwV 0 hts g_f_X7_years_f_X5_stands_110 rfl rfl rfl hd_X5_stands ⟨Nat.le_of_ble_eq_true rfl, Nat.le_of_ble_eq_true rfl⟩) ⟨pP.blind, hrc, (pP.pre ⟨hK, hN⟩ hPc)⟩ rfl rfl hl.1 rfl (lv_room (Nat.le_of_ble_eq_true rfl)) dX7_years_4 ⟨Nat.le_of_ble_eq_true rfl, Nat.le_of_ble_eq_true rfl⟩) (fun hb_3 => ?_)
  refine lv_if_eq (tgt := 21) hx hb dX7_years_7 (by decide) (fun c_4 => ?_) (fun c_4 => ?_)
  ·
    replace hF := ip c_4 hF
    refine lv_iconst (v := -1) hx hb dX7_years_21 (by decide) ?_
    rw [hQ]
    have h9 := fin9 (P := fun u9 : Int32 × (Nat → Int32) × (Nat → Int32) × Int32 × Int32 × (Nat → Int32) × (Nat → Int32) × (Nat → Int32) × (Nat → Int32) × Int32 × Int32 × Int64 × Int32 × Int32 × Int32 × Int32 × (Nat → Int32) => (-1 : Int32) = u9.1 ∧ va_P E.1 vwCl (w_X7_years E a_ a_tape a_reader a_scripts a_now a_trial a_kept a_book a_keptBook a_history a_draws a_refused a_now_row a_now_partners a_now_share a_now_leftOver a_book_lines a_history_rows c_hasImage u9.2.2.2.1 u9.2.2.2.2.1 u9.2.1 u9.2.2.1 u9.2.2.2.2.2.1 u9.2.2.2.2.2.2.1 u9.2.2.2.2.2.2.2.1 u9.2.2.2.2.2.2.2.2.2.1 u9.2.2.2.2.2.2.2.2.2.2.1 u9.2.2.2.2.2.2.2.2.1 u9.2.2.2.2.2.2.2.2.2.2.2.1 u9.2.2.2.2.2.2.2.2.2.2.2.2.1 u9.2.2.2.2.2.2.2.2.2.2.2.2.2.1 u9.2.2.2.2.2.2.2.2.2.2.2.2.2.2.1 u9.2.2.2.2.2.2.2.2.2.2.2.2.2.2.2.1 u9.2.2.2.2.2.2.2.2.2.2.2.2.2.2.2.2) H ∧ va_D A (w_X7_years E a_ a_tape a_reader a_scripts a_now a_trial a_kept a_book a_keptBook a_history a_draws a_refused a_now_row a_now_partners a_now_share a_now_leftOver a_book_lines a_history_rows c_hasImage u9.2.2.2.1 u9.2.2.2.2.1 u9.2.1 u9.2.2.1 u9.2.2.2.2.2.1 u9.2.2.2.2.2.2.1 u9.2.2.2.2.2.2.2.1 u9.2.2.2.2.2.2.2.2.2.1 u9.2.2.2.2.2.2.2.2.2.2.1 u9.2.2.2.2.2.2.2.2.1 u9.2.2.2.2.2.2.2.2.2.2.2.1 u9.2.2.2.2.2.2.2.2.2.2.2.2.1 u9.2.2.2.2.2.2.2.2.2.2.2.2.2.1 u9.2.2.2.2.2.2.2.2.2.2.2.2.2.2.1 u9.2.2.2.2.2.2.2.2.2.2.2.2.2.2.2.1 u9.2.2.2.2.2.2.2.2.2.2.2.2.2.2.2.2)) hF ⟨rfl, hP, hD⟩
    obtain ⟨e9_0, hP9, hD9⟩ := h9
    exact W.iret (v := (-1 : Int32)) hx hb hr (fun tt ht hW => ⟨⟨_, (), rfl, e9_0, ht ▸ hP9, hD9⟩, hS.F ht⟩) hS.2.2 dX7_years_22
  ·
    replace hF := inn c_4 hF
    refine lv_iload_n hx hb dX7_years_10 rfl (lv_at hl 1 rfl) ?_
    refine lv_iconst (v := 1) hx hb dX7_years_11 (by decide) ?_
    refine lv_icmp_lt (tgt := 21) hx hb dX7_years_12 (by decide) (fun c_5 => ?_) (fun c_5 => ?_)
    ·
      replace hF := ip c_5 hF
      refine lv_iconst (v := -1) hx hb dX7_years_21 (by decide) ?_
      rw [hQ]
      have h9 := fin9 (P := fun u9 : Int32 × (Nat → Int32) × (Nat → Int32) × Int32 × Int32 × (Nat → Int32) × (Nat → Int32) × (Nat → Int32) × (Nat → Int32) × Int32 × Int32 × Int64 × Int32 × Int32 × Int32 × Int32 × (Nat → Int32) => (-1 : Int32) = u9.1 ∧ va_P E.1 vwCl (w_X7_years E a_ a_tape a_reader a_scripts a_now a_trial a_kept a_book a_keptBook a_history a_draws a_refused a_now_row a_now_partners a_now_share a_now_leftOver a_book_lines a_history_rows c_hasImage u9.2.2.2.1 u9.2.2.2.2.1 u9.2.1 u9.2.2.1 u9.2.2.2.2.2.1 u9.2.2.2.2.2.2.1 u9.2.2.2.2.2.2.2.1 u9.2.2.2.2.2.2.2.2.2.1 u9.2.2.2.2.2.2.2.2.2.2.1 u9.2.2.2.2.2.2.2.2.1 u9.2.2.2.2.2.2.2.2.2.2.2.1 u9.2.2.2.2.2.2.2.2.2.2.2.2.1 u9.2.2.2.2.2.2.2.2.2.2.2.2.2.1 u9.2.2.2.2.2.2.2.2.2.2.2.2.2.2.1 u9.2.2.2.2.2.2.2.2.2.2.2.2.2.2.2.1 u9.2.2.2.2.2.2.2.2.2.2.2.2.2.2.2.2) H ∧ va_D A (w_X7_years E a_ a_tape a_reader a_scripts a_now a_trial a_kept a_book a_keptBook a_history a_draws a_refused a_now_row a_now_partners a_now_share a_now_leftOver a_book_lines a_history_rows c_hasImage u9.2.2.2.1 u9.2.2.2.2.1 u9.2.1 u9.2.2.1 u9.2.2.2.2.2.1 u9.2.2.2.2.2.2.1 u9.2.2.2.2.2.2.2.1 u9.2.2.2.2.2.2.2.2.2.1 u9.2.2.2.2.2.2.2.2.2.2.1 u9.2.2.2.2.2.2.2.2.1 u9.2.2.2.2.2.2.2.2.2.2.2.1 u9.2.2.2.2.2.2.2.2.2.2.2.2.1 u9.2.2.2.2.2.2.2.2.2.2.2.2.2.1 u9.2.2.2.2.2.2.2.2.2.2.2.2.2.2.1 u9.2.2.2.2.2.2.2.2.2.2.2.2.2.2.2.1 u9.2.2.2.2.2.2.2.2.2.2.2.2.2.2.2.2)) hF ⟨rfl, hP, hD⟩
      obtain ⟨e9_0, hP9, hD9⟩ := h9
      exact W.iret (v := (-1 : Int32)) hx hb hr (fun tt ht hW => ⟨⟨_, (), rfl, e9_0, ht ▸ hP9, hD9⟩, hS.F ht⟩) hS.2.2 dX7_years_22
    ·
      replace hF := inn c_5 hF
      refine lv_iload_n hx hb dX7_years_15 rfl (lv_at hl 1 rfl) ?_
      refine lv_bipush (v := 40) hx hb dX7_years_16 (by decide) ?_
      refine lv_icmp_le (tgt := 23) hx hb dX7_years_18 (by decide) (fun c_6 => ?_) (fun c_6 => ?_)
      ·
        replace hF := ip c_6 hF
        refine lv_aload_n hx hb dX7_years_23 rfl (lv_at hl 0 rfl) ?_
        refine gt_X7_9 (v := .ref a_draws) hx hb hts i_f_X7_years_X7 hown hK hP 0 rfl (hts (.fieldLink RX7 65 "HushWatch" "draws" "LHushWatch$Draws;") (List.mem_of_getElem? (i := 2) rfl)) rfl dX7_years_24 ?_
        refine lv_lload_n hx hb dX7_years_27 rfl (lv_at hl 2 rfl) ?_
        refine va_putN (D := E.1) (ci := 2) (v := .long p2) (ty := .long) (C := RX1) (T := TX1) (N := 5) hx hb hts i_f_X7_years_X1 tyX1 tyX1_ok nmX1 hown hK hP hD hS 10 rfl rfl 0 (by decide) (nx hN 20 rfl) (fun _ h9 => h9) rfl (by decide +kernel) rfl rfl (Nat.le_of_ble_eq_true rfl) dX7_years_28 (fun H locs hP hD hS => ?_)
        replace hP : va_P E.1 vwCl [(a_, .inr (8, [.ref a_tape, .ref a_reader, .ref a_scripts, .ref a_now, .ref a_trial, .ref a_kept, .ref a_book, .ref a_keptBook, .ref a_history, .ref a_draws, .ref a_refused, .int c_hasImage])), (a_now, .inr (6, [.ref a_now_row, .ref a_now_partners, .int c_now_askedCount, .int c_now_outcome, .ref a_now_share, .ref a_now_leftOver])), (a_now_row, .inl (E.2.1, 81, .inl c_now_row)), (a_now_partners, .inl (E.2.1, 8, .inl c_now_partners)), (a_now_share, .inl (E.2.1, 2, .inl c_now_share)), (a_now_leftOver, .inl (E.2.1, 2, .inl c_now_leftOver)), (a_book, .inr (1, [.ref a_book_lines])), (a_book_lines, .inl (E.2.1, 300, .inl c_book_lines)), (a_history, .inr (3, [.ref a_history_rows, .int c_history_next, .int c_history_held])), (a_history_rows, .inl (E.2.1, 3240, .inl c_history_rows)), (a_draws, .inr (2, [.long p2, .int c_draws_sort, .int c_draws_a, .int c_draws_b, .int c_draws_c])), (a_refused, .inl (E.2.1, 3, .inl c_refused))] H := hP
        replace hD : va_D A [(a_, .inr (8, [.ref a_tape, .ref a_reader, .ref a_scripts, .ref a_now, .ref a_trial, .ref a_kept, .ref a_book, .ref a_keptBook, .ref a_history, .ref a_draws, .ref a_refused, .int c_hasImage])), (a_now, .inr (6, [.ref a_now_row, .ref a_now_partners, .int c_now_askedCount, .int c_now_outcome, .ref a_now_share, .ref a_now_leftOver])), (a_now_row, .inl (E.2.1, 81, .inl c_now_row)), (a_now_partners, .inl (E.2.1, 8, .inl c_now_partners)), (a_now_share, .inl (E.2.1, 2, .inl c_now_share)), (a_now_leftOver, .inl (E.2.1, 2, .inl c_now_leftOver)), (a_book, .inr (1, [.ref a_book_lines])), (a_book_lines, .inl (E.2.1, 300, .inl c_book_lines)), (a_history, .inr (3, [.ref a_history_rows, .int c_history_next, .int c_history_held])), (a_history_rows, .inl (E.2.1, 3240, .inl c_history_rows)), (a_draws, .inr (2, [.long p2, .int c_draws_sort, .int c_draws_a, .int c_draws_b, .int c_draws_c])), (a_refused, .inl (E.2.1, 3, .inl c_refused))] := hD
        refine lv_iconst (v := 0) hx hb dX7_years_31 (by decide) ?_
        refine lv_istore (lv' := [(4, .int (0 : Int32)), (0, .ref a_), (1, .int p1), (2, .long p2)]) hx hb dX7_years_32 hl (by decide) rfl (fun ls hl => ?_)
        refine lv_iconst (v := 0) hx hb dX7_years_34 (by decide) ?_
        refine lv_istore (lv' := [(5, .int (0 : Int32)), (4, .int (0 : Int32)), (0, .ref a_), (1, .int p1), (2, .long p2)]) hx hb dX7_years_35 hl (by decide) rfl (fun ls hl => ?_)
        replace hF := bd17_s hF
        obtain ⟨x4_29, c_now_row_30, c_now_partners_31, c_now_askedCount_32, c_now_outcome_33, c_now_share_34, c_now_leftOver_35, c_book_lines_36, c_history_rows_37, c_history_next_38, c_history_held_39, c_draws_x_40, c_draws_sort_41, c_draws_a_42, c_draws_b_43, c_draws_c_44, c_refused_45, hL_46, hF⟩ := hF
        refine lw_X7_years_37 l E K (p1 := p1) (p2 := p2) (c_hasImage := c_hasImage) hx hb hml hown hts hK hN hA K (0 : Int32) (0 : Int32) c_now_row c_now_partners c_now_askedCount c_now_outcome c_now_share c_now_leftOver c_book_lines c_history_rows c_history_next c_history_held p2 c_draws_sort c_draws_a c_draws_b c_draws_c c_refused x4_29 c_now_row_30 c_now_partners_31 c_now_askedCount_32 c_now_outcome_33 c_now_share_34 c_now_leftOver_35 c_book_lines_36 c_history_rows_37 c_history_next_38 c_history_held_39 c_draws_x_40 c_draws_sort_41 c_draws_a_42 c_draws_b_43 c_draws_c_44 c_refused_45 hL_46 ?_ H locs ls (hP.sub [0, 1, 2, 3, 4, 5, 6, 7, 8, 9, 10, 11] rfl) (hD.sub [0, 1, 2, 3, 4, 5, 6, 7, 8, 9, 10, 11] (by decide) rfl) hS (lv_sub hl [2, 3, 1, 0] rfl)
        ·
          intro H locs ls hP hD hS hl
          replace hP : va_P E.1 vwCl [(a_, .inr (8, [.ref a_tape, .ref a_reader, .ref a_scripts, .ref a_now, .ref a_trial, .ref a_kept, .ref a_book, .ref a_keptBook, .ref a_history, .ref a_draws, .ref a_refused, .int c_hasImage])), (a_now, .inr (6, [.ref a_now_row, .ref a_now_partners, .int c_now_askedCount_32, .int c_now_outcome_33, .ref a_now_share, .ref a_now_leftOver])), (a_now_row, .inl (E.2.1, 81, .inl c_now_row_30)), (a_now_partners, .inl (E.2.1, 8, .inl c_now_partners_31)), (a_now_share, .inl (E.2.1, 2, .inl c_now_share_34)), (a_now_leftOver, .inl (E.2.1, 2, .inl c_now_leftOver_35)), (a_book, .inr (1, [.ref a_book_lines])), (a_book_lines, .inl (E.2.1, 300, .inl c_book_lines_36)), (a_history, .inr (3, [.ref a_history_rows, .int c_history_next_38, .int c_history_held_39])), (a_history_rows, .inl (E.2.1, 3240, .inl c_history_rows_37)), (a_draws, .inr (2, [.long c_draws_x_40, .int c_draws_sort_41, .int c_draws_a_42, .int c_draws_b_43, .int c_draws_c_44])), (a_refused, .inl (E.2.1, 3, .inl c_refused_45))] H := hP
          replace hD : va_D A [(a_, .inr (8, [.ref a_tape, .ref a_reader, .ref a_scripts, .ref a_now, .ref a_trial, .ref a_kept, .ref a_book, .ref a_keptBook, .ref a_history, .ref a_draws, .ref a_refused, .int c_hasImage])), (a_now, .inr (6, [.ref a_now_row, .ref a_now_partners, .int c_now_askedCount_32, .int c_now_outcome_33, .ref a_now_share, .ref a_now_leftOver])), (a_now_row, .inl (E.2.1, 81, .inl c_now_row_30)), (a_now_partners, .inl (E.2.1, 8, .inl c_now_partners_31)), (a_now_share, .inl (E.2.1, 2, .inl c_now_share_34)), (a_now_leftOver, .inl (E.2.1, 2, .inl c_now_leftOver_35)), (a_book, .inr (1, [.ref a_book_lines])), (a_book_lines, .inl (E.2.1, 300, .inl c_book_lines_36)), (a_history, .inr (3, [.ref a_history_rows, .int c_history_next_38, .int c_history_held_39])), (a_history_rows, .inl (E.2.1, 3240, .inl c_history_rows_37)), (a_draws, .inr (2, [.long c_draws_x_40, .int c_draws_sort_41, .int c_draws_a_42, .int c_draws_b_43, .int c_draws_c_44])), (a_refused, .inl (E.2.1, 3, .inl c_refused_45))] := hD
          refine lv_iload hx hb dX7_years_105 (lv_at hl 0 rfl) ?_
          rw [hQ]
          have h9 := fin9 (P := fun u9 : Int32 × (Nat → Int32) × (Nat → Int32) × Int32 × Int32 × (Nat → Int32) × (Nat → Int32) × (Nat → Int32) × (Nat → Int32) × Int32 × Int32 × Int64 × Int32 × Int32 × Int32 × Int32 × (Nat → Int32) => x4_29 = u9.1 ∧ va_P E.1 vwCl (w_X7_years E a_ a_tape a_reader a_scripts a_now a_trial a_kept a_book a_keptBook a_history a_draws a_refused a_now_row a_now_partners a_now_share a_now_leftOver a_book_lines a_history_rows c_hasImage u9.2.2.2.1 u9.2.2.2.2.1 u9.2.1 u9.2.2.1 u9.2.2.2.2.2.1 u9.2.2.2.2.2.2.1 u9.2.2.2.2.2.2.2.1 u9.2.2.2.2.2.2.2.2.2.1 u9.2.2.2.2.2.2.2.2.2.2.1 u9.2.2.2.2.2.2.2.2.1 u9.2.2.2.2.2.2.2.2.2.2.2.1 u9.2.2.2.2.2.2.2.2.2.2.2.2.1 u9.2.2.2.2.2.2.2.2.2.2.2.2.2.1 u9.2.2.2.2.2.2.2.2.2.2.2.2.2.2.1 u9.2.2.2.2.2.2.2.2.2.2.2.2.2.2.2.1 u9.2.2.2.2.2.2.2.2.2.2.2.2.2.2.2.2) H ∧ va_D A (w_X7_years E a_ a_tape a_reader a_scripts a_now a_trial a_kept a_book a_keptBook a_history a_draws a_refused a_now_row a_now_partners a_now_share a_now_leftOver a_book_lines a_history_rows c_hasImage u9.2.2.2.1 u9.2.2.2.2.1 u9.2.1 u9.2.2.1 u9.2.2.2.2.2.1 u9.2.2.2.2.2.2.1 u9.2.2.2.2.2.2.2.1 u9.2.2.2.2.2.2.2.2.2.1 u9.2.2.2.2.2.2.2.2.2.2.1 u9.2.2.2.2.2.2.2.2.1 u9.2.2.2.2.2.2.2.2.2.2.2.1 u9.2.2.2.2.2.2.2.2.2.2.2.2.1 u9.2.2.2.2.2.2.2.2.2.2.2.2.2.1 u9.2.2.2.2.2.2.2.2.2.2.2.2.2.2.1 u9.2.2.2.2.2.2.2.2.2.2.2.2.2.2.2.1 u9.2.2.2.2.2.2.2.2.2.2.2.2.2.2.2.2)) hF ⟨rfl, hP, hD⟩
          obtain ⟨e9_0, hP9, hD9⟩ := h9
          exact W.iret (v := x4_29) hx hb hr (fun tt ht hW => ⟨⟨_, (), rfl, e9_0, ht ▸ hP9, hD9⟩, hS.F ht⟩) hS.2.2 dX7_years_107
      ·
        replace hF := inn c_6 hF
        refine lv_iconst (v := -1) hx hb dX7_years_21 (by decide) ?_
        rw [hQ]
        have h9 := fin9 (P := fun u9 : Int32 × (Nat → Int32) × (Nat → Int32) × Int32 × Int32 × (Nat → Int32) × (Nat → Int32) × (Nat → Int32) × (Nat → Int32) × Int32 × Int32 × Int64 × Int32 × Int32 × Int32 × Int32 × (Nat → Int32) => (-1 : Int32) = u9.1 ∧ va_P E.1 vwCl (w_X7_years E a_ a_tape a_reader a_scripts a_now a_trial a_kept a_book a_keptBook a_history a_draws a_refused a_now_row a_now_partners a_now_share a_now_leftOver a_book_lines a_history_rows c_hasImage u9.2.2.2.1 u9.2.2.2.2.1 u9.2.1 u9.2.2.1 u9.2.2.2.2.2.1 u9.2.2.2.2.2.2.1 u9.2.2.2.2.2.2.2.1 u9.2.2.2.2.2.2.2.2.2.1 u9.2.2.2.2.2.2.2.2.2.2.1 u9.2.2.2.2.2.2.2.2.1 u9.2.2.2.2.2.2.2.2.2.2.2.1 u9.2.2.2.2.2.2.2.2.2.2.2.2.1 u9.2.2.2.2.2.2.2.2.2.2.2.2.2.1 u9.2.2.2.2.2.2.2.2.2.2.2.2.2.2.1 u9.2.2.2.2.2.2.2.2.2.2.2.2.2.2.2.1 u9.2.2.2.2.2.2.2.2.2.2.2.2.2.2.2.2) H ∧ va_D A (w_X7_years E a_ a_tape a_reader a_scripts a_now a_trial a_kept a_book a_keptBook a_history a_draws a_refused a_now_row a_now_partners a_now_share a_now_leftOver a_book_lines a_history_rows c_hasImage u9.2.2.2.1 u9.2.2.2.2.1 u9.2.1 u9.2.2.1 u9.2.2.2.2.2.1 u9.2.2.2.2.2.2.1 u9.2.2.2.2.2.2.2.1 u9.2.2.2.2.2.2.2.2.2.1 u9.2.2.2.2.2.2.2.2.2.2.1 u9.2.2.2.2.2.2.2.2.1 u9.2.2.2.2.2.2.2.2.2.2.2.1 u9.2.2.2.2.2.2.2.2.2.2.2.2.1 u9.2.2.2.2.2.2.2.2.2.2.2.2.2.1 u9.2.2.2.2.2.2.2.2.2.2.2.2.2.2.1 u9.2.2.2.2.2.2.2.2.2.2.2.2.2.2.2.1 u9.2.2.2.2.2.2.2.2.2.2.2.2.2.2.2.2)) hF ⟨rfl, hP, hD⟩
        obtain ⟨e9_0, hP9, hD9⟩ := h9
        exact W.iret (v := (-1 : Int32)) hx hb hr (fun tt ht hW => ⟨⟨_, (), rfl, e9_0, ht ▸ hP9, hD9⟩, hS.F ht⟩) hS.2.2 dX7_years_22
end
-- 50.px
section
/-! the functions' own arithmetic: what the combinators are at known values, loops by their steps -/
theorem xb1 {t0 β : Type} {a0 : t0} {f : t0 → Option β} : bd1 (some a0) f = f a0 := rfl
theorem xb2 {t0 t1 β : Type} {a0 : t0} {a1 : t1} {f : t0 → t1 → Option β} : bd2 (some (a0, a1)) f = f a0 a1 := rfl
theorem xb3 {t0 t1 t2 β : Type} {a0 : t0} {a1 : t1} {a2 : t2} {f : t0 → t1 → t2 → Option β} : bd3 (some (a0, a1, a2)) f = f a0 a1 a2 := rfl
theorem xb4 {t0 t1 t2 t3 β : Type} {a0 : t0} {a1 : t1} {a2 : t2} {a3 : t3} {f : t0 → t1 → t2 → t3 → Option β} : bd4 (some (a0, a1, a2, a3)) f = f a0 a1 a2 a3 := rfl
theorem xb5 {t0 t1 t2 t3 t4 β : Type} {a0 : t0} {a1 : t1} {a2 : t2} {a3 : t3} {a4 : t4} {f : t0 → t1 → t2 → t3 → t4 → Option β} : bd5 (some (a0, a1, a2, a3, a4)) f = f a0 a1 a2 a3 a4 := rfl
theorem xb6 {t0 t1 t2 t3 t4 t5 β : Type} {a0 : t0} {a1 : t1} {a2 : t2} {a3 : t3} {a4 : t4} {a5 : t5} {f : t0 → t1 → t2 → t3 → t4 → t5 → Option β} : bd6 (some (a0, a1, a2, a3, a4, a5)) f = f a0 a1 a2 a3 a4 a5 := rfl
theorem xb7 {t0 t1 t2 t3 t4 t5 t6 β : Type} {a0 : t0} {a1 : t1} {a2 : t2} {a3 : t3} {a4 : t4} {a5 : t5} {a6 : t6} {f : t0 → t1 → t2 → t3 → t4 → t5 → t6 → Option β} : bd7 (some (a0, a1, a2, a3, a4, a5, a6)) f = f a0 a1 a2 a3 a4 a5 a6 := rfl
theorem xb8 {t0 t1 t2 t3 t4 t5 t6 t7 β : Type} {a0 : t0} {a1 : t1} {a2 : t2} {a3 : t3} {a4 : t4} {a5 : t5} {a6 : t6} {a7 : t7} {f : t0 → t1 → t2 → t3 → t4 → t5 → t6 → t7 → Option β} : bd8 (some (a0, a1, a2, a3, a4, a5, a6, a7)) f = f a0 a1 a2 a3 a4 a5 a6 a7 := rfl
theorem xb9 {t0 t1 t2 t3 t4 t5 t6 t7 t8 β : Type} {a0 : t0} {a1 : t1} {a2 : t2} {a3 : t3} {a4 : t4} {a5 : t5} {a6 : t6} {a7 : t7} {a8 : t8} {f : t0 → t1 → t2 → t3 → t4 → t5 → t6 → t7 → t8 → Option β} : bd9 (some (a0, a1, a2, a3, a4, a5, a6, a7, a8)) f = f a0 a1 a2 a3 a4 a5 a6 a7 a8 := rfl
theorem xnm {α β : Type} {x : α} {g : α → Option β} : nmF x g = g x := rfl
theorem xix {α : Type} {i : Int32} {n : Nat} {g : Option α} (h : vp_in i n) : ixF i n g = g := by unfold ixF; exact if_neg h
theorem xixn {α : Type} {i n : Nat} {g : Option α} (hi : i < n) (hn : n < 2 ^ 31) : ixF (nI i) n g = g := xix (nI_in hi hn)
theorem xlt {α : Type} {i n : Nat} {g : Option α} (hi : i < n) : ltF i n g = g := by unfold ltF; exact if_pos hi
theorem lp_one {σ ρ : Type} {b : σ → Option (σ ⊕ ρ)} {u u' : σ} {j : Nat} (h : b u = some (.inl u')) : lpF b (j + 1) u = lpF b j u' := by
  show (match b u with | none => none | some (.inl u') => lpF b j u' | some (.inr r) => some r) = _
  rw [h]
theorem lp_end {σ ρ : Type} {b : σ → Option (σ ⊕ ρ)} {u : σ} {r : ρ} {j : Nat} (h : b u = some (.inr r)) : lpF b (j + 1) u = some r := by
  show (match b u with | none => none | some (.inl u') => lpF b j u' | some (.inr r) => some r) = _
  rw [h]
theorem lp_forA {σ ρ : Type} {b : σ → Option (σ ⊕ ρ)} {S : Nat → σ} {n : Nat} {r : ρ} (hs : ∀ i, i < n → b (S i) = some (.inl (S (i + 1)))) (he : b (S n) = some (.inr r)) : ∀ (k i K : Nat), i + k = n → k < K → lpF b K (S i) = some r := by
  intro k
  induction k with
  | zero =>
    intro i K h1 h2
    obtain ⟨K', rfl⟩ : ∃ K', K = K' + 1 := ⟨K - 1, by omega⟩
    obtain rfl : i = n := by omega
    exact lp_end he
  | succ k ih =>
    intro i K h1 h2
    obtain ⟨K', rfl⟩ : ∃ K', K = K' + 1 := ⟨K - 1, by omega⟩
    rw [lp_one (hs i (by omega))]
    exact ih (i + 1) K' (by omega) (by omega)
theorem lp_for {σ ρ : Type} {b : σ → Option (σ ⊕ ρ)} (S : Nat → σ) {n : Nat} {r : ρ} {K : Nat} (hK : n < K) (hs : ∀ i, i < n → b (S i) = some (.inl (S (i + 1)))) (he : b (S n) = some (.inr r)) : lpF b K (S 0) = some r := lp_forA hs he n 0 K (by omega) hK
/-- a loop that keeps something and whose measure falls ends, and what it keeps holds at its end -/
theorem lp_tot {σ ρ : Type} {b : σ → Option (σ ⊕ ρ)} (I : Nat → σ → Prop) (R : ρ → Prop) (h : ∀ k u, I k u → ∃ x, b u = some x ∧ (∀ u', x = .inl u' → ∃ k', k' < k ∧ I k' u') ∧ (∀ r, x = .inr r → R r)) : ∀ (K k : Nat) (u : σ), k < K → I k u → ∃ r, lpF b K u = some r ∧ R r := by
  intro K
  induction K with
  | zero => intro k u h1; omega
  | succ K ih =>
    intro k u h1 h2
    obtain ⟨x, hx, ha, hb⟩ := h k u h2
    cases x with
    | inl u' =>
      obtain ⟨k', hk', hI⟩ := ha u' rfl
      rw [lp_one hx]
      exact ih k' u' (by omega) hI
    | inr r =>
      rw [lp_end hx]
      exact ⟨r, rfl, hb r rfl⟩
/-- numbers of the program that are naturals -/
theorem ple {a b : Nat} (ha : a < 2 ^ 31) (hb : b < 2 ^ 31) : (nI a ≤ nI b) = (a ≤ b) := propext (nI_leI ha hb)
theorem plt {a b : Nat} (ha : a < 2 ^ 31) (hb : b < 2 ^ 31) : (nI a < nI b) = (a < b) := propext (nI_ltI ha hb)
theorem peq {a b : Nat} (ha : a < 2 ^ 31) (hb : b < 2 ^ 31) : (nI a = nI b) = (a = b) := propext (nI_eq ha hb)
theorem xle {α : Type} {a b : Nat} {x y : α} {d : Decidable (nI a ≤ nI b)} (ha : a < 2 ^ 31) (hb : b < 2 ^ 31) : (@ite α (nI a ≤ nI b) d x y) = (if a ≤ b then x else y) := by
  by_cases q : a ≤ b
  · rw [if_pos q, if_pos ((nI_leI ha hb).mpr q)]
  · rw [if_neg q, if_neg (fun z => q ((nI_leI ha hb).mp z))]
theorem xltn {α : Type} {a b : Nat} {x y : α} {d : Decidable (nI a < nI b)} (ha : a < 2 ^ 31) (hb : b < 2 ^ 31) : (@ite α (nI a < nI b) d x y) = (if a < b then x else y) := by
  by_cases q : a < b
  · rw [if_pos q, if_pos ((nI_ltI ha hb).mpr q)]
  · rw [if_neg q, if_neg (fun z => q ((nI_ltI ha hb).mp z))]
theorem xeq {α : Type} {a b : Nat} {x y : α} {d : Decidable (nI a = nI b)} (ha : a < 2 ^ 31) (hb : b < 2 ^ 31) : (@ite α (nI a = nI b) d x y) = (if a = b then x else y) := by
  by_cases q : a = b
  · rw [if_pos q, if_pos ((nI_eq ha hb).mpr q)]
  · rw [if_neg q, if_neg (fun z => q ((nI_eq ha hb).mp z))]
theorem xsub {a b : Nat} (h : b ≤ a) : nI a - nI b = nI (a - b) := by
  have e : nI a = nI (a - b) + nI b := by rw [nI_add]; congr 1; omega
  rw [e]
  exact Int32.add_sub_cancel _ _
theorem upd_at {f : Nat → Int32} {i : Nat} {x : Int32} : upd f i x i = x := by unfold upd; exact if_pos rfl
/-- where p ends, from a on, seen with k looks -/
def scF (p : Nat → Bool) : Nat → Nat → Nat
  | 0, a => a
  | k + 1, a => if p a = true then scF p k (a + 1) else a
def sc (p : Nat → Bool) (n a : Nat) : Nat := scF p (n - a) a
theorem sc_no {p : Nat → Bool} {n a : Nat} (h : p a = false) : sc p n a = a := by
  unfold sc
  cases n - a with
  | zero => rfl
  | succ k => show (if p a = true then scF p k (a + 1) else a) = a; rw [h]; rfl
theorem sc_yes {p : Nat → Bool} {n a : Nat} (ha : a < n) (h : p a = true) : sc p n a = sc p n (a + 1) := by
  unfold sc
  rw [show n - a = (n - (a + 1)) + 1 by omega]
  show (if p a = true then scF p (n - (a + 1)) (a + 1) else a) = _
  rw [if_pos h]
theorem sc_spec {p : Nat → Bool} {n : Nat} (hp : ∀ i, n ≤ i → p i = false) : ∀ (k a : Nat), n - a ≤ k → a ≤ n → a ≤ sc p n a ∧ sc p n a ≤ n ∧ p (sc p n a) = false ∧ ∀ i, a ≤ i → i < sc p n a → p i = true := by
  intro k
  induction k with
  | zero =>
    intro a h1 h2
    have e : sc p n a = a := sc_no (hp a (by omega))
    rw [e]
    exact ⟨Nat.le_refl _, h2, hp a (by omega), fun i h3 h4 => by omega⟩
  | succ k ih =>
    intro a h1 h2
    cases hq : p a with
    | false =>
      rw [sc_no hq]
      exact ⟨Nat.le_refl _, h2, hq, fun i h3 h4 => by omega⟩
    | true =>
      have hlt : a < n := Nat.lt_of_not_le (fun h => by rw [hp a h] at hq; cases hq)
      rw [sc_yes hlt hq]
      obtain ⟨i1, i2, i3, i4⟩ := ih (a + 1) (by omega) (by omega)
      exact ⟨by omega, i2, i3, fun i h3 h4 => by
        by_cases e : i = a
        · rw [e]; exact hq
        · exact i4 i (by omega) h4⟩
theorem sc_ge {p : Nat → Bool} {n a : Nat} (hp : ∀ i, n ≤ i → p i = false) (h : a ≤ n) : a ≤ sc p n a := (sc_spec hp _ a (Nat.le_refl _) h).1
theorem sc_le {p : Nat → Bool} {n a : Nat} (hp : ∀ i, n ≤ i → p i = false) (h : a ≤ n) : sc p n a ≤ n := (sc_spec hp _ a (Nat.le_refl _) h).2.1
theorem sc_end {p : Nat → Bool} {n a : Nat} (hp : ∀ i, n ≤ i → p i = false) (h : a ≤ n) : p (sc p n a) = false := (sc_spec hp _ a (Nat.le_refl _) h).2.2.1
theorem sc_in {p : Nat → Bool} {n a i : Nat} (hp : ∀ i, n ≤ i → p i = false) (h : a ≤ n) (h1 : a ≤ i) (h2 : i < sc p n a) : p i = true := (sc_spec hp _ a (Nat.le_refl _) h).2.2.2 i h1 h2
theorem sc_idem {p : Nat → Bool} {n a : Nat} (hp : ∀ i, n ≤ i → p i = false) (h : a ≤ n) : sc p n (sc p n a) = sc p n a := sc_no (sc_end hp h)
/-- a loop that looks for the end of p -/
theorem lp_sc {b : Int32 → Option (Int32 ⊕ Int32)} {p : Nat → Bool} {n a K : Nat} (hp : ∀ i, n ≤ i → p i = false) (ha : a ≤ n) (hK : n < K) (h1 : ∀ i, i < n → p i = true → b (nI i) = some (.inl (nI (i + 1)))) (h2 : ∀ i, i ≤ n → p i = false → b (nI i) = some (.inr (nI i))) : lpF b K (nI a) = some (nI (sc p n a)) := by
  have q1 := sc_ge hp ha
  have q2 := sc_le hp ha
  refine lp_for (fun i => nI (a + i)) (n := sc p n a - a) (by omega) (fun i hi => ?_) ?_
  · exact h1 (a + i) (by omega) (sc_in hp ha (by omega) (by omega))
  · show b (nI (a + (sc p n a - a))) = _
    rw [show a + (sc p n a - a) = sc p n a by omega]
    exact h2 _ q2 (sc_end hp ha)
end
-- 51.lx
section
/-! the tape's signs, tokens: what both readers see -/
/-- n signs sg (1 .. 255), -1 beyond -/
def Sg (n : Nat) (sg : Nat → Int32) : Prop := n ≤ 320 ∧ (∀ i, n ≤ i → sg i = -1) ∧ (∀ i, i < n → ¬ sg i = -1)
def TpC (n : Nat) (sg bytes : Nat → Int32) : Prop := ∀ i, i < n → bytes i &&& 255 = sg i
def TpM (n : Nat) (sg tape : Nat → Int32) : Prop := ∀ i, i < n → tape i = sg i
theorem Sg.n {n : Nat} {sg : Nat → Int32} (h : Sg n sg) : n ≤ 320 := h.1
theorem x320 : (320 : Int32) = nI 320 := by decide
theorem x0 : (0 : Int32) = nI 0 := by decide
theorem x1 : (1 : Int32) = nI 1 := by decide
theorem x7 : (7 : Int32) = nI 7 := by decide
theorem x8 : (8 : Int32) = nI 8 := by decide
theorem x12 : (12 : Int32) = nI 12 := by decide
theorem c_sign {n i : Nat} {sg bytes : Nat → Int32} (h : Sg n sg) (hb : TpC n sg bytes) (hi : i ≤ 400) : F_X6_signAt (nI i) bytes (nI n) = some (sg i) := by
  have h1 := h.1
  unfold F_X6_signAt
  rw [if_neg (nI_pos (by omega)), x320, xle (by omega) (by omega), xle (by omega) (by omega)]
  by_cases q : n ≤ i
  · rw [if_pos q, h.2.1 i q]
  · rw [if_neg q, if_neg (by omega), xixn (by omega) (by omega), nI_clamp (by omega), hb i (by omega)]
theorem m_here {n i : Nat} {sg tape : Nat → Int32} (h : Sg n sg) (hb : TpM n sg tape) (hi : i ≤ 400) : F_X8_here tape (nI n) (nI i) = some (sg i) := by
  have h1 := h.1
  unfold F_X8_here
  rw [xle (by omega) (by omega)]
  by_cases q : n ≤ i
  · rw [if_pos q, h.2.1 i q]
  · rw [if_neg q, xixn (by omega) (by omega), nI_clamp (by omega), hb i (by omega)]
def isB (sg : Nat → Int32) (i : Nat) : Bool := decide (sg i = 32)
def isL (sg : Nat → Int32) (i : Nat) : Bool := decide (97 ≤ sg i ∧ sg i ≤ 122)
def isD (sg : Nat → Int32) (i : Nat) : Bool := decide (48 ≤ sg i ∧ sg i ≤ 57)
theorem isB_n {n : Nat} {sg : Nat → Int32} (h : Sg n sg) : ∀ i, n ≤ i → isB sg i = false := fun i hi => by unfold isB; rw [h.2.1 i hi]; decide
theorem isL_n {n : Nat} {sg : Nat → Int32} (h : Sg n sg) : ∀ i, n ≤ i → isL sg i = false := fun i hi => by unfold isL; rw [h.2.1 i hi]; decide
theorem isD_n {n : Nat} {sg : Nat → Int32} (h : Sg n sg) : ∀ i, n ≤ i → isD sg i = false := fun i hi => by unfold isD; rw [h.2.1 i hi]; decide
theorem lt_not {x y : Int32} : x < y ↔ ¬ y ≤ x := by
  rw [Int32.lt_iff_toInt_lt, Int32.le_iff_toInt_le]
  omega
theorem rng3 {x lo hi : Int32} : (if x < lo then some (0 : Int32) else if hi < x then some 0 else some 1) = some (if lo ≤ x ∧ x ≤ hi then 1 else 0) := by
  by_cases h1 : lo ≤ x
  · rw [if_neg (fun q => lt_not.mp q h1)]
    by_cases h2 : x ≤ hi
    · rw [if_neg (fun q => lt_not.mp q h2), if_pos ⟨h1, h2⟩]
    · rw [if_pos (lt_not.mpr h2), if_neg (fun q => h2 q.2)]
  · rw [if_pos (lt_not.mpr h1), if_neg (fun q => h1 q.1)]
theorem c_isLetter {x : Int32} : F_X3_isLetter x = some (if 97 ≤ x ∧ x ≤ 122 then 1 else 0) := rng3
theorem c_isDigit {x : Int32} : F_X3_isDigit x = some (if 48 ≤ x ∧ x ≤ 57 then 1 else 0) := rng3
theorem m_isLetter {x : Int32} : F_X8_isLetter x = some (if 97 ≤ x ∧ x ≤ 122 then 1 else 0) := rng3
theorem m_isDigit {x : Int32} : F_X8_isDigit x = some (if 48 ≤ x ∧ x ≤ 57 then 1 else 0) := rng3
theorem ite01 {c : Prop} {d : Decidable c} (h : c) : (@ite Int32 c d 1 0) = 1 := if_pos h
/-- where blanks end -/
def skp (n : Nat) (sg : Nat → Int32) (a : Nat) : Nat := sc (isB sg) n a
theorem skp_ge {n a : Nat} {sg : Nat → Int32} (h : Sg n sg) (ha : a ≤ n) : a ≤ skp n sg a := sc_ge (isB_n h) ha
theorem skp_le {n a : Nat} {sg : Nat → Int32} (h : Sg n sg) (ha : a ≤ n) : skp n sg a ≤ n := sc_le (isB_n h) ha
theorem skp_idem {n a : Nat} {sg : Nat → Int32} (h : Sg n sg) (ha : a ≤ n) : skp n sg (skp n sg a) = skp n sg a := sc_idem (isB_n h) ha
theorem skp_nb {n a : Nat} {sg : Nat → Int32} (h : Sg n sg) (ha : a ≤ n) : ¬ sg (skp n sg a) = 32 := fun q => by
  have e := sc_end (isB_n h) ha
  unfold isB at e
  exact absurd q (of_decide_eq_false e)
theorem c_skip {K n a : Nat} {sg bytes : Nat → Int32} (h : Sg n sg) (hb : TpC n sg bytes) (hK : 400 ≤ K) (ha : a ≤ n) : F_X3_skipBlanks K bytes (nI n) (nI a) = some (nI (skp n sg a)) := by
  have h1 := h.1
  unfold F_X3_skipBlanks
  rw [show lpF (fun u9 : Int32 => B_X3_skipBlanks_0 (nI n) bytes u9) K (nI a) = some (nI (skp n sg a)) from lp_sc (isB_n h) ha (by omega) (fun i hi hp => ?_) (fun i hi hp => ?_)]
  · rfl
  · unfold isB at hp
    show B_X3_skipBlanks_0 (nI n) bytes (nI i) = _
    unfold B_X3_skipBlanks_0
    rw [xle (by omega) (by omega), if_neg (by omega), c_sign h hb (by omega), xb1, if_pos (of_decide_eq_true hp), nI_1]
  · unfold isB at hp
    show B_X3_skipBlanks_0 (nI n) bytes (nI i) = _
    unfold B_X3_skipBlanks_0
    rw [c_sign h hb (by omega), xb1, if_neg (of_decide_eq_false hp)]
    split <;> rfl
theorem m_skip {K n a : Nat} {sg tape : Nat → Int32} (h : Sg n sg) (hb : TpM n sg tape) (hK : 400 ≤ K) (ha : a ≤ n) : lpF (fun u9 : Int32 => B_X8_next_0 (nI n) tape u9) K (nI a) = some (nI (skp n sg a)) := by
  have h1 := h.1
  refine lp_sc (isB_n h) ha (by omega) (fun i hi hp => ?_) (fun i hi hp => ?_)
  · unfold isB at hp
    show B_X8_next_0 (nI n) tape (nI i) = _
    unfold B_X8_next_0
    rw [m_here h hb (by omega), xb1, if_pos (of_decide_eq_true hp), nI_1]
  · unfold isB at hp
    show B_X8_next_0 (nI n) tape (nI i) = _
    unfold B_X8_next_0
    rw [m_here h hb (by omega), xb1, if_neg (of_decide_eq_false hp)]
/-- where letters end -/
def wE (n : Nat) (sg : Nat → Int32) (b : Nat) : Nat := sc (isL sg) n b
theorem wE_ge {n a : Nat} {sg : Nat → Int32} (h : Sg n sg) (ha : a ≤ n) : a ≤ wE n sg a := sc_ge (isL_n h) ha
theorem wE_le {n a : Nat} {sg : Nat → Int32} (h : Sg n sg) (ha : a ≤ n) : wE n sg a ≤ n := sc_le (isL_n h) ha
theorem wE_in {n a i : Nat} {sg : Nat → Int32} (h : Sg n sg) (ha : a ≤ n) (h1 : a ≤ i) (h2 : i < wE n sg a) : 97 ≤ sg i ∧ sg i ≤ 122 := of_decide_eq_true (sc_in (isL_n h) ha h1 h2)
theorem wE_end {n a : Nat} {sg : Nat → Int32} (h : Sg n sg) (ha : a ≤ n) : ¬ (97 ≤ sg (wE n sg a) ∧ sg (wE n sg a) ≤ 122) := of_decide_eq_false (sc_end (isL_n h) ha)
theorem wE_lt {n b : Nat} {sg : Nat → Int32} (h : Sg n sg) (hb : b ≤ n) : b < wE n sg b ↔ (97 ≤ sg b ∧ sg b ≤ 122) := by
  constructor
  · intro q; exact wE_in h hb (Nat.le_refl _) q
  · intro q
    have hlt : b < n := Nat.lt_of_not_le (fun z => by rw [h.2.1 b z] at q; exact absurd q (by decide))
    have e : wE n sg b = wE n sg (b + 1) := sc_yes hlt (by unfold isL; exact decide_eq_true q)
    have := wE_ge h (a := b + 1) (by omega)
    omega
theorem c_letters {K n b : Nat} {sg bytes : Nat → Int32} (h : Sg n sg) (hb : TpC n sg bytes) (hK : 400 ≤ K) (ha : b ≤ n) : lpF (fun u9 : Int32 => B_X3_readWord_12 (nI n) bytes u9) K (nI b) = some (nI (wE n sg b)) := by
  have h1 := h.1
  refine lp_sc (isL_n h) ha (by omega) (fun i hi hp => ?_) (fun i hi hp => ?_)
  · unfold isL at hp
    show B_X3_readWord_12 (nI n) bytes (nI i) = _
    unfold B_X3_readWord_12
    rw [xle (by omega) (by omega), if_neg (by omega), c_sign h hb (by omega), xb1, c_isLetter, xb1, if_pos (of_decide_eq_true hp), if_neg (by decide), nI_1]
  · unfold isL at hp
    show B_X3_readWord_12 (nI n) bytes (nI i) = _
    unfold B_X3_readWord_12
    rw [c_sign h hb (by omega), xb1, c_isLetter, xb1, if_neg (of_decide_eq_false hp), if_pos rfl]
    split <;> rfl
/-- readWord of the class: it stands at a, blanks end at b -/
theorem c_readWord {K n a : Nat} {sg bytes : Nat → Int32} {w f : Int32} (h : Sg n sg) (hb : TpC n sg bytes) (hK : 400 ≤ K) (ha : a ≤ n) : F_X3_readWord K bytes (nI n) (nI a) w f = some (if skp n sg a < wE n sg (skp n sg a) then (1, nI (wE n sg (skp n sg a)), nI (skp n sg a), f) else (0, nI (wE n sg (skp n sg a)), nI (skp n sg a), nI (skp n sg a))) := by
  have h1 := h.1
  have h2 := skp_le h ha
  have h3 := wE_le h h2
  have h4 := wE_ge h h2
  unfold F_X3_readWord
  rw [c_skip h hb hK ha, xb1, c_letters h hb hK h2, xb1]
  unfold J_X3_readWord_56
  rw [xltn (by omega) (by omega)]
  by_cases q : skp n sg a < wE n sg (skp n sg a)
  · rw [if_pos q, if_pos q]
  · rw [if_neg q, if_neg q]
    unfold F_X3_failAt
    rw [xb2, if_pos rfl, show wE n sg (skp n sg a) = skp n sg a by omega]
theorem c_readSign {K n a : Nat} {sg bytes : Nat → Int32} {p f : Int32} (h : Sg n sg) (hb : TpC n sg bytes) (hK : 400 ≤ K) (ha : a ≤ n) : F_X3_readSign K p bytes (nI n) (nI a) f = some (if sg (skp n sg a) = p then (1, nI (skp n sg a + 1), f) else (0, nI (skp n sg a), nI (skp n sg a))) := by
  have h1 := h.1
  have h2 := skp_le h ha
  unfold F_X3_readSign
  rw [c_skip h hb hK ha, xb1, c_sign h hb (by omega), xb1]
  by_cases q : sg (skp n sg a) = p
  · rw [if_pos q, if_pos q, nI_1]
  · rw [if_neg q, if_neg q]
    rfl
theorem c_isAtEnd {K n a : Nat} {sg bytes : Nat → Int32} (h : Sg n sg) (hb : TpC n sg bytes) (hK : 400 ≤ K) (ha : a ≤ n) : F_X3_isAtEnd K bytes (nI n) (nI a) = some (if sg (skp n sg a) = -1 then 1 else 0, nI (skp n sg a)) := by
  have h1 := h.1
  have h2 := skp_le h ha
  unfold F_X3_isAtEnd
  rw [c_skip h hb hK ha, xb1, xltn (by omega) (by omega)]
  by_cases q : skp n sg a < n
  · rw [if_pos q, if_neg (h.2.2 _ q)]
  · rw [if_neg q, if_pos (h.2.1 _ (by omega))]
end
-- 52.tk
section
/-! tokens -/
theorem i64le {x y : Int32} : x.toInt64 ≤ y.toInt64 ↔ x ≤ y := by rw [Int64.le_iff_toInt_le, Int32.toInt_toInt64, Int32.toInt_toInt64, Int32.le_iff_toInt_le]
theorem i64lt {x y : Int32} : x.toInt64 < y.toInt64 ↔ x < y := by rw [Int64.lt_iff_toInt_lt, Int32.toInt_toInt64, Int32.toInt_toInt64, Int32.lt_iff_toInt_lt]
theorem lt_not64 {x y : Int64} : x < y ↔ ¬ y ≤ x := by
  rw [Int64.lt_iff_toInt_lt, Int64.le_iff_toInt_le]
  omega
theorem m_in {x lo hi : Int64} : F_X8_in x lo hi = some (if lo ≤ x ∧ x ≤ hi then 1 else 0) := by
  unfold F_X8_in
  by_cases h1 : lo ≤ x
  · rw [if_neg (fun q => lt_not64.mp ((lg_cmp_lt x lo).mp q) h1)]
    by_cases h2 : x ≤ hi
    · rw [if_neg (fun q => lt_not64.mp ((lg_cmp_gt x hi).mp q) h2), if_pos ⟨h1, h2⟩]
    · rw [if_pos ((lg_cmp_gt x hi).mpr (lt_not64.mpr h2)), if_neg (fun q => h2 q.2)]
  · rw [if_pos ((lg_cmp_lt x lo).mpr (lt_not64.mpr h1)), if_neg (fun q => h1 q.1)]
theorem m_inI {x lo hi : Int32} : F_X8_in x.toInt64 lo.toInt64 hi.toInt64 = some (if lo ≤ x ∧ x ≤ hi then 1 else 0) := by
  rw [m_in]
  by_cases h : lo ≤ x ∧ x ≤ hi
  · rw [if_pos h, if_pos ⟨i64le.mpr h.1, i64le.mpr h.2⟩]
  · rw [if_neg h, if_neg (fun q => h ⟨i64le.mp q.1, i64le.mp q.2⟩)]
def d0 (sg : Nat → Int32) (b : Nat) : Nat := if sg b = 45 then b + 1 else b
def dE (n : Nat) (sg : Nat → Int32) (b : Nat) : Nat := sc (isD sg) n (d0 sg b)
def nD (n : Nat) (sg : Nat → Int32) (b : Nat) : Nat := dE n sg b - d0 sg b
def nv (sg : Nat → Int32) (d : Nat) : Nat → Int32
  | 0 => 0
  | i + 1 => nv sg d i * 10 + sg (d + i) - 48
def nN (n : Nat) (sg : Nat → Int32) (b : Nat) : Int32 := if sg b = 45 then -(nv sg (d0 sg b) (nD n sg b)) else nv sg (d0 sg b) (nD n sg b)
theorem d0_le {n b : Nat} {sg : Nat → Int32} (h : Sg n sg) (hb : b ≤ n) : d0 sg b ≤ n := by
  unfold d0
  split
  · rename_i q
    have : b < n := Nat.lt_of_not_le (fun z => by rw [h.2.1 b z] at q; exact absurd q (by decide))
    omega
  · exact hb
theorem d0_ge {b : Nat} {sg : Nat → Int32} : b ≤ d0 sg b := by unfold d0; split <;> omega
theorem dE_le {n b : Nat} {sg : Nat → Int32} (h : Sg n sg) (hb : b ≤ n) : dE n sg b ≤ n := sc_le (isD_n h) (d0_le h hb)
theorem dE_ge {n b : Nat} {sg : Nat → Int32} (h : Sg n sg) (hb : b ≤ n) : d0 sg b ≤ dE n sg b := sc_ge (isD_n h) (d0_le h hb)
theorem dE_in {n b i : Nat} {sg : Nat → Int32} (h : Sg n sg) (hb : b ≤ n) (h1 : d0 sg b ≤ i) (h2 : i < dE n sg b) : 48 ≤ sg i ∧ sg i ≤ 57 := of_decide_eq_true (sc_in (isD_n h) (d0_le h hb) h1 h2)
theorem dE_end {n b : Nat} {sg : Nat → Int32} (h : Sg n sg) (hb : b ≤ n) : ¬ (48 ≤ sg (dE n sg b) ∧ sg (dE n sg b) ≤ 57) := of_decide_eq_false (sc_end (isD_n h) (d0_le h hb))
/-- the digits' value as the class reckons it: seven of them at most -/
theorem c_digits {K n b : Nat} {sg bytes : Nat → Int32} (h : Sg n sg) (hb : TpC n sg bytes) (hK : 400 ≤ K) (hbn : b ≤ n) : lpF (fun u9 : Int32 × Int32 => B_X3_readNumber_56 (nI n) bytes (nI (d0 sg b)) u9.1 u9.2) K ((0 : Int32), nI (d0 sg b)) = some (nv sg (d0 sg b) (if nD n sg b ≤ 7 then nD n sg b else 7), nI (dE n sg b)) := by
  have h1 := h.1
  have h2 := d0_le h hbn
  have h3 := dE_le h hbn
  have h4 := dE_ge h hbn
  refine lp_for (fun i => ((nv sg (d0 sg b) (if i ≤ 7 then i else 7), nI (d0 sg b + i)) : Int32 × Int32)) (n := nD n sg b) (by unfold nD; omega) (fun i hi => ?_) ?_
  · show B_X3_readNumber_56 (nI n) bytes (nI (d0 sg b)) (nv sg (d0 sg b) (if i ≤ 7 then i else 7)) (nI (d0 sg b + i)) = _
    unfold nD at hi
    unfold B_X3_readNumber_56
    rw [xle (by omega) (by omega), if_neg (by omega), c_sign h hb (by omega), xb1, c_isDigit, xb1, if_pos (dE_in h hbn (i := d0 sg b + i) (by omega) (by omega)), if_neg (by decide), xsub (by omega), x7, xle (by decide) (by omega)]
    by_cases q : 7 ≤ d0 sg b + i - d0 sg b
    · rw [if_pos q, nI_1]
      show some (Sum.inl (_, _)) = some (Sum.inl (_, _))
      rw [show (if i ≤ 7 then i else 7) = 7 by split <;> omega, show (if i + 1 ≤ 7 then i + 1 else 7) = 7 by split <;> omega, Nat.add_assoc]
    · rw [if_neg q, xb1, nI_1]
      show some (Sum.inl (_, _)) = some (Sum.inl (_, _))
      rw [if_pos (show i ≤ 7 by omega), if_pos (show i + 1 ≤ 7 by omega), Nat.add_assoc]
      rfl
  · show B_X3_readNumber_56 (nI n) bytes (nI (d0 sg b)) (nv sg (d0 sg b) (if nD n sg b ≤ 7 then nD n sg b else 7)) (nI (d0 sg b + nD n sg b)) = _
    rw [show d0 sg b + nD n sg b = dE n sg b by unfold nD; omega]
    unfold B_X3_readNumber_56
    rw [c_sign h hb (by omega), xb1, c_isDigit, xb1, if_neg (dE_end h hbn), if_pos rfl]
    split <;> rfl
abbrev okN (n : Nat) (sg : Nat → Int32) (lo hi : Int32) (b : Nat) : Prop := 1 ≤ nD n sg b ∧ nD n sg b ≤ 7 ∧ lo ≤ nN n sg b ∧ nN n sg b ≤ hi
theorem c_readNumber {K n a : Nat} {sg bytes : Nat → Int32} {lo hi nu f : Int32} (h : Sg n sg) (hb : TpC n sg bytes) (hK : 400 ≤ K) (ha : a ≤ n) : ∃ at' nu', F_X3_readNumber K lo hi bytes (nI n) (nI a) nu f = some (if okN n sg lo hi (skp n sg a) then 1 else 0, at', nu', if okN n sg lo hi (skp n sg a) then f else nI (skp n sg a)) ∧ (okN n sg lo hi (skp n sg a) → at' = nI (dE n sg (skp n sg a)) ∧ nu' = nN n sg (skp n sg a)) := by
  have h1 := h.1
  have h2 := skp_le h ha
  generalize hbe : skp n sg a = b at h2 ⊢
  have h3 := dE_le h h2
  have h4 := dE_ge h h2
  have h5 := d0_le h h2
  have fin : ∀ k0 : Int32, (nD n sg b ≤ 7 → k0 = nN n sg b) → ∃ at' nu', J_X3_readNumber_157 lo hi k0 (nI b) (nI (nD n sg b)) (nI (dE n sg b)) f = some (if okN n sg lo hi b then 1 else 0, at', nu', if okN n sg lo hi b then f else nI b) ∧ (okN n sg lo hi b → at' = nI (dE n sg b) ∧ nu' = nN n sg b) := by
    intro k0 hk
    refine ⟨nI (dE n sg b), k0, ?_, fun q => ⟨rfl, hk q.2.1⟩⟩
    unfold J_X3_readNumber_157
    rw [x1, xltn (by unfold nD; omega) (by decide), x7, xltn (by decide) (by unfold nD; omega)]
    by_cases q1 : nD n sg b < 1
    · rw [if_pos q1, if_neg (fun z => by have := z.1; omega), if_neg (fun z => by have := z.1; omega)]; rfl
    · rw [if_neg q1]
      by_cases q2 : 7 < nD n sg b
      · rw [if_pos q2, if_neg (fun z => by have := z.2.1; omega), if_neg (fun z => by have := z.2.1; omega)]; rfl
      · rw [if_neg q2]
        have e := hk (by omega)
        subst e
        by_cases q3 : lo ≤ nN n sg b
        · rw [if_neg (fun z => lt_not.mp z q3)]
          by_cases q4 : nN n sg b ≤ hi
          · rw [if_pos q4, if_pos ⟨by omega, by omega, q3, q4⟩, if_pos ⟨by omega, by omega, q3, q4⟩]
          · rw [if_neg q4, if_neg (fun z => q4 z.2.2.2), if_neg (fun z => q4 z.2.2.2)]; rfl
        · rw [if_pos (lt_not.mpr q3), if_neg (fun z => q3 z.2.2.1), if_neg (fun z => q3 z.2.2.1)]; rfl
  unfold F_X3_readNumber
  rw [c_skip h hb hK ha, xb1, hbe, c_sign h hb (by omega), xb1]
  have go : ∀ (k0 : Int32) (c : Int32), (c = nI (d0 sg b)) → ((k0 = 0) ↔ ¬ sg b = 45) → J_X3_readNumber_47 K lo hi (nI n) bytes (nI b) k0 c f = J_X3_readNumber_157 lo hi (if sg b = 45 then -(nv sg (d0 sg b) (if nD n sg b ≤ 7 then nD n sg b else 7)) else nv sg (d0 sg b) (if nD n sg b ≤ 7 then nD n sg b else 7)) (nI b) (nI (nD n sg b)) (nI (dE n sg b)) f := by
    intro k0 c hc hk
    subst hc
    unfold J_X3_readNumber_47
    rw [c_digits h hb hK h2, xb2]
    unfold J_X3_readNumber_134
    rw [xsub (by omega), show dE n sg b - d0 sg b = nD n sg b from rfl]
    by_cases q : sg b = 45
    · rw [if_neg (fun z => (hk.mp z) q), if_pos q]
    · rw [if_pos (hk.mpr q), if_neg q]
  have hfin := fin (if sg b = 45 then -(nv sg (d0 sg b) (if nD n sg b ≤ 7 then nD n sg b else 7)) else nv sg (d0 sg b) (if nD n sg b ≤ 7 then nD n sg b else 7)) (fun q => by rw [if_pos q]; rfl)
  by_cases q : sg b = 45
  · rw [if_pos q]
    unfold J_X3_readNumber_30
    rw [if_neg (by decide), go 1 _ (by rw [nI_1]; unfold d0; rw [if_pos q]) ⟨fun z => absurd z (by decide), fun z => absurd q z⟩]
    exact hfin
  · rw [if_neg q]
    unfold J_X3_readNumber_30
    rw [if_pos rfl, go 0 _ (by unfold d0; rw [if_neg q]) ⟨fun _ => q, fun _ => rfl⟩]
    exact hfin
theorem m_digits {K n b : Nat} {sg tape : Nat → Int32} (h : Sg n sg) (hb : TpM n sg tape) (hK : 400 ≤ K) (hbn : b ≤ n) : lpF (fun u9 : Int32 × Int32 × Int32 => B_X8_readNumber_40 (nI n) tape u9.1 u9.2.1 u9.2.2) K ((0 : Int32), nI (d0 sg b), (0 : Int32)) = some (nI (nD n sg b), nI (dE n sg b), if nD n sg b ≤ 7 then nv sg (d0 sg b) (nD n sg b) else 0) := by
  have h1 := h.1
  have h2 := d0_le h hbn
  have h3 := dE_le h hbn
  have h4 := dE_ge h hbn
  refine lp_for (fun i => ((nI i, nI (d0 sg b + i), if i ≤ 7 then nv sg (d0 sg b) i else 0) : Int32 × Int32 × Int32)) (n := nD n sg b) (by unfold nD; omega) (fun i hi => ?_) ?_
  · show B_X8_readNumber_40 (nI n) tape (nI i) (nI (d0 sg b + i)) (if i ≤ 7 then nv sg (d0 sg b) i else 0) = _
    unfold nD at hi
    unfold B_X8_readNumber_40
    rw [m_here h hb (by omega), xb1, m_isDigit, xb1, if_pos (dE_in h hbn (i := d0 sg b + i) (by omega) (by omega)), if_neg (by decide), x7, xle (by decide) (by omega)]
    by_cases q : 7 ≤ i
    · rw [if_pos q, nI_1, nI_1]
      show some (Sum.inl (_, _, _)) = some (Sum.inl (_, _, _))
      rw [if_neg (show ¬ i + 1 ≤ 7 by omega), Nat.add_assoc]
    · rw [if_neg q, xb1, nI_1, nI_1]
      show some (Sum.inl (_, _, _)) = some (Sum.inl (_, _, _))
      rw [if_pos (show i ≤ 7 by omega), if_pos (show i + 1 ≤ 7 by omega), Nat.add_assoc, Int32.mul_comm 10]
      rfl
  · show B_X8_readNumber_40 (nI n) tape (nI (nD n sg b)) (nI (d0 sg b + nD n sg b)) (if nD n sg b ≤ 7 then nv sg (d0 sg b) (nD n sg b) else 0) = _
    rw [show d0 sg b + nD n sg b = dE n sg b by unfold nD; omega]
    unfold B_X8_readNumber_40
    rw [m_here h hb (by omega), xb1, m_isDigit, xb1, if_neg (dE_end h hbn), if_pos rfl]
theorem m_readNumber {K n b : Nat} {sg tape : Nat → Int32} {pa pn : Int32} (h : Sg n sg) (hb : TpM n sg tape) (hK : 400 ≤ K) (hbn : b ≤ n) : ∃ X, F_X8_readNumber K tape (nI n) (nI b) pa pn = some (nI (dE n sg b), if 1 ≤ nD n sg b ∧ nD n sg b ≤ 7 then 2 else 5, X) ∧ (nD n sg b ≤ 7 → X = nN n sg b) := by
  have h1 := h.1
  have h3 := dE_le h hbn
  have fin : ∀ k0 : Int32, J_X8_readNumber_112 k0 (nI (nD n sg b)) (nI (dE n sg b)) = some (nI (dE n sg b), if 1 ≤ nD n sg b ∧ nD n sg b ≤ 7 then 2 else 5, k0) := by
    intro k0
    unfold J_X8_readNumber_112
    rw [show (1 : Int64) = (1 : Int32).toInt64 by decide, show (7 : Int64) = (7 : Int32).toInt64 by decide, m_inI, xb1]
    have e : (1 ≤ nI (nD n sg b) ∧ nI (nD n sg b) ≤ 7) ↔ (1 ≤ nD n sg b ∧ nD n sg b ≤ 7) := by rw [x1, x7, ple (by decide) (by unfold nD; omega), ple (by unfold nD; omega) (by decide)]
    by_cases q : 1 ≤ nD n sg b ∧ nD n sg b ≤ 7
    · rw [if_pos (e.mpr q), if_pos q, if_neg (by decide)]
    · rw [if_neg (fun z => q (e.mp z)), if_neg q, if_pos rfl]
  unfold F_X8_readNumber
  rw [m_here h hb (by omega), xb1]
  have go : ∀ (k0 k1 : Int32), (nI b + k1 = nI (d0 sg b)) → ((k0 = 0) ↔ ¬ sg b = 45) → J_X8_readNumber_29 K (nI n) tape k1 (nI b) k0 = some (nI (dE n sg b), if 1 ≤ nD n sg b ∧ nD n sg b ≤ 7 then 2 else 5, if sg b = 45 then -(if nD n sg b ≤ 7 then nv sg (d0 sg b) (nD n sg b) else 0) else (if nD n sg b ≤ 7 then nv sg (d0 sg b) (nD n sg b) else 0)) := by
    intro k0 k1 hc hk
    unfold J_X8_readNumber_29
    rw [hc, m_digits h hb hK hbn, xb3]
    by_cases q : sg b = 45
    · rw [if_neg (fun z => (hk.mp z) q), if_pos q]; exact fin _
    · rw [if_pos (hk.mpr q), if_neg q]; exact fin _
  refine ⟨if sg b = 45 then -(if nD n sg b ≤ 7 then nv sg (d0 sg b) (nD n sg b) else 0) else (if nD n sg b ≤ 7 then nv sg (d0 sg b) (nD n sg b) else 0), ?_, fun q => ?_⟩
  rotate_left
  · exact (show (if sg b = 45 then -(if nD n sg b ≤ 7 then nv sg (d0 sg b) (nD n sg b) else 0) else (if nD n sg b ≤ 7 then nv sg (d0 sg b) (nD n sg b) else 0)) = nN n sg b by rw [if_pos q]; rfl)
  · by_cases q : sg b = 45
    · rw [if_pos q]
      unfold J_X8_readNumber_14
      rw [if_neg (by decide)]
      exact go 1 1 (by rw [nI_1]; unfold d0; rw [if_pos q]) ⟨fun z => absurd z (by decide), fun z => absurd q z⟩
    · rw [if_neg q]
      unfold J_X8_readNumber_14
      rw [if_pos rfl]
      exact go 0 0 (by rw [x0, nI_add]; unfold d0; rw [if_neg q]; rfl) ⟨fun _ => q, fun _ => rfl⟩
def wc (sg : Nat → Int32) (b : Nat) : Nat → Int64
  | 0 => 0
  | i + 1 => if i < 8 then 32 * wc sg b i + (sg (b + i)).toInt64 - 97 + 1 else 0
theorem m_readWord {K n b : Nat} {sg tape : Nat → Int32} {pa : Int32} {pw : Int64} (h : Sg n sg) (hb : TpM n sg tape) (hK : 400 ≤ K) (hbn : b ≤ n) : F_X8_readWord K tape (nI n) (nI b) pa pw = some (nI (wE n sg b), 1, wc sg b (wE n sg b - b)) := by
  have h1 := h.1
  have h3 := wE_le h hbn
  have h4 := wE_ge h hbn
  unfold F_X8_readWord
  rw [show lpF (fun u9 : Int32 × Int32 × Int64 => B_X8_readWord_7 (nI n) tape u9.1 u9.2.1 u9.2.2) K ((0 : Int32), nI b, (0 : Int64)) = some (nI (wE n sg b), wc sg b (wE n sg b - b)) from ?_]
  · rfl
  refine lp_for (fun i => ((nI i, nI (b + i), wc sg b i) : Int32 × Int32 × Int64)) (n := wE n sg b - b) (by omega) (fun i hi => ?_) ?_
  · show B_X8_readWord_7 (nI n) tape (nI i) (nI (b + i)) (wc sg b i) = _
    unfold B_X8_readWord_7
    rw [m_here h hb (by omega), xb1, m_isLetter, xb1, if_pos (wE_in h hbn (i := b + i) (by omega) (by omega)), if_neg (by decide), x8, xle (by decide) (by omega)]
    by_cases q : 8 ≤ i
    · rw [if_pos q, nI_1, nI_1]
      show some (Sum.inl (_, _, _)) = some (Sum.inl (_, _, (if i < 8 then _ else _)))
      rw [if_neg (show ¬ i < 8 by omega), Nat.add_assoc]
    · rw [if_neg q, xb1, nI_1, nI_1]
      show some (Sum.inl (_, _, _)) = some (Sum.inl (_, _, (if i < 8 then _ else _)))
      rw [if_pos (show i < 8 by omega), Nat.add_assoc]
  · show B_X8_readWord_7 (nI n) tape (nI (wE n sg b - b)) (nI (b + (wE n sg b - b))) (wc sg b (wE n sg b - b)) = _
    rw [show b + (wE n sg b - b) = wE n sg b by omega]
    unfold B_X8_readWord_7
    rw [m_here h hb (by omega), xb1, m_isLetter, xb1, if_neg (wE_end h hbn), if_pos rfl]
end
-- 53.wd
section
/-! words, and the token that comes next -/
def tk (n : Nat) (sg : Nat → Int32) (b : Nat) : Int32 := if sg b = -1 then 0 else if 97 ≤ sg b ∧ sg b ≤ 122 then 1 else if (48 ≤ sg b ∧ sg b ≤ 57) ∨ sg b = 45 then (if 1 ≤ nD n sg b ∧ nD n sg b ≤ 7 then 2 else 5) else if sg b = 44 then 3 else if sg b = 59 then 4 else 5
def te (n : Nat) (sg : Nat → Int32) (b : Nat) : Nat := if sg b = -1 then b else if 97 ≤ sg b ∧ sg b ≤ 122 then wE n sg b else if (48 ≤ sg b ∧ sg b ≤ 57) ∨ sg b = 45 then dE n sg b else b + 1
/-- the reference has looked at the token at b -/
def LA (n : Nat) (sg : Nat → Int32) (b : Nat) (at' part frm pn : Int32) (pw : Int64) : Prop := at' = nI (te n sg b) ∧ part = tk n sg b ∧ frm = nI b ∧ (tk n sg b = 2 → pn = nN n sg b) ∧ (tk n sg b = 1 → pw = wc sg b (wE n sg b - b))
theorem m_next {K n a : Nat} {sg tape : Nat → Int32} {pa fr pn : Int32} {pw : Int64} (h : Sg n sg) (hb : TpM n sg tape) (hK : 400 ≤ K) (ha : a ≤ n) : ∃ at' pa' fr' pn' pw', F_X8_next K tape (nI n) (nI a) pa fr pn pw = some (at', pa', fr', pn', pw') ∧ LA n sg (skp n sg a) at' pa' fr' pn' pw' := by
  have h1 := h.1
  have h2 := skp_le h ha
  unfold F_X8_next
  rw [m_skip h hb hK ha, xb1]
  generalize skp n sg a = b at h2 ⊢
  rw [m_here h hb (by omega), xb1]
  unfold LA tk te
  by_cases q0 : sg b = -1
  · rw [if_pos q0, if_pos q0, if_pos q0]
    exact ⟨_, _, _, _, _, rfl, rfl, rfl, rfl, fun z => absurd z (by decide), fun z => absurd z (by decide)⟩
  · rw [if_neg q0, if_neg q0, if_neg q0, m_isLetter, xb1]
    by_cases q1 : 97 ≤ sg b ∧ sg b ≤ 122
    · rw [if_pos q1, if_pos q1, if_pos q1, if_neg (by decide), m_readWord h hb hK h2, xb3]
      exact ⟨_, _, _, _, _, rfl, rfl, rfl, rfl, fun z => absurd z (by decide), fun _ => rfl⟩
    · rw [if_neg q1, if_neg q1, if_neg q1, if_pos rfl, m_isDigit, xb1]
      obtain ⟨X, hX, hX2⟩ := m_readNumber (pa := pa) (pn := pn) h hb hK h2
      by_cases q2 : 48 ≤ sg b ∧ sg b ≤ 57
      · rw [if_pos q2, if_neg (by decide), if_pos (Or.inl q2), if_pos (Or.inl q2), hX, xb3]
        refine ⟨_, _, _, _, _, rfl, rfl, rfl, rfl, fun z => hX2 ?_, fun z => ?_⟩
        · by_cases q3 : 1 ≤ nD n sg b ∧ nD n sg b ≤ 7
          · exact q3.2
          · rw [if_neg q3] at z; exact absurd z (by decide)
        · by_cases q3 : 1 ≤ nD n sg b ∧ nD n sg b ≤ 7
          · rw [if_pos q3] at z; exact absurd z (by decide)
          · rw [if_neg q3] at z; exact absurd z (by decide)
      · rw [if_neg q2, if_pos rfl]
        by_cases q3 : sg b = 45
        · rw [if_pos q3, if_pos (Or.inr q3), if_pos (Or.inr q3), hX, xb3]
          refine ⟨_, _, _, _, _, rfl, rfl, rfl, rfl, fun z => hX2 ?_, fun z => ?_⟩
          · by_cases q3 : 1 ≤ nD n sg b ∧ nD n sg b ≤ 7
            · exact q3.2
            · rw [if_neg q3] at z; exact absurd z (by decide)
          · by_cases q3 : 1 ≤ nD n sg b ∧ nD n sg b ≤ 7
            · rw [if_pos q3] at z; exact absurd z (by decide)
            · rw [if_neg q3] at z; exact absurd z (by decide)
        · have e9 : ¬ ((48 ≤ sg b ∧ sg b ≤ 57) ∨ sg b = 45) := fun z => z.elim q2 q3
          rw [if_neg q3, if_neg e9, if_neg e9, nI_1]
          by_cases q4 : sg b = 44
          · rw [if_pos q4, if_pos q4]
            exact ⟨_, _, _, _, _, rfl, rfl, rfl, rfl, fun z => absurd z (by decide), fun z => absurd z (by decide)⟩
          · rw [if_neg q4, if_neg q4]
            by_cases q5 : sg b = 59
            · rw [if_pos q5, if_pos q5]
              exact ⟨_, _, _, _, _, rfl, rfl, rfl, rfl, fun z => absurd z (by decide), fun z => absurd z (by decide)⟩
            · rw [if_neg q5, if_neg q5]
              exact ⟨_, _, _, _, _, rfl, rfl, rfl, rfl, fun z => absurd z (by decide), fun z => absurd z (by decide)⟩
theorem nD_0 {n b : Nat} {sg : Nat → Int32} (q2 : ¬ (48 ≤ sg b ∧ sg b ≤ 57)) (q3 : ¬ sg b = 45) : nD n sg b = 0 := by
  have e : d0 sg b = b := by unfold d0; exact if_neg q3
  have e2 : dE n sg b = b := by
    unfold dE
    rw [e]
    exact sc_no (by unfold isD; exact decide_eq_false q2)
  unfold nD
  rw [e, e2]
  omega
/-- a number's token -/
theorem tk2 {n b : Nat} {sg : Nat → Int32} : tk n sg b = 2 ↔ (1 ≤ nD n sg b ∧ nD n sg b ≤ 7) := by
  unfold tk
  by_cases q2 : 48 ≤ sg b ∧ sg b ≤ 57
  · have e0 : ¬ sg b = -1 := fun z => by rw [z] at q2; exact absurd q2 (by decide)
    have e1 : ¬ (97 ≤ sg b ∧ sg b ≤ 122) := fun z => by
      have a := z.1; have c := q2.2
      rw [Int32.le_iff_toInt_le] at a c
      rw [show (97 : Int32).toInt = 97 by decide] at a
      rw [show (57 : Int32).toInt = 57 by decide] at c
      omega
    rw [if_neg e0, if_neg e1, if_pos (Or.inl q2)]
    by_cases q : 1 ≤ nD n sg b ∧ nD n sg b ≤ 7
    · rw [if_pos q]; exact ⟨fun _ => q, fun _ => rfl⟩
    · rw [if_neg q]; exact ⟨fun z => absurd z (by decide), fun z => absurd z q⟩
  · by_cases q3 : sg b = 45
    · rw [if_neg (by rw [q3]; decide), if_neg (by rw [q3]; decide), if_pos (Or.inr q3)]
      by_cases q : 1 ≤ nD n sg b ∧ nD n sg b ≤ 7
      · rw [if_pos q]; exact ⟨fun _ => q, fun _ => rfl⟩
      · rw [if_neg q]; exact ⟨fun z => absurd z (by decide), fun z => absurd z q⟩
    · have e := nD_0 (n := n) q2 q3
      have e9 : ¬ (1 ≤ nD n sg b ∧ nD n sg b ≤ 7) := fun z => by have := z.1; omega
      rw [if_neg (show ¬ ((48 ≤ sg b ∧ sg b ≤ 57) ∨ sg b = 45) from fun z => z.elim q2 q3)]
      refine ⟨fun z => ?_, fun z => absurd z e9⟩
      exfalso
      revert z
      split
      · exact (by decide)
      · split
        · exact (by decide)
        · split
          · exact (by decide)
          · split <;> exact (by decide)
theorem tk1 {n b : Nat} {sg : Nat → Int32} : tk n sg b = 1 ↔ (97 ≤ sg b ∧ sg b ≤ 122) := by
  unfold tk
  by_cases q1 : 97 ≤ sg b ∧ sg b ≤ 122
  · have e0 : ¬ sg b = -1 := fun z => by rw [z] at q1; exact absurd q1 (by decide)
    rw [if_neg e0, if_pos q1]
    exact ⟨fun _ => q1, fun _ => rfl⟩
  · rw [if_neg q1]
    refine ⟨fun z => ?_, fun z => absurd z q1⟩
    exfalso
    revert z
    split
    · exact (by decide)
    · split
      · split <;> exact (by decide)
      · split
        · exact (by decide)
        · split <;> exact (by decide)
theorem tk0 {n b : Nat} {sg : Nat → Int32} : tk n sg b = 0 ↔ sg b = -1 := by
  unfold tk
  by_cases q1 : sg b = -1
  · rw [if_pos q1]; exact ⟨fun _ => q1, fun _ => rfl⟩
  · rw [if_neg q1]
    refine ⟨fun z => ?_, fun z => absurd z q1⟩
    exfalso
    revert z
    split
    · exact (by decide)
    · split
      · split <;> exact (by decide)
      · split
        · exact (by decide)
        · split <;> exact (by decide)
theorem tk3 {n b : Nat} {sg : Nat → Int32} : tk n sg b = 3 ↔ sg b = 44 := by
  unfold tk
  by_cases q1 : sg b = 44
  · rw [if_neg (by rw [q1]; decide), if_neg (by rw [q1]; decide), if_neg (by rw [q1]; decide), if_pos q1]
    exact ⟨fun _ => q1, fun _ => rfl⟩
  · rw [if_neg q1]
    refine ⟨fun z => ?_, fun z => absurd z q1⟩
    exfalso
    revert z
    split
    · exact (by decide)
    · split
      · exact (by decide)
      · split
        · split <;> exact (by decide)
        · split <;> exact (by decide)
theorem tk4 {n b : Nat} {sg : Nat → Int32} : tk n sg b = 4 ↔ sg b = 59 := by
  unfold tk
  by_cases q1 : sg b = 59
  · rw [if_neg (by rw [q1]; decide), if_neg (by rw [q1]; decide), if_neg (by rw [q1]; decide), if_neg (by rw [q1]; decide), if_pos q1]
    exact ⟨fun _ => q1, fun _ => rfl⟩
  · rw [if_neg q1]
    refine ⟨fun z => ?_, fun z => absurd z q1⟩
    exfalso
    revert z
    split
    · exact (by decide)
    · split
      · exact (by decide)
      · split
        · split <;> exact (by decide)
        · split <;> exact (by decide)
theorem te_le {n b : Nat} {sg : Nat → Int32} (h : Sg n sg) (hb : b ≤ n) : te n sg b ≤ n := by
  unfold te
  split
  · exact hb
  · rename_i q0
    have : b < n := Nat.lt_of_not_le (fun z => q0 (h.2.1 b z))
    split
    · exact wE_le h hb
    · split
      · exact dE_le h hb
      · omega
theorem te_w {n b : Nat} {sg : Nat → Int32} (q : 97 ≤ sg b ∧ sg b ≤ 122) : te n sg b = wE n sg b := by
  unfold te
  rw [if_neg (fun z => by rw [z] at q; exact absurd q (by decide)), if_pos q]
theorem te_n {n b : Nat} {sg : Nat → Int32} (q : 1 ≤ nD n sg b) : te n sg b = dE n sg b := by
  have q9 : (48 ≤ sg b ∧ sg b ≤ 57) ∨ sg b = 45 := by
    refine Classical.byContradiction (fun z => ?_)
    have := nD_0 (n := n) (fun a => z (Or.inl a)) (fun a => z (Or.inr a))
    omega
  unfold te
  rw [if_neg (fun z => by rw [z] at q9; exact absurd q9 (by decide)), if_neg (fun z => ?_), if_pos q9]
  rcases q9 with q9 | q9
  · have a := z.1; have c := q9.2
    rw [Int32.le_iff_toInt_le] at a c
    rw [show (97 : Int32).toInt = 97 by decide] at a
    rw [show (57 : Int32).toInt = 57 by decide] at c
    omega
  · rw [q9] at z; exact absurd z (by decide)
theorem te_s {n b : Nat} {sg : Nat → Int32} {p : Int32} (q : sg b = p) (hp : p = 44 ∨ p = 59) : te n sg b = b + 1 := by
  unfold te
  rcases hp with rfl | rfl
  · rw [if_neg (by rw [q]; decide), if_neg (by rw [q]; decide), if_neg (by rw [q]; decide)]
  · rw [if_neg (by rw [q]; decide), if_neg (by rw [q]; decide), if_neg (by rw [q]; decide)]
/-- the word at b is string i -/
def wd (n : Nat) (sg : Nat → Int32) (i b : Nat) : Bool := decide (wE n sg b - b = strL.getD i 0 ∧ ∀ j, j < strL.getD i 0 → sg (b + j) = (strB.getD i []).getD j 0)
theorem j_length : ∀ i, i < 12 → F_J0_length_8abf5 i = some (nI (strL.getD i 0)) := by decide +kernel
theorem j_charAt : ∀ i, i < 12 → ∀ j, j < strL.getD i 0 → F_J0_charAt_5068e i (nI j) = some ((strB.getD i []).getD j 0) := by decide +kernel
theorem strL_le : ∀ i, i < 12 → strL.getD i 0 ≤ 6 := by decide +kernel
theorem c_wloop {n b i : Nat} {sg bytes : Nat → Int32} (h : Sg n sg) (hb : TpC n sg bytes) (hbn : b ≤ n) (hi : i < 12) : ∀ (d j K : Nat), j + d = strL.getD i 0 → d < K → lpF (fun u9 : Int32 => B_X3_isWord_20 i (nI b) (nI n) bytes u9) K (nI j) = some (if ∀ k, k < strL.getD i 0 → j ≤ k → sg (b + k) = (strB.getD i []).getD k 0 then 1 else 0) := by
  have hl := strL_le i hi
  have h1 := h.1
  intro d
  induction d with
  | zero =>
    intro j K h2 h3
    obtain ⟨K', rfl⟩ : ∃ K', K = K' + 1 := ⟨K - 1, by omega⟩
    rw [if_pos (fun k h4 h5 => by omega)]
    refine lp_end ?_
    show B_X3_isWord_20 i (nI b) (nI n) bytes (nI j) = _
    unfold B_X3_isWord_20
    rw [xlt (by omega), j_length i hi, xb1, xle (by omega) (by omega), if_pos (by omega)]
  | succ d ih =>
    intro j K h2 h3
    obtain ⟨K', rfl⟩ : ∃ K', K = K' + 1 := ⟨K - 1, by omega⟩
    by_cases q : sg (b + j) = (strB.getD i []).getD j 0
    · have e : (∀ k, k < strL.getD i 0 → j + 1 ≤ k → sg (b + k) = (strB.getD i []).getD k 0) ↔ (∀ k, k < strL.getD i 0 → j ≤ k → sg (b + k) = (strB.getD i []).getD k 0) := by
        constructor
        · intro z k h4 h5
          by_cases e : k = j
          · rw [e]; exact q
          · exact z k h4 (by omega)
        · intro z k h4 h5; exact z k h4 (by omega)
      have := ih (j + 1) K' (by omega) (by omega)
      rw [lp_one (u' := nI (j + 1))]
      · rw [this]
        by_cases z : ∀ k, k < strL.getD i 0 → j ≤ k → sg (b + k) = (strB.getD i []).getD k 0
        · rw [if_pos z, if_pos (e.mpr z)]
        · rw [if_neg z, if_neg (fun y => z (e.mp y))]
      · show B_X3_isWord_20 i (nI b) (nI n) bytes (nI j) = _
        unfold B_X3_isWord_20
        rw [xlt (by omega), j_length i hi, xb1, xle (by omega) (by omega), if_neg (by omega), nI_add, c_sign h hb (by omega), xb1, xlt (by omega), j_charAt i hi j (by omega), xb1, if_pos q, nI_1]
    · rw [if_neg (fun z => q (z j (by omega) (Nat.le_refl _)))]
      refine lp_end ?_
      show B_X3_isWord_20 i (nI b) (nI n) bytes (nI j) = _
      unfold B_X3_isWord_20
      rw [xlt (by omega), j_length i hi, xb1, xle (by omega) (by omega), if_neg (by omega), nI_add, c_sign h hb (by omega), xb1, xlt (by omega), j_charAt i hi j (by omega), xb1, if_neg q]
theorem c_isWord {K n b i : Nat} {sg bytes : Nat → Int32} (h : Sg n sg) (hb : TpC n sg bytes) (hK : 400 ≤ K) (hbn : b ≤ n) (hi : i < 12) : F_X3_isWord K i bytes (nI n) (nI (wE n sg b)) (nI b) = some (if wd n sg i b = true then 1 else 0) := by
  have hl := strL_le i hi
  have h1 := h.1
  have h2 := wE_le h hbn
  have h3 := wE_ge h hbn
  unfold F_X3_isWord
  rw [xlt (by omega), j_length i hi, xb1, xsub h3, xeq (by omega) (by omega)]
  unfold wd
  by_cases q : wE n sg b - b = strL.getD i 0
  · rw [if_pos q, show lpF (fun u9 : Int32 => B_X3_isWord_20 i (nI b) (nI n) bytes u9) K (0 : Int32) = _ from c_wloop h hb hbn hi (strL.getD i 0) 0 K (by omega) (by omega), xb1]
    by_cases z : ∀ j, j < strL.getD i 0 → sg (b + j) = (strB.getD i []).getD j 0
    · rw [if_pos (fun k h4 _ => z k h4), if_pos (decide_eq_true ⟨q, z⟩)]; rfl
    · rw [if_neg (show ¬ (∀ k, k < strL.getD i 0 → 0 ≤ k → sg (b + k) = (strB.getD i []).getD k 0) from fun y => z (fun j h4 => y j h4 (by omega))), if_neg (show ¬ (decide (wE n sg b - b = strL.getD i 0 ∧ ∀ j, j < strL.getD i 0 → sg (b + j) = (strB.getD i []).getD j 0) = true) from fun y => z (of_decide_eq_true y).2)]; rfl
  · rw [if_neg q, if_neg (fun y => q (of_decide_eq_true y).1)]
theorem m_isWord {c pw : Int64} {pa : Int32} : F_X8_isWord c pa pw = some (if pa = 1 ∧ pw = c then 1 else 0) := by
  unfold F_X8_isWord
  by_cases q : pa = 1
  · rw [if_pos q]
    by_cases z : pw = c
    · rw [if_pos ((lg_cmp_eq pw c).mpr z), if_pos ⟨q, z⟩]
    · rw [if_neg (fun y => z ((lg_cmp_eq pw c).mp y)), if_neg (fun y => z y.2)]
  · rw [if_neg q, if_neg (fun y => q y.1)]
def cdF (i : Nat) : Int64 := ([632453, 12343, 2610628, 244780, 20141, 656049733, 441972, 657161, 442053, 1156, 648643, 220370757] : List Int64).getD i 0
def vN (dg : Nat → Nat) : Nat → Nat
  | 0 => 0
  | i + 1 => 32 * vN dg i + dg i
def encR : List Nat → Nat
  | [] => 0
  | d :: ds => 32 * encR ds + d
theorem vN_inj {dg : Nat → Nat} : ∀ (ds : List Nat) (L : Nat), (∀ d ∈ ds, 1 ≤ d ∧ d ≤ 26) → (∀ k, k < L → 1 ≤ dg k ∧ dg k ≤ 26) → vN dg L = encR ds → L = ds.length ∧ ∀ k, k < L → dg k = ds.getD (L - 1 - k) 0 := by
  intro ds
  induction ds with
  | nil =>
    intro L _ h2 h3
    cases L with
    | zero => exact ⟨rfl, fun k h => by omega⟩
    | succ L =>
      exfalso
      have a := h2 L (by omega)
      have e : 32 * vN dg L + dg L = 0 := h3
      omega
  | cons d ds ih =>
    intro L h1 h2 h3
    have hd := h1 d List.mem_cons_self
    cases L with
    | zero =>
      exfalso
      have e : 0 = 32 * encR ds + d := h3
      omega
    | succ L =>
      have a := h2 L (by omega)
      have e : 32 * vN dg L + dg L = 32 * encR ds + d := h3
      obtain ⟨e1, e2⟩ := ih L (fun x hx => h1 x (List.mem_cons_of_mem _ hx)) (fun k hk => h2 k (by omega)) (by omega)
      refine ⟨by rw [List.length_cons]; omega, fun k hk => ?_⟩
      by_cases q : k = L
      · subst q
        rw [show k + 1 - 1 - k = 0 by omega]
        show dg k = d
        omega
      · rw [e2 k (by omega), show L + 1 - 1 - k = (L - 1 - k) + 1 by omega]
        rfl
theorem vN_eq {dg : Nat → Nat} : ∀ (ds : List Nat), (∀ k, k < ds.length → dg k = ds.getD (ds.length - 1 - k) 0) → vN dg ds.length = encR ds := by
  intro ds
  induction ds with
  | nil => intro _; rfl
  | cons d ds ih =>
    intro h
    show 32 * vN dg ds.length + dg ds.length = 32 * encR ds + d
    have a := h ds.length (by rw [List.length_cons]; omega)
    rw [show (d :: ds).length - 1 - ds.length = 0 by rw [List.length_cons]; omega] at a
    rw [ih (fun k hk => ?_), a]
    · rfl
    · have c := h k (by rw [List.length_cons]; omega)
      rw [show (d :: ds).length - 1 - k = (ds.length - 1 - k) + 1 by rw [List.length_cons]; omega] at c
      exact c
theorem vN_lt {dg : Nat → Nat} : ∀ L, (∀ k, k < L → dg k ≤ 26) → vN dg L < 32 ^ L := by
  intro L
  induction L with
  | zero => intro _; exact Nat.one_pos
  | succ L ih =>
    intro h
    have a := ih (fun k hk => h k (by omega))
    have c := h L (by omega)
    show 32 * vN dg L + dg L < 32 ^ (L + 1)
    rw [Nat.pow_succ]
    omega
theorem w64 {x : Int64} {y : Int32} {v : Nat} (hx : x.toInt = (v : Int)) (hv : v < 2 ^ 40) (h1 : 97 ≤ y.toInt) (h2 : y.toInt ≤ 122) : (32 * x + y.toInt64 - 97 + 1).toInt = ((32 * v + (y.toInt.toNat - 96) : Nat) : Int) := by
  have t32 : (32 : Int64).toInt = 32 := by decide
  have t97 : (97 : Int64).toInt = 97 := by decide
  have t1 : (1 : Int64).toInt = 1 := by decide
  rw [Int64.toInt_add, Int64.toInt_sub, Int64.toInt_add, Int64.toInt_mul, t32, t97, t1, hx, Int32.toInt_toInt64]
  rw [Int.bmod_eq_of_le (n := 32 * (v : Int)) (by omega) (by omega), Int.bmod_eq_of_le (n := 32 * (v : Int) + y.toInt) (by omega) (by omega), Int.bmod_eq_of_le (n := 32 * (v : Int) + y.toInt - 97) (by omega) (by omega), Int.bmod_eq_of_le (by omega) (by omega)]
  omega
def dgF (sg : Nat → Int32) (b k : Nat) : Nat := (sg (b + k)).toInt.toNat - 96
theorem wc_vN {sg : Nat → Int32} {b : Nat} : ∀ L, L ≤ 8 → (∀ k, k < L → 97 ≤ sg (b + k) ∧ sg (b + k) ≤ 122) → (wc sg b L).toInt = ((vN (dgF sg b) L : Nat) : Int) := by
  have a97 : (97 : Int32).toInt = 97 := by decide
  have a122 : (122 : Int32).toInt = 122 := by decide
  intro L
  induction L with
  | zero => intro _ _; rfl
  | succ L ih =>
    intro h1 h2
    have e := ih (by omega) (fun k hk => h2 k (by omega))
    obtain ⟨c1, c2⟩ := h2 L (by omega)
    rw [Int32.le_iff_toInt_le, a97] at c1
    rw [Int32.le_iff_toInt_le, a122] at c2
    have hv : vN (dgF sg b) L < 32 ^ L := vN_lt L (fun k hk => by
      obtain ⟨d1, d2⟩ := h2 k (by omega)
      rw [Int32.le_iff_toInt_le, a122] at d2
      unfold dgF
      omega)
    have hp : 32 ^ L ≤ 32 ^ 8 := Nat.pow_le_pow_right (by decide) (by omega)
    have hp8 : 32 ^ 8 = 2 ^ 40 := by decide
    show (if L < 8 then 32 * wc sg b L + (sg (b + L)).toInt64 - 97 + 1 else 0 : Int64).toInt = _
    rw [if_pos (by omega), w64 e (by omega) c1 c2]
    rfl
def dsF (i : Nat) : List Nat := ((strB.getD i []).map (fun z => z.toInt.toNat - 96)).reverse
theorem ds_len : ∀ i, i < 12 → (dsF i).length = strL.getD i 0 := by decide +kernel
theorem ds_rng : ∀ i, i < 12 → ∀ d ∈ dsF i, 1 ≤ d ∧ d ≤ 26 := by decide +kernel
theorem ds_cd : ∀ i, i < 12 → (cdF i).toInt = ((encR (dsF i) : Nat) : Int) := by decide +kernel
theorem ds_at : ∀ i, i < 12 → ∀ j, j < strL.getD i 0 → (strB.getD i []).getD j 0 = nI ((dsF i).getD (strL.getD i 0 - 1 - j) 0 + 96) := by decide +kernel
theorem cd_pos : ∀ i, i < 12 → ¬ cdF i = 0 := by decide +kernel
theorem wc_long {sg : Nat → Int32} {b L : Nat} (h : 9 ≤ L) : wc sg b L = 0 := by
  obtain ⟨L', rfl⟩ : ∃ L', L = L' + 1 := ⟨L - 1, by omega⟩
  show (if L' < 8 then _ else 0 : Int64) = 0
  exact if_neg (by omega)
/-- the reference's number of a word says which string it is -/
theorem wEq {n b i : Nat} {sg : Nat → Int32} (h : Sg n sg) (hbn : b ≤ n) (hi : i < 12) : wc sg b (wE n sg b - b) = cdF i ↔ wd n sg i b = true := by
  have a97 : (97 : Int32).toInt = 97 := by decide
  have a122 : (122 : Int32).toInt = 122 := by decide
  have h3 := wE_ge h hbn
  have hl := strL_le i hi
  have hin : ∀ k, k < wE n sg b - b → 97 ≤ sg (b + k) ∧ sg (b + k) ≤ 122 := fun k hk => wE_in h hbn (by omega) (by omega)
  have hsg : ∀ k, k < wE n sg b - b → sg (b + k) = nI (dgF sg b k + 96) ∧ 1 ≤ dgF sg b k ∧ dgF sg b k ≤ 26 := fun k hk => by
    obtain ⟨c1, c2⟩ := hin k hk
    rw [Int32.le_iff_toInt_le, a97] at c1
    rw [Int32.le_iff_toInt_le, a122] at c2
    unfold dgF
    refine ⟨Int32.toInt_inj.mp ?_, by omega, by omega⟩
    rw [nI_toInt (by omega)]
    omega
  constructor
  · intro q
    have hL : wE n sg b - b ≤ 8 := Nat.le_of_not_lt (fun z => cd_pos i hi (q.symm.trans (wc_long (by omega))))
    have e := congrArg Int64.toInt q
    rw [wc_vN _ hL hin, ds_cd i hi] at e
    obtain ⟨e1, e2⟩ := vN_inj (dsF i) _ (ds_rng i hi) (fun k hk => (hsg k hk).2) (Int.ofNat_inj.mp e)
    rw [ds_len i hi] at e1
    unfold wd
    refine decide_eq_true ⟨e1, fun j hj => ?_⟩
    rw [(hsg j (by omega)).1, e2 j (by omega), ds_at i hi j hj, e1]
  · intro q
    obtain ⟨e1, e2⟩ := of_decide_eq_true (show decide _ = true from q)
    refine Int64.toInt_inj.mp ?_
    rw [wc_vN _ (by omega) hin, ds_cd i hi, e1, ← ds_len i hi]
    refine Int.ofNat_inj.mpr (vN_eq (dsF i) (fun k hk => ?_))
    rw [ds_len i hi] at hk ⊢
    have e3 := e2 k hk
    have b1 : (dsF i).getD (strL.getD i 0 - 1 - k) 0 ≤ 26 := by
      by_cases z : strL.getD i 0 - 1 - k < (dsF i).length
      · have := ds_rng i hi ((dsF i).getD (strL.getD i 0 - 1 - k) 0) (by
          rw [List.getD_eq_getElem?_getD, List.getElem?_eq_getElem z]
          exact List.getElem_mem z)
        exact this.2
      · rw [List.getD_eq_getElem?_getD, List.getElem?_eq_none (by omega)]; decide
    have b2 := (hsg k (by omega)).2.2
    rw [(hsg k (by omega)).1, ds_at i hi k hk, nI_eq (by omega) (by omega)] at e3
    omega
/-- the reference's question for a word, asked where the token at b lies ahead -/
theorem m_isW {n b i : Nat} {sg : Nat → Int32} {at' pa fr pn : Int32} {pw : Int64} (h : Sg n sg) (hbn : b ≤ n) (hi : i < 12) (hl : LA n sg b at' pa fr pn pw) : F_X8_isWord (cdF i) pa pw = some (if (97 ≤ sg b ∧ sg b ≤ 122) ∧ wd n sg i b = true then 1 else 0) := by
  obtain ⟨-, e2, -, -, e5⟩ := hl
  rw [m_isWord, e2]
  by_cases q : 97 ≤ sg b ∧ sg b ≤ 122
  · have e6 := e5 (tk1.mpr q)
    rw [e6]
    by_cases z : wd n sg i b = true
    · rw [if_pos ⟨tk1.mpr q, (wEq h hbn hi).mpr z⟩, if_pos ⟨q, z⟩]
    · rw [if_neg (fun y => z ((wEq h hbn hi).mp y.2)), if_neg (fun y => z y.2)]
  · rw [if_neg (fun y => q (tk1.mp y.1)), if_neg (fun y => q y.1)]
end
-- 54.ps
section
/-! both readers, number by number, word by word -/
theorem strL_ge : ∀ i, i < 12 → 3 ≤ strL.getD i 0 := by decide +kernel
theorem cd_inj : ∀ i, i < 12 → ∀ j, j < 12 → cdF i = cdF j → i = j := by decide +kernel
theorem wd_letter {n b i : Nat} {sg : Nat → Int32} (h : Sg n sg) (hbn : b ≤ n) (hi : i < 12) (q : wd n sg i b = true) : 97 ≤ sg b ∧ sg b ≤ 122 := by
  obtain ⟨e1, -⟩ := of_decide_eq_true (show decide _ = true from q)
  have := strL_ge i hi
  exact (wE_lt h hbn).mp (by omega)
theorem wd_excl {n b i j : Nat} {sg : Nat → Int32} (h : Sg n sg) (hbn : b ≤ n) (hi : i < 12) (hj : j < 12) (q1 : wd n sg i b = true) (q2 : wd n sg j b = true) : i = j := cd_inj i hi j hj (((wEq h hbn hi).mpr q1).symm.trans ((wEq h hbn hj).mpr q2))
theorem m_isX {n b i : Nat} {sg : Nat → Int32} {at' pa fr pn : Int32} {pw : Int64} (h : Sg n sg) (hbn : b ≤ n) (hi : i < 12) (hl : LA n sg b at' pa fr pn pw) : F_X8_isWord (cdF i) pa pw = some (if wd n sg i b = true then 1 else 0) := by
  rw [m_isW h hbn hi hl]
  by_cases z : wd n sg i b = true
  · rw [if_pos ⟨wd_letter h hbn hi z, z⟩, if_pos z]
  · rw [if_neg (fun y => z y.2), if_neg z]
/-- which law the word at b names -/
def lw (n : Nat) (sg : Nat → Int32) (b : Nat) : Int32 := if wd n sg 4 b = true then 0 else if wd n sg 5 b = true then 1 else if wd n sg 6 b = true then 2 else if wd n sg 7 b = true then 3 else -1
theorem lw_letter {n b : Nat} {sg : Nat → Int32} (h : Sg n sg) (hbn : b ≤ n) (q : ¬ lw n sg b = -1) : 97 ≤ sg b ∧ sg b ≤ 122 := by
  unfold lw at q
  by_cases z4 : wd n sg 4 b = true
  · exact wd_letter h hbn (by decide) z4
  · rw [if_neg z4] at q
    by_cases z5 : wd n sg 5 b = true
    · exact wd_letter h hbn (by decide) z5
    · rw [if_neg z5] at q
      by_cases z6 : wd n sg 6 b = true
      · exact wd_letter h hbn (by decide) z6
      · rw [if_neg z6] at q
        by_cases z7 : wd n sg 7 b = true
        · exact wd_letter h hbn (by decide) z7
        · rw [if_neg z7] at q
          exact absurd rfl q
theorem c_lawOfWord {K n b : Nat} {sg bytes : Nat → Int32} (h : Sg n sg) (hb : TpC n sg bytes) (hK : 400 ≤ K) (hbn : b ≤ n) : F_X3_lawOfWord K bytes (nI n) (nI (wE n sg b)) (nI b) = some (lw n sg b) := by
  unfold F_X3_lawOfWord lw
  rw [c_isWord h hb hK hbn (by decide), xb1, c_isWord h hb hK hbn (by decide), xb1, c_isWord h hb hK hbn (by decide), xb1, c_isWord h hb hK hbn (by decide), xb1]
  by_cases z4 : wd n sg 4 b = true
  · rw [if_pos z4, if_pos z4]; rfl
  · rw [if_neg z4, if_neg z4, if_pos rfl]
    by_cases z5 : wd n sg 5 b = true
    · rw [if_pos z5, if_pos z5]; rfl
    · rw [if_neg z5, if_neg z5, if_pos rfl]
      by_cases z6 : wd n sg 6 b = true
      · rw [if_pos z6, if_pos z6]; rfl
      · rw [if_neg z6, if_neg z6, if_pos rfl]
        by_cases z7 : wd n sg 7 b = true
        · rw [if_pos z7, if_pos z7]; rfl
        · rw [if_neg z7, if_neg z7]; rfl
theorem c_readLaw {K n a : Nat} {sg bytes : Nat → Int32} {w nu f : Int32} (h : Sg n sg) (hb : TpC n sg bytes) (hK : 400 ≤ K) (ha : a ≤ n) : ∃ at' w' nu', F_X3_readLaw K bytes (nI n) (nI a) w nu f = some (if lw n sg (skp n sg a) = -1 then 0 else 1, at', w', nu', if lw n sg (skp n sg a) = -1 then nI (skp n sg a) else f) ∧ (¬ lw n sg (skp n sg a) = -1 → at' = nI (wE n sg (skp n sg a)) ∧ nu' = lw n sg (skp n sg a)) := by
  have h2 := skp_le h ha
  unfold F_X3_readLaw
  rw [c_readWord h hb hK ha]
  generalize skp n sg a = b at h2 ⊢
  by_cases q : b < wE n sg b
  · rw [if_pos q, xb4, if_neg (by decide), c_lawOfWord h hb hK h2, xb1]
    by_cases z : lw n sg b = -1
    · rw [if_pos z, if_pos z, if_pos z]
      exact ⟨_, _, _, rfl, fun y => absurd z y⟩
    · rw [if_neg z, if_neg z, if_neg z]
      exact ⟨_, _, _, rfl, fun _ => ⟨rfl, rfl⟩⟩
  · rw [if_neg q, xb4, if_pos rfl]
    have z : lw n sg b = -1 := Classical.byContradiction (fun y => q ((wE_lt h h2).mpr (lw_letter h h2 y)))
    rw [if_pos z, if_pos z]
    exact ⟨_, _, _, rfl, fun y => absurd z y⟩
theorem m_word4 {K : Nat} (hK : 400 ≤ K) : F_X8_word K 115 117 109 0 0 0 = some (cdF 4) := by
  obtain ⟨k, rfl⟩ : ∃ k, K = k + 10 := ⟨K - 10, by omega⟩
  rfl
theorem m_word5 {K : Nat} (hK : 400 ≤ K) : F_X8_word K 115 113 117 97 114 101 = some (cdF 5) := by
  obtain ⟨k, rfl⟩ : ∃ k, K = k + 10 := ⟨K - 10, by omega⟩
  rfl
theorem m_word6 {K : Nat} (hK : 400 ≤ K) : F_X8_word K 109 111 115 116 0 0 = some (cdF 6) := by
  obtain ⟨k, rfl⟩ : ∃ k, K = k + 10 := ⟨K - 10, by omega⟩
  rfl
theorem m_word7 {K : Nat} (hK : 400 ≤ K) : F_X8_word K 116 97 120 105 0 0 = some (cdF 7) := by
  obtain ⟨k, rfl⟩ : ∃ k, K = k + 10 := ⟨K - 10, by omega⟩
  rfl
theorem m_bad {fr wr : Int32} : F_X8_bad fr wr = some (if wr = -1 then fr else wr) := by
  unfold F_X8_bad
  by_cases q : wr = -1
  · rw [if_pos q, if_pos q]
  · rw [if_neg q, if_neg q]
theorem m_adv {K n b : Nat} {sg tape : Nat → Int32} {at' pa fr pn : Int32} {pw : Int64} (h : Sg n sg) (hb : TpM n sg tape) (hK : 400 ≤ K) (hbn : b ≤ n) (hl : LA n sg b at' pa fr pn pw) : ∃ a2 p2 f2 n2 w2, F_X8_next K tape (nI n) at' pa fr pn pw = some (a2, p2, f2, n2, w2) ∧ LA n sg (skp n sg (te n sg b)) a2 p2 f2 n2 w2 := by
  rw [hl.1]
  exact m_next h hb hK (te_le h hbn)
theorem m_number {K n b : Nat} {sg tape : Nat → Int32} {lo hi at' pa fr pn : Int32} {pw : Int64} (h : Sg n sg) (hb : TpM n sg tape) (hK : 400 ≤ K) (hbn : b ≤ n) (hl : LA n sg b at' pa fr pn pw) : (¬ okN n sg lo hi b → F_X8_number K lo hi tape (nI n) at' pa fr pn (-1) pw = some (lo, at', pa, fr, pn, nI b, pw)) ∧ (okN n sg lo hi b → ∃ a2 p2 f2 n2 w2, F_X8_number K lo hi tape (nI n) at' pa fr pn (-1) pw = some (nN n sg b, a2, p2, f2, n2, -1, w2) ∧ LA n sg (skp n sg (dE n sg b)) a2 p2 f2 n2 w2) := by
  unfold F_X8_number
  rw [if_pos rfl, m_bad, if_pos rfl, xb1, m_inI, xb1]
  obtain ⟨e1, e2, e3, e4, e5⟩ := id hl
  by_cases q : tk n sg b = 2
  · have q2 := tk2.mp q
    rw [e2, if_pos q, e4 q]
    by_cases z : lo ≤ nN n sg b ∧ nN n sg b ≤ hi
    · have ok : okN n sg lo hi b := ⟨q2.1, q2.2, z.1, z.2⟩
      refine ⟨fun y => absurd ok y, fun _ => ?_⟩
      rw [if_pos z, if_neg (by decide)]
      obtain ⟨a2, p2, f2, n2, w2, x1, x2⟩ := m_adv h hb hK hbn (show LA n sg b at' (tk n sg b) fr (nN n sg b) pw from ⟨e1, rfl, e3, fun _ => rfl, e5⟩)
      rw [x1, xb5]
      rw [te_n q2.1] at x2
      exact ⟨a2, p2, f2, n2, w2, rfl, x2⟩
    · refine ⟨fun _ => ?_, fun y => absurd ⟨y.2.2.1, y.2.2.2⟩ z⟩
      rw [if_neg z, if_pos rfl, e3]
  · refine ⟨fun _ => ?_, fun y => absurd (tk2.mpr ⟨y.1, y.2.1⟩) q⟩
    rw [e2, if_neg q, e3]
theorem m_numberW {K : Nat} {tape : Nat → Int32} {lo hi td at' pa fr pn wr : Int32} {pw : Int64} (hw : ¬ wr = -1) : F_X8_number K lo hi tape td at' pa fr pn wr pw = some (lo, at', pa, fr, pn, wr, pw) := by
  unfold F_X8_number
  rw [if_neg hw, m_bad, if_neg hw, xb1]
theorem m_comma {K n b : Nat} {sg tape : Nat → Int32} {at' pa fr pn : Int32} {pw : Int64} (h : Sg n sg) (hb : TpM n sg tape) (hK : 400 ≤ K) (hbn : b ≤ n) (hl : LA n sg b at' pa fr pn pw) : (¬ sg b = 44 → F_X8_comma K tape (nI n) at' pa fr pn (-1) pw = some (at', pa, fr, pn, nI b, pw)) ∧ (sg b = 44 → ∃ a2 p2 f2 n2 w2, F_X8_comma K tape (nI n) at' pa fr pn (-1) pw = some (a2, p2, f2, n2, -1, w2) ∧ LA n sg (skp n sg (b + 1)) a2 p2 f2 n2 w2) := by
  unfold F_X8_comma
  rw [if_pos rfl, m_bad, if_pos rfl, xb1]
  obtain ⟨e1, e2, e3, e4, e5⟩ := id hl
  by_cases q : sg b = 44
  · refine ⟨fun y => absurd q y, fun _ => ?_⟩
    rw [if_pos (e2.trans (tk3.mpr q))]
    obtain ⟨a2, p2, f2, n2, w2, x1, x2⟩ := m_adv h hb hK hbn hl
    rw [x1, xb5]
    rw [te_s q (Or.inl rfl)] at x2
    exact ⟨a2, p2, f2, n2, w2, rfl, x2⟩
  · refine ⟨fun _ => ?_, fun y => absurd y q⟩
    rw [if_neg (fun y => q (tk3.mp (e2.symm.trans y))), e3]
theorem m_commaW {K : Nat} {tape : Nat → Int32} {td at' pa fr pn wr : Int32} {pw : Int64} (hw : ¬ wr = -1) : F_X8_comma K tape td at' pa fr pn wr pw = some (at', pa, fr, pn, wr, pw) := by
  unfold F_X8_comma
  rw [if_neg hw, m_bad, if_neg hw, xb1]
theorem m_lawWord {K n b : Nat} {sg tape : Nat → Int32} {at' pa fr pn : Int32} {pw : Int64} (h : Sg n sg) (hb : TpM n sg tape) (hK : 400 ≤ K) (hbn : b ≤ n) (hl : LA n sg b at' pa fr pn pw) : (lw n sg b = -1 → F_X8_lawWord K tape (nI n) at' pa fr pn (-1) pw = some (0, at', pa, fr, pn, nI b, pw)) ∧ (¬ lw n sg b = -1 → ∃ a2 p2 f2 n2 w2, F_X8_lawWord K tape (nI n) at' pa fr pn (-1) pw = some (lw n sg b, a2, p2, f2, n2, -1, w2) ∧ LA n sg (skp n sg (wE n sg b)) a2 p2 f2 n2 w2) := by
  obtain ⟨e1, e2, e3, e4, e5⟩ := id hl
  have J : ∀ k0 : Int32, (k0 = -1 → J_X8_lawWord_98 K (nI n) tape k0 at' pa fr pn (-1) pw = some (0, at', pa, fr, pn, nI b, pw)) ∧ (¬ k0 = -1 → (97 ≤ sg b ∧ sg b ≤ 122) → ∃ a2 p2 f2 n2 w2, J_X8_lawWord_98 K (nI n) tape k0 at' pa fr pn (-1) pw = some (k0, a2, p2, f2, n2, -1, w2) ∧ LA n sg (skp n sg (wE n sg b)) a2 p2 f2 n2 w2) := by
    intro k0
    unfold J_X8_lawWord_98
    rw [if_pos rfl, m_bad, if_pos rfl, xb1]
    refine ⟨fun q => by rw [if_pos q, e3], fun q z => ?_⟩
    rw [if_neg q]
    obtain ⟨a2, p2, f2, n2, w2, x1, x2⟩ := m_adv h hb hK hbn hl
    rw [x1, xb5]
    rw [te_w z] at x2
    exact ⟨a2, p2, f2, n2, w2, rfl, x2⟩
  have E : F_X8_lawWord K tape (nI n) at' pa fr pn (-1) pw = J_X8_lawWord_98 K (nI n) tape (lw n sg b) at' pa fr pn (-1) pw := by
    unfold F_X8_lawWord lw
    rw [m_word4 hK, xb1, m_isX h hbn (by decide) hl, xb1, m_word5 hK, xb1, m_isX h hbn (by decide) hl, xb1, m_word6 hK, xb1, m_isX h hbn (by decide) hl, xb1, m_word7 hK, xb1, m_isX h hbn (by decide) hl, xb1]
    by_cases z4 : wd n sg 4 b = true
    · rw [if_pos z4, if_pos z4, if_neg (by decide)]
    · rw [if_neg z4, if_neg z4, if_pos rfl]
      by_cases z5 : wd n sg 5 b = true
      · rw [if_pos z5, if_pos z5, if_neg (by decide)]
      · rw [if_neg z5, if_neg z5, if_pos rfl]
        by_cases z6 : wd n sg 6 b = true
        · rw [if_pos z6, if_pos z6, if_neg (by decide)]
        · rw [if_neg z6, if_neg z6, if_pos rfl]
          by_cases z7 : wd n sg 7 b = true
          · rw [if_pos z7, if_pos z7, if_neg (by decide)]
          · rw [if_neg z7, if_neg z7, if_pos rfl]
  rw [E]
  exact ⟨fun q => (J _).1 q, fun q => (J _).2 q (lw_letter h hbn q)⟩
/-- two numbers with a comma, from b on: where it fails, or its end and the numbers -/
def siS (n : Nat) (sg : Nat → Int32) (b : Nat) : Nat ⊕ (Nat × Int32 × Int32) := if okN n sg (-999) 999 b then (if sg (skp n sg (dE n sg b)) = 44 then (if okN n sg (-999) 999 (skp n sg (skp n sg (dE n sg b) + 1)) then .inr (dE n sg (skp n sg (skp n sg (dE n sg b) + 1)), nN n sg b, nN n sg (skp n sg (skp n sg (dE n sg b) + 1))) else .inl (skp n sg (skp n sg (dE n sg b) + 1))) else .inl (skp n sg (dE n sg b))) else .inl b
theorem sg44_lt {n b : Nat} {sg : Nat → Int32} (h : Sg n sg) {p : Int32} (hp : ¬ p = -1) (q : sg b = p) : b < n := Nat.lt_of_not_le (fun z => hp (q.symm.trans (h.2.1 b z)))
theorem nI_mulc (k : Nat) (a : Nat) : nI k * nI a = nI (k * a) := nI_mul k a
theorem x2c : (2 : Int32) = nI 2 := by decide
theorem c_readSite {K n a s : Nat} {sg bytes pl : Nat → Int32} {ws nu f : Int32} (h : Sg n sg) (hb : TpC n sg bytes) (hK : 400 ≤ K) (ha : a ≤ n) (hs : s < 8) : ∃ pl' at' nu' f' r s', F_X3_readSite K bytes (nI n) pl (nI s) (nI a) ws nu f = some (r, pl', s', at', nu', f') ∧ (∀ p, siS n sg (skp n sg a) = .inl p → r = 0 ∧ f' = nI p) ∧ (∀ e v1 v2, siS n sg (skp n sg a) = .inr (e, v1, v2) → r = 1 ∧ f' = f ∧ s' = nI (s + 1) ∧ at' = nI e ∧ pl' = upd (upd pl (2 * s) v1) (2 * s + 1) v2) := by
  have h1 := h.1
  have h2 := skp_le h ha
  obtain ⟨k, rfl⟩ : ∃ k, K = k + 400 := ⟨K - 400, by omega⟩
  unfold F_X3_readSite
  rw [x8, xltn (by omega) (by decide), if_pos hs]
  obtain ⟨at1, nu1, R1, R1o⟩ := c_readNumber (lo := -999) (hi := 999) (nu := nu) (f := f) h hb hK ha
  generalize hbe : skp n sg a = b at h2 R1 R1o ⊢
  have i0 : (2 : Int32) * nI s + 0 = nI (2 * s) := by rw [x2c, nI_mulc, x0, nI_add]; rfl
  have i1 : (2 : Int32) * nI s + 1 = nI (2 * s + 1) := by rw [x2c, nI_mulc, nI_1]
  have b0 : B_X3_readSite_20 (k + 400) (nI n) bytes (nI s) 0 pl (nI a) nu f = J_X3_readSite_41_r21 (k + 400) (nI n) bytes 0 pl (nI s) (nI a) nu f := by
    unfold B_X3_readSite_20
    rw [if_neg (by decide), if_neg (by decide)]
  by_cases q1 : okN n sg (-999) 999 b
  · obtain ⟨rfl, rfl⟩ := R1o q1
    rw [if_pos q1, if_pos q1] at R1
    have h3 := dE_le h h2
    have e0 : B_X3_readSite_20 (k + 400) (nI n) bytes (nI s) 0 pl (nI a) nu f = some (.inl (0 + 1, upd pl (2 * s) (nN n sg b), nI (dE n sg b), nN n sg b, f)) := by
      rw [b0]
      unfold J_X3_readSite_41_r21
      rw [R1, xb4, if_neg (by decide), i0, xixn (by omega) (by decide), xnm, nI_clamp (by omega)]
    have h4 := skp_le h h3
    have b1 : B_X3_readSite_20 (k + 400) (nI n) bytes (nI s) (0 + 1) (upd pl (2 * s) (nN n sg b)) (nI (dE n sg b)) (nN n sg b) f = bd3 (F_X3_readSign (k + 400) 44 bytes (nI n) (nI (dE n sg b)) f) (fun r_13 w_14 w_15 => if r_13 = (0 : Int32) then some (.inr (0, upd pl (2 * s) (nN n sg b), w_14, nN n sg b, w_15)) else J_X3_readSite_41_r21 (k + 400) (nI n) bytes (0 + 1) (upd pl (2 * s) (nN n sg b)) (nI s) w_14 (nN n sg b) w_15) := by
      unfold B_X3_readSite_20
      rw [if_neg (by decide), if_pos (by decide)]
    rw [c_readSign h hb hK h3] at b1
    by_cases q2 : sg (skp n sg (dE n sg b)) = 44
    · rw [if_pos q2, xb3, if_neg (by decide)] at b1
      have h5 := sg44_lt h (by decide) q2
      obtain ⟨at2, nu2, R2, R2o⟩ := c_readNumber (lo := -999) (hi := 999) (nu := nN n sg b) (f := f) h hb hK (show skp n sg (dE n sg b) + 1 ≤ n by omega)
      have h6 := skp_le h (show skp n sg (dE n sg b) + 1 ≤ n by omega)
      by_cases q3 : okN n sg (-999) 999 (skp n sg (skp n sg (dE n sg b) + 1))
      · obtain ⟨rfl, rfl⟩ := R2o q3
        rw [if_pos q3, if_pos q3] at R2
        have e1 : B_X3_readSite_20 (k + 400) (nI n) bytes (nI s) (0 + 1) (upd pl (2 * s) (nN n sg b)) (nI (dE n sg b)) (nN n sg b) f = some (.inl (0 + 1 + 1, upd (upd pl (2 * s) (nN n sg b)) (2 * s + 1) (nN n sg (skp n sg (skp n sg (dE n sg b) + 1))), nI (dE n sg (skp n sg (skp n sg (dE n sg b) + 1))), nN n sg (skp n sg (skp n sg (dE n sg b) + 1)), f)) := by
          rw [b1]
          unfold J_X3_readSite_41_r21
          rw [R2, xb4, if_neg (by decide), show (2 : Int32) * nI s + (0 + 1) = nI (2 * s + 1) from i1, xixn (by omega) (by decide), xnm, nI_clamp (by omega)]
        rw [lp_one (u' := ((0 + 1, upd pl (2 * s) (nN n sg b), nI (dE n sg b), nN n sg b, f) : Int32 × (Nat → Int32) × Int32 × Int32 × Int32)) e0]
        rw [lp_one (u' := ((0 + 1 + 1, upd (upd pl (2 * s) (nN n sg b)) (2 * s + 1) (nN n sg (skp n sg (skp n sg (dE n sg b) + 1))), nI (dE n sg (skp n sg (skp n sg (dE n sg b) + 1))), nN n sg (skp n sg (skp n sg (dE n sg b) + 1)), f) : Int32 × (Nat → Int32) × Int32 × Int32 × Int32)) e1]
        rw [lp_end (r := ((2, upd (upd pl (2 * s) (nN n sg b)) (2 * s + 1) (nN n sg (skp n sg (skp n sg (dE n sg b) + 1))), nI (dE n sg (skp n sg (skp n sg (dE n sg b) + 1))), nN n sg (skp n sg (skp n sg (dE n sg b) + 1)), f) : Nat × (Nat → Int32) × Int32 × Int32 × Int32)) (by show B_X3_readSite_20 (k + 400) (nI n) bytes (nI s) (0 + 1 + 1) _ _ _ _ = _; unfold B_X3_readSite_20; rw [if_pos (show (2 : Int32) ≤ 0 + 1 + 1 by decide)])]
        refine ⟨_, _, _, _, _, _, rfl, fun p e => ?_, fun e v1 v2 hq => ?_⟩
        · unfold siS at e
          rw [if_pos q1, if_pos q2, if_pos q3] at e
          cases e
        · unfold siS at hq
          rw [if_pos q1, if_pos q2, if_pos q3] at hq
          cases hq
          exact ⟨rfl, rfl, by rw [nI_1], rfl, rfl⟩
      · rw [if_neg q3, if_neg q3] at R2
        have e1 : B_X3_readSite_20 (k + 400) (nI n) bytes (nI s) (0 + 1) (upd pl (2 * s) (nN n sg b)) (nI (dE n sg b)) (nN n sg b) f = some (.inr (1, upd pl (2 * s) (nN n sg b), at2, nu2, nI (skp n sg (skp n sg (dE n sg b) + 1)))) := by
          rw [b1]
          unfold J_X3_readSite_41_r21
          rw [R2, xb4, if_pos rfl]
        rw [lp_one (u' := ((0 + 1, upd pl (2 * s) (nN n sg b), nI (dE n sg b), nN n sg b, f) : Int32 × (Nat → Int32) × Int32 × Int32 × Int32)) e0, lp_end (r := ((1, upd pl (2 * s) (nN n sg b), at2, nu2, nI (skp n sg (skp n sg (dE n sg b) + 1))) : Nat × (Nat → Int32) × Int32 × Int32 × Int32)) e1]
        refine ⟨_, _, _, _, _, _, rfl, fun p e => ?_, fun e v1 v2 hq => ?_⟩
        · unfold siS at e
          rw [if_pos q1, if_pos q2, if_neg q3] at e
          cases e
          exact ⟨rfl, rfl⟩
        · unfold siS at hq
          rw [if_pos q1, if_pos q2, if_neg q3] at hq
          cases hq
    · rw [if_neg q2, xb3, if_pos rfl] at b1
      rw [lp_one (u' := ((0 + 1, upd pl (2 * s) (nN n sg b), nI (dE n sg b), nN n sg b, f) : Int32 × (Nat → Int32) × Int32 × Int32 × Int32)) e0, lp_end (r := ((0, upd pl (2 * s) (nN n sg b), nI (skp n sg (dE n sg b)), nN n sg b, nI (skp n sg (dE n sg b))) : Nat × (Nat → Int32) × Int32 × Int32 × Int32)) b1]
      refine ⟨_, _, _, _, _, _, rfl, fun p e => ?_, fun e v1 v2 hq => ?_⟩
      · unfold siS at e
        rw [if_pos q1, if_neg q2] at e
        cases e
        exact ⟨rfl, rfl⟩
      · unfold siS at hq
        rw [if_pos q1, if_neg q2] at hq
        cases hq
  · rw [if_neg q1, if_neg q1] at R1
    have e0 : B_X3_readSite_20 (k + 400) (nI n) bytes (nI s) 0 pl (nI a) nu f = some (.inr (1, pl, at1, nu1, nI b)) := by
      rw [b0]
      unfold J_X3_readSite_41_r21
      rw [R1, xb4, if_pos rfl]
    rw [lp_end (r := ((1, pl, at1, nu1, nI b) : Nat × (Nat → Int32) × Int32 × Int32 × Int32)) e0]
    refine ⟨_, _, _, _, _, _, rfl, fun p e => ?_, fun e v1 v2 hq => ?_⟩
    · unfold siS at e
      rw [if_neg q1] at e
      cases e
      exact ⟨rfl, rfl⟩
    · unfold siS at hq
      rw [if_neg q1] at hq
      cases hq
end
-- 55.cl
section
/-! a clause in both readers -/
theorem nI_ne_m1 {p : Nat} (h : p < 2 ^ 31) : ¬ nI p = -1 := fun q => by
  have e := congrArg Int32.toInt q
  rw [nI_toInt h, show (-1 : Int32).toInt = -1 by decide] at e
  omega
theorem m_readSite {K n b s : Nat} {sg tape rp : Nat → Int32} {at' pa fr pn : Int32} {pw : Int64} (h : Sg n sg) (hb : TpM n sg tape) (hK : 400 ≤ K) (hbn : b ≤ n) (hs : s < 8) (hl : LA n sg b at' pa fr pn pw) : ∃ a2 p2 f2 n2 wr w2 rp2, F_X8_readSite K tape (nI n) at' pa fr pn (-1) pw (nI s) rp = some (a2, p2, f2, n2, wr, w2, nI (s + 1), rp2) ∧ (∀ p, siS n sg b = .inl p → wr = nI p) ∧ (∀ e v1 v2, siS n sg b = .inr (e, v1, v2) → wr = -1 ∧ LA n sg (skp n sg e) a2 p2 f2 n2 w2 ∧ rp2 = upd (upd rp (2 * s) v1) (2 * s + 1) v2) := by
  have h1 := h.1
  have i0 : (2 : Int32) * nI s = nI (2 * s) := by rw [x2c, nI_mulc]
  unfold F_X8_readSite
  rw [i0, nI_1, nI_clamp (by omega), nI_clamp (by omega), nI_1]
  unfold siS
  by_cases q1 : okN n sg (-999) 999 b
  · obtain ⟨a2, p2, f2, n2, w2, E1, L1⟩ := (m_number (lo := -999) (hi := 999) h hb hK hbn hl).2 q1
    rw [E1, xb7, xixn (by omega) (by decide), xnm, if_pos q1]
    have h3 := dE_le h hbn
    have h4 := skp_le h h3
    by_cases q2 : sg (skp n sg (dE n sg b)) = 44
    · obtain ⟨a3, p3, f3, n3, w3, E2, L2⟩ := (m_comma h hb hK h4 L1).2 q2
      have h5 := sg44_lt h (by decide) q2
      have h6 := skp_le h (show skp n sg (dE n sg b) + 1 ≤ n by omega)
      rw [E2, xb6, if_pos q2]
      by_cases q3 : okN n sg (-999) 999 (skp n sg (skp n sg (dE n sg b) + 1))
      · obtain ⟨a4, p4, f4, n4, w4, E3, L3⟩ := (m_number (lo := -999) (hi := 999) h hb hK h6 L2).2 q3
        rw [E3, xb7, xixn (by omega) (by decide), xnm, if_pos q3]
        refine ⟨_, _, _, _, _, _, _, rfl, fun p e => (by cases e), fun e v1 v2 hq => ?_⟩
        cases hq
        exact ⟨rfl, L3, rfl⟩
      · rw [(m_number (lo := -999) (hi := 999) h hb hK h6 L2).1 q3, xb7, xixn (by omega) (by decide), xnm, if_neg q3]
        refine ⟨_, _, _, _, _, _, _, rfl, fun p e => ?_, fun e v1 v2 hq => by cases hq⟩
        cases e
        rfl
    · rw [(m_comma h hb hK h4 L1).1 q2, xb6, m_numberW (nI_ne_m1 (by omega)), xb7, xixn (by omega) (by decide), xnm, if_neg q2]
      refine ⟨_, _, _, _, _, _, _, rfl, fun p e => ?_, fun e v1 v2 hq => by cases hq⟩
      cases e
      rfl
  · rw [(m_number (lo := -999) (hi := 999) h hb hK hbn hl).1 q1, xb7, xixn (by omega) (by decide), xnm, m_commaW (nI_ne_m1 (by omega)), xb6, m_numberW (nI_ne_m1 (by omega)), xb7, xixn (by omega) (by decide), xnm, if_neg q1]
    refine ⟨_, _, _, _, _, _, _, rfl, fun p e => ?_, fun e v1 v2 hq => by cases hq⟩
    cases e
    rfl
/-- a clause at b, with the rules m seen and s sites: where it fails, or its end, its sort, its numbers -/
def clS (n : Nat) (sg : Nat → Int32) (b m s : Nat) : Nat ⊕ (Nat × Nat × Int32 × Int32) :=
  if wd n sg 0 b = true then (if 8 ≤ s then .inl b else match siS n sg (skp n sg (wE n sg b)) with | .inl p => .inl p | .inr (e, v1, v2) => .inr (e, 3, v1, v2))
  else if wd n sg 1 b = true then (if m.testBit 0 = true then .inl b else if lw n sg (skp n sg (wE n sg b)) = -1 then .inl (skp n sg (wE n sg b)) else .inr (wE n sg (skp n sg (wE n sg b)), 0, lw n sg (skp n sg (wE n sg b)), 0))
  else if wd n sg 2 b = true then (if m.testBit 1 = true then .inl b else if okN n sg (-9999999) 9999999 (skp n sg (wE n sg b)) then .inr (dE n sg (skp n sg (wE n sg b)), 1, nN n sg (skp n sg (wE n sg b)), 0) else .inl (skp n sg (wE n sg b)))
  else if wd n sg 3 b = true then (if m.testBit 2 = true then .inl b else if okN n sg 1 9999 (skp n sg (wE n sg b)) then .inr (dE n sg (skp n sg (wE n sg b)), 2, nN n sg (skp n sg (wE n sg b)), 0) else .inl (skp n sg (wE n sg b)))
  else .inl b
/-- what a clause of sort k leaves -/
def mS (m k : Nat) : Nat := if k < 3 then m ||| (1 <<< k) else m
def sS (s k : Nat) : Nat := if k = 3 then s + 1 else s
def ruS (ru : Nat → Int32) (k : Nat) (v : Int32) : Nat → Int32 := if k < 3 then upd ru k v else ru
def plS (pl : Nat → Int32) (s k : Nat) (v1 v2 : Int32) : Nat → Int32 := if k = 3 then upd (upd pl (2 * s) v1) (2 * s + 1) v2 else pl
theorem bit_c : ∀ m, m < 8 → ∀ k, k < 3 → (((nI m >>> (nI k &&& 31)) &&& 1 = 0) ↔ ¬ m.testBit k = true) ∧ nI m ||| (1 <<< (nI k &&& 31)) = nI (m ||| (1 <<< k)) := by decide +kernel
theorem bit_m : ∀ m, m < 16 → ∀ k, k < 3 → (((nI m >>> (nI k &&& 31)) &&& 1 = 1) ↔ (m % 8).testBit k = true) ∧ nI m ||| (1 <<< (nI k &&& 31)) = nI (m ||| (1 <<< k)) := by decide +kernel
theorem c_ruleOfWord {K n b : Nat} {sg bytes : Nat → Int32} (h : Sg n sg) (hb : TpC n sg bytes) (hK : 400 ≤ K) (hbn : b ≤ n) : F_X3_ruleOfWord K bytes (nI n) (nI (wE n sg b)) (nI b) = some (if wd n sg 1 b = true then 0 else if wd n sg 2 b = true then 1 else if wd n sg 3 b = true then 2 else -1) := by
  unfold F_X3_ruleOfWord
  rw [c_isWord h hb hK hbn (by decide), xb1, c_isWord h hb hK hbn (by decide), xb1, c_isWord h hb hK hbn (by decide), xb1]
  by_cases z4 : wd n sg 1 b = true
  · rw [if_pos z4, if_pos z4]; rfl
  · rw [if_neg z4, if_neg z4, if_pos rfl]
    by_cases z5 : wd n sg 2 b = true
    · rw [if_pos z5, if_pos z5]; rfl
    · rw [if_neg z5, if_neg z5, if_pos rfl]
      by_cases z6 : wd n sg 3 b = true
      · rw [if_pos z6, if_pos z6]; rfl
      · rw [if_neg z6, if_neg z6]; rfl
theorem c_clause {K n a m s : Nat} {sg bytes ru pl : Nat → Int32} {ws nu f : Int32} (h : Sg n sg) (hb : TpC n sg bytes) (hK : 400 ≤ K) (ha : a ≤ n) (hm : m < 8) (hs : s ≤ 8) : ∃ r ru' pl' s' m' at' ws' nu' f', F_X3_readClause K bytes (nI n) ru pl (nI s) (nI m) (nI a) ws nu f = some (r, ru', pl', s', m', at', ws', nu', f') ∧ (∀ p, clS n sg (skp n sg a) m s = .inl p → r = 0 ∧ f' = nI p) ∧ (∀ e k v1 v2, clS n sg (skp n sg a) m s = .inr (e, k, v1, v2) → r = 1 ∧ f' = f ∧ at' = nI e ∧ s' = nI (sS s k) ∧ m' = nI (mS m k) ∧ ru' = ruS ru k v1 ∧ pl' = plS pl s k v1 v2) := by
  have h1 := h.1
  have h2 := skp_le h ha
  unfold F_X3_readClause
  rw [c_readWord h hb hK ha]
  generalize skp n sg a = b at h2 ⊢
  have h3 := wE_le h h2
  have h4 := skp_le h h3
  by_cases q : b < wE n sg b
  · rw [if_pos q, xb4, if_neg (by decide), c_isWord h hb hK h2 (by decide), xb1]
    unfold clS
    by_cases z0 : wd n sg 0 b = true
    · rw [if_pos z0, if_neg (by decide), if_pos z0]
      by_cases hs8 : 8 ≤ s
      · rw [if_pos hs8]
        have E : F_X3_readSite K bytes (nI n) pl (nI s) (nI (wE n sg b)) (nI b) nu f = some (0, pl, nI s, nI (wE n sg b), nu, nI b) := by
          unfold F_X3_readSite
          rw [x8, xltn (by omega) (by decide), if_neg (by omega)]
          rfl
        rw [E, xb6]
        refine ⟨_, _, _, _, _, _, _, _, _, rfl, fun p e => ?_, fun e k v1 v2 hq => by cases hq⟩
        cases e
        exact ⟨rfl, rfl⟩
      · rw [if_neg hs8]
        obtain ⟨pl', at', nu', f', r, s', E, A, B⟩ := c_readSite (pl := pl) (ws := nI b) (nu := nu) (f := f) (s := s) h hb hK h3 (by omega)
        rw [E, xb6]
        refine ⟨_, _, _, _, _, _, _, _, _, rfl, fun p e => ?_, fun e k v1 v2 hq => ?_⟩
        · cases hsi : siS n sg (skp n sg (wE n sg b)) with
          | inl p' => rw [hsi] at e; cases e; exact A _ hsi
          | inr x => obtain ⟨e1, v1, v2⟩ := x; rw [hsi] at e; cases e
        · cases hsi : siS n sg (skp n sg (wE n sg b)) with
          | inl p' => rw [hsi] at hq; cases hq
          | inr x =>
            obtain ⟨e1, u1, u2⟩ := x
            rw [hsi] at hq
            cases hq
            obtain ⟨c1, c2, c3, c4, c5⟩ := B _ _ _ hsi
            exact ⟨c1, c2, c4, c3, rfl, rfl, c5⟩
    · rw [if_neg z0, if_pos rfl, if_neg z0, c_ruleOfWord h hb hK h2, xb1]
      by_cases z1 : wd n sg 1 b = true
      · rw [if_pos z1, if_pos z1, if_neg (by decide), if_neg (by decide)]
        have bc : (((nI m >>> ((0 : Int32) &&& 31)) &&& 1 = 0) ↔ ¬ m.testBit 0 = true) ∧ nI m ||| (1 <<< ((0 : Int32) &&& 31)) = nI (m ||| (1 <<< 0)) := bit_c m hm 0 (by decide)
        by_cases t : m.testBit 0 = true
        · rw [if_neg (fun y => bc.1.mp y t), if_pos t]
          refine ⟨_, _, _, _, _, _, _, _, _, rfl, fun p e => ?_, fun e k v1 v2 hq => by cases hq⟩
          cases e
          exact ⟨rfl, rfl⟩
        · rw [if_pos (bc.1.mpr t), if_neg t, if_pos rfl]
          obtain ⟨at', w', nu', E, A⟩ := c_readLaw (w := nI b) (nu := nu) (f := f) h hb hK h3
          rw [E, xb5]
          unfold J_X3_readClause_108
          by_cases y : lw n sg (skp n sg (wE n sg b)) = -1
          · rw [if_pos y, if_pos rfl, if_pos y, if_pos y]
            refine ⟨_, _, _, _, _, _, _, _, _, rfl, fun p e => ?_, fun e k v1 v2 hq => by cases hq⟩
            cases e
            exact ⟨rfl, rfl⟩
          · obtain ⟨rfl, rfl⟩ := A y
            rw [if_neg y, if_neg (by decide), if_neg y, if_neg y]
            refine ⟨_, _, _, _, _, _, _, _, _, rfl, fun p e => (by cases e), fun e k v1 v2 hq => ?_⟩
            cases hq
            exact ⟨rfl, rfl, rfl, rfl, bc.2, rfl, rfl⟩
      · rw [if_neg z1, if_neg z1]
        by_cases z2 : wd n sg 2 b = true
        · rw [if_pos z2, if_pos z2, if_neg (by decide), if_neg (by decide)]
          have bc : (((nI m >>> ((1 : Int32) &&& 31)) &&& 1 = 0) ↔ ¬ m.testBit 1 = true) ∧ nI m ||| (1 <<< ((1 : Int32) &&& 31)) = nI (m ||| (1 <<< 1)) := bit_c m hm 1 (by decide)
          by_cases t : m.testBit 1 = true
          · rw [if_neg (fun y => bc.1.mp y t), if_pos t]
            refine ⟨_, _, _, _, _, _, _, _, _, rfl, fun p e => ?_, fun e k v1 v2 hq => by cases hq⟩
            cases e
            exact ⟨rfl, rfl⟩
          · rw [if_pos (bc.1.mpr t), if_neg t, if_neg (by decide), if_pos rfl]
            obtain ⟨at', nu', E, A⟩ := c_readNumber (lo := -9999999) (hi := 9999999) (nu := nu) (f := f) h hb hK h3
            rw [E, xb4]
            unfold J_X3_readClause_108
            by_cases y : okN n sg (-9999999) 9999999 (skp n sg (wE n sg b))
            · obtain ⟨rfl, rfl⟩ := A y
              rw [if_pos y, if_neg (by decide), if_pos y, if_pos y]
              refine ⟨_, _, _, _, _, _, _, _, _, rfl, fun p e => (by cases e), fun e k v1 v2 hq => ?_⟩
              cases hq
              exact ⟨rfl, rfl, rfl, rfl, bc.2, rfl, rfl⟩
            · rw [if_neg y, if_pos rfl, if_neg y, if_neg y]
              refine ⟨_, _, _, _, _, _, _, _, _, rfl, fun p e => ?_, fun e k v1 v2 hq => by cases hq⟩
              cases e
              exact ⟨rfl, rfl⟩
        · rw [if_neg z2, if_neg z2]
          by_cases z3 : wd n sg 3 b = true
          · rw [if_pos z3, if_pos z3, if_neg (by decide), if_neg (by decide)]
            have bc : (((nI m >>> ((2 : Int32) &&& 31)) &&& 1 = 0) ↔ ¬ m.testBit 2 = true) ∧ nI m ||| (1 <<< ((2 : Int32) &&& 31)) = nI (m ||| (1 <<< 2)) := bit_c m hm 2 (by decide)
            by_cases t : m.testBit 2 = true
            · rw [if_neg (fun y => bc.1.mp y t), if_pos t]
              refine ⟨_, _, _, _, _, _, _, _, _, rfl, fun p e => ?_, fun e k v1 v2 hq => by cases hq⟩
              cases e
              exact ⟨rfl, rfl⟩
            · rw [if_pos (bc.1.mpr t), if_neg t, if_neg (by decide), if_neg (by decide)]
              obtain ⟨at', nu', E, A⟩ := c_readNumber (lo := 1) (hi := 9999) (nu := nu) (f := f) h hb hK h3
              rw [E, xb4]
              unfold J_X3_readClause_108
              by_cases y : okN n sg 1 9999 (skp n sg (wE n sg b))
              · obtain ⟨rfl, rfl⟩ := A y
                rw [if_pos y, if_neg (by decide), if_pos y, if_pos y]
                refine ⟨_, _, _, _, _, _, _, _, _, rfl, fun p e => (by cases e), fun e k v1 v2 hq => ?_⟩
                cases hq
                exact ⟨rfl, rfl, rfl, rfl, bc.2, rfl, rfl⟩
              · rw [if_neg y, if_pos rfl, if_neg y, if_neg y]
                refine ⟨_, _, _, _, _, _, _, _, _, rfl, fun p e => ?_, fun e k v1 v2 hq => by cases hq⟩
                cases e
                exact ⟨rfl, rfl⟩
          · rw [if_neg z3, if_neg z3, if_pos (by decide)]
            refine ⟨_, _, _, _, _, _, _, _, _, rfl, fun p e => ?_, fun e k v1 v2 hq => by cases hq⟩
            cases e
            exact ⟨rfl, rfl⟩
  · rw [if_neg q, xb4, if_pos rfl]
    have nz : ∀ i, i < 12 → ¬ wd n sg i b = true := fun i hi z => q ((wE_lt h h2).mpr (wd_letter h h2 hi z))
    unfold clS
    rw [if_neg (nz 0 (by decide)), if_neg (nz 1 (by decide)), if_neg (nz 2 (by decide)), if_neg (nz 3 (by decide))]
    refine ⟨_, _, _, _, _, _, _, _, _, rfl, fun p e => ?_, fun e k v1 v2 hq => by cases hq⟩
    cases e
    exact ⟨rfl, rfl⟩
end
