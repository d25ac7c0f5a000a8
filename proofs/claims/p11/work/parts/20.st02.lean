def dl_X5_begin_20_st02_0 : List (Nat × Instr × Nat) := [(2, .iload_n 2, 1), (3, .bipush 81, 2), (5, .if_icmp .ge 16, 3), (8, .aload_n 0, 1), (9, .getfield 11, 3), (12, .iload_n 2, 1), (13, .iconst 0, 1), (14, .iastore, 1), (15, .iinc 2 1, 3), (18, .goto (-16), 3), (74, .iload_n 2, 1), (75, .aload_n 0, 1), (76, .invokevirtual 45, 3), (79, .if_icmp .ge 39, 3), (82, .aload_n 0, 1), (83, .iload_n 2, 1), (84, .iconst 0, 1), (85, .aload_n 1, 1), (86, .getfield 49, 3), (89, .iconst 2, 1), (90, .iload_n 2, 1), (91, .imul, 1), (92, .iaload, 1), (93, .invokevirtual 52, 3), (96, .aload_n 0, 1), (97, .iload_n 2, 1), (98, .iconst 1, 1), (99, .aload_n 1, 1), (100, .getfield 49, 3), (103, .iconst 2, 1), (104, .iload_n 2, 1), (105, .imul, 1), (106, .iconst 1, 1), (107, .iadd, 1), (108, .iaload, 1), (109, .invokevirtual 52, 3), (112, .iinc 2 1, 3), (115, .goto (-41), 3), (0, .iconst 0, 1), (1, .istore_n 2, 1), (21, .aload_n 0, 1), (22, .getfield 11, 3), (25, .iconst 0, 1), (26, .aload_n 1, 1), (27, .getfield 31, 3), (30, .iconst 0, 1), (31, .iaload, 1), (32, .iastore, 1), (33, .aload_n 0, 1), (34, .getfield 11, 3)]
set_option maxRecDepth 100000 in
theorem dall_X5_begin_20_st02_0 : dchk cX5_begin dl_X5_begin_20_st02_0 = true := by decide +kernel
theorem dX5_begin_2 : decode cX5_begin 2 = .ok (.iload_n 2, 1) := dchk_at dall_X5_begin_20_st02_0 (k := 0) rfl
theorem dX5_begin_3 : decode cX5_begin 3 = .ok (.bipush 81, 2) := dchk_at dall_X5_begin_20_st02_0 (k := 1) rfl
theorem dX5_begin_5 : decode cX5_begin 5 = .ok (.if_icmp .ge 16, 3) := dchk_at dall_X5_begin_20_st02_0 (k := 2) rfl
theorem dX5_begin_8 : decode cX5_begin 8 = .ok (.aload_n 0, 1) := dchk_at dall_X5_begin_20_st02_0 (k := 3) rfl
theorem dX5_begin_9 : decode cX5_begin 9 = .ok (.getfield 11, 3) := dchk_at dall_X5_begin_20_st02_0 (k := 4) rfl
theorem dX5_begin_12 : decode cX5_begin 12 = .ok (.iload_n 2, 1) := dchk_at dall_X5_begin_20_st02_0 (k := 5) rfl
theorem dX5_begin_13 : decode cX5_begin 13 = .ok (.iconst 0, 1) := dchk_at dall_X5_begin_20_st02_0 (k := 6) rfl
theorem dX5_begin_14 : decode cX5_begin 14 = .ok (.iastore, 1) := dchk_at dall_X5_begin_20_st02_0 (k := 7) rfl
theorem dX5_begin_15 : decode cX5_begin 15 = .ok (.iinc 2 1, 3) := dchk_at dall_X5_begin_20_st02_0 (k := 8) rfl
theorem dX5_begin_18 : decode cX5_begin 18 = .ok (.goto (-16), 3) := dchk_at dall_X5_begin_20_st02_0 (k := 9) rfl
theorem dX5_begin_74 : decode cX5_begin 74 = .ok (.iload_n 2, 1) := dchk_at dall_X5_begin_20_st02_0 (k := 10) rfl
theorem dX5_begin_75 : decode cX5_begin 75 = .ok (.aload_n 0, 1) := dchk_at dall_X5_begin_20_st02_0 (k := 11) rfl
theorem dX5_begin_76 : decode cX5_begin 76 = .ok (.invokevirtual 45, 3) := dchk_at dall_X5_begin_20_st02_0 (k := 12) rfl
theorem dX5_begin_79 : decode cX5_begin 79 = .ok (.if_icmp .ge 39, 3) := dchk_at dall_X5_begin_20_st02_0 (k := 13) rfl
theorem dX5_begin_82 : decode cX5_begin 82 = .ok (.aload_n 0, 1) := dchk_at dall_X5_begin_20_st02_0 (k := 14) rfl
theorem dX5_begin_83 : decode cX5_begin 83 = .ok (.iload_n 2, 1) := dchk_at dall_X5_begin_20_st02_0 (k := 15) rfl
theorem dX5_begin_84 : decode cX5_begin 84 = .ok (.iconst 0, 1) := dchk_at dall_X5_begin_20_st02_0 (k := 16) rfl
theorem dX5_begin_85 : decode cX5_begin 85 = .ok (.aload_n 1, 1) := dchk_at dall_X5_begin_20_st02_0 (k := 17) rfl
theorem dX5_begin_86 : decode cX5_begin 86 = .ok (.getfield 49, 3) := dchk_at dall_X5_begin_20_st02_0 (k := 18) rfl
theorem dX5_begin_89 : decode cX5_begin 89 = .ok (.iconst 2, 1) := dchk_at dall_X5_begin_20_st02_0 (k := 19) rfl
theorem dX5_begin_90 : decode cX5_begin 90 = .ok (.iload_n 2, 1) := dchk_at dall_X5_begin_20_st02_0 (k := 20) rfl
theorem dX5_begin_91 : decode cX5_begin 91 = .ok (.imul, 1) := dchk_at dall_X5_begin_20_st02_0 (k := 21) rfl
theorem dX5_begin_92 : decode cX5_begin 92 = .ok (.iaload, 1) := dchk_at dall_X5_begin_20_st02_0 (k := 22) rfl
theorem dX5_begin_93 : decode cX5_begin 93 = .ok (.invokevirtual 52, 3) := dchk_at dall_X5_begin_20_st02_0 (k := 23) rfl
theorem dX5_begin_96 : decode cX5_begin 96 = .ok (.aload_n 0, 1) := dchk_at dall_X5_begin_20_st02_0 (k := 24) rfl
theorem dX5_begin_97 : decode cX5_begin 97 = .ok (.iload_n 2, 1) := dchk_at dall_X5_begin_20_st02_0 (k := 25) rfl
theorem dX5_begin_98 : decode cX5_begin 98 = .ok (.iconst 1, 1) := dchk_at dall_X5_begin_20_st02_0 (k := 26) rfl
theorem dX5_begin_99 : decode cX5_begin 99 = .ok (.aload_n 1, 1) := dchk_at dall_X5_begin_20_st02_0 (k := 27) rfl
theorem dX5_begin_100 : decode cX5_begin 100 = .ok (.getfield 49, 3) := dchk_at dall_X5_begin_20_st02_0 (k := 28) rfl
theorem dX5_begin_103 : decode cX5_begin 103 = .ok (.iconst 2, 1) := dchk_at dall_X5_begin_20_st02_0 (k := 29) rfl
theorem dX5_begin_104 : decode cX5_begin 104 = .ok (.iload_n 2, 1) := dchk_at dall_X5_begin_20_st02_0 (k := 30) rfl
theorem dX5_begin_105 : decode cX5_begin 105 = .ok (.imul, 1) := dchk_at dall_X5_begin_20_st02_0 (k := 31) rfl
theorem dX5_begin_106 : decode cX5_begin 106 = .ok (.iconst 1, 1) := dchk_at dall_X5_begin_20_st02_0 (k := 32) rfl
theorem dX5_begin_107 : decode cX5_begin 107 = .ok (.iadd, 1) := dchk_at dall_X5_begin_20_st02_0 (k := 33) rfl
theorem dX5_begin_108 : decode cX5_begin 108 = .ok (.iaload, 1) := dchk_at dall_X5_begin_20_st02_0 (k := 34) rfl
theorem dX5_begin_109 : decode cX5_begin 109 = .ok (.invokevirtual 52, 3) := dchk_at dall_X5_begin_20_st02_0 (k := 35) rfl
theorem dX5_begin_112 : decode cX5_begin 112 = .ok (.iinc 2 1, 3) := dchk_at dall_X5_begin_20_st02_0 (k := 36) rfl
theorem dX5_begin_115 : decode cX5_begin 115 = .ok (.goto (-41), 3) := dchk_at dall_X5_begin_20_st02_0 (k := 37) rfl
theorem dX5_begin_0 : decode cX5_begin 0 = .ok (.iconst 0, 1) := dchk_at dall_X5_begin_20_st02_0 (k := 38) rfl
theorem dX5_begin_1 : decode cX5_begin 1 = .ok (.istore_n 2, 1) := dchk_at dall_X5_begin_20_st02_0 (k := 39) rfl
theorem dX5_begin_21 : decode cX5_begin 21 = .ok (.aload_n 0, 1) := dchk_at dall_X5_begin_20_st02_0 (k := 40) rfl
theorem dX5_begin_22 : decode cX5_begin 22 = .ok (.getfield 11, 3) := dchk_at dall_X5_begin_20_st02_0 (k := 41) rfl
theorem dX5_begin_25 : decode cX5_begin 25 = .ok (.iconst 0, 1) := dchk_at dall_X5_begin_20_st02_0 (k := 42) rfl
theorem dX5_begin_26 : decode cX5_begin 26 = .ok (.aload_n 1, 1) := dchk_at dall_X5_begin_20_st02_0 (k := 43) rfl
theorem dX5_begin_27 : decode cX5_begin 27 = .ok (.getfield 31, 3) := dchk_at dall_X5_begin_20_st02_0 (k := 44) rfl
theorem dX5_begin_30 : decode cX5_begin 30 = .ok (.iconst 0, 1) := dchk_at dall_X5_begin_20_st02_0 (k := 45) rfl
theorem dX5_begin_31 : decode cX5_begin 31 = .ok (.iaload, 1) := dchk_at dall_X5_begin_20_st02_0 (k := 46) rfl
theorem dX5_begin_32 : decode cX5_begin 32 = .ok (.iastore, 1) := dchk_at dall_X5_begin_20_st02_0 (k := 47) rfl
theorem dX5_begin_33 : decode cX5_begin 33 = .ok (.aload_n 0, 1) := dchk_at dall_X5_begin_20_st02_0 (k := 48) rfl
theorem dX5_begin_34 : decode cX5_begin 34 = .ok (.getfield 11, 3) := dchk_at dall_X5_begin_20_st02_0 (k := 49) rfl
def dl_X5_begin_20_st02_1 : List (Nat × Instr × Nat) := [(37, .iconst 1, 1), (38, .aload_n 1, 1), (39, .getfield 31, 3), (42, .iconst 1, 1), (43, .iaload, 1), (44, .iastore, 1), (45, .aload_n 0, 1), (46, .getfield 11, 3), (49, .iconst 2, 1), (50, .aload_n 1, 1), (51, .getfield 31, 3), (54, .iconst 2, 1), (55, .iaload, 1), (56, .iastore, 1), (57, .aload_n 0, 1), (58, .getfield 11, 3), (61, .iconst 3, 1), (62, .aload_n 1, 1), (63, .getfield 36, 3), (66, .bipush 8, 2), (68, .invokestatic 39, 3), (71, .iastore, 1), (72, .iconst 0, 1), (73, .istore_n 2, 1), (118, .aload_n 0, 1), (119, .invokevirtual 56, 3), (122, .aload_n 0, 1), (123, .getfield 11, 3), (126, .bipush 6, 2), (128, .aload_n 0, 1), (129, .aload_n 0, 1), (130, .getfield 11, 3), (133, .iconst 4, 1), (134, .iaload, 1), (135, .i2l, 1), (136, .aload_n 0, 1), (137, .getfield 11, 3), (140, .iconst 5, 1), (141, .iaload, 1), (142, .i2l, 1), (143, .invokevirtual 59, 3), (146, .ifCond .eq 7, 3), (153, .iconst 1, 1), (154, .iastore, 1), (155, .return_, 1), (149, .iconst 0, 1), (150, .goto 4, 3)]
set_option maxRecDepth 100000 in
theorem dall_X5_begin_20_st02_1 : dchk cX5_begin dl_X5_begin_20_st02_1 = true := by decide +kernel
theorem dX5_begin_37 : decode cX5_begin 37 = .ok (.iconst 1, 1) := dchk_at dall_X5_begin_20_st02_1 (k := 0) rfl
theorem dX5_begin_38 : decode cX5_begin 38 = .ok (.aload_n 1, 1) := dchk_at dall_X5_begin_20_st02_1 (k := 1) rfl
theorem dX5_begin_39 : decode cX5_begin 39 = .ok (.getfield 31, 3) := dchk_at dall_X5_begin_20_st02_1 (k := 2) rfl
theorem dX5_begin_42 : decode cX5_begin 42 = .ok (.iconst 1, 1) := dchk_at dall_X5_begin_20_st02_1 (k := 3) rfl
theorem dX5_begin_43 : decode cX5_begin 43 = .ok (.iaload, 1) := dchk_at dall_X5_begin_20_st02_1 (k := 4) rfl
theorem dX5_begin_44 : decode cX5_begin 44 = .ok (.iastore, 1) := dchk_at dall_X5_begin_20_st02_1 (k := 5) rfl
theorem dX5_begin_45 : decode cX5_begin 45 = .ok (.aload_n 0, 1) := dchk_at dall_X5_begin_20_st02_1 (k := 6) rfl
theorem dX5_begin_46 : decode cX5_begin 46 = .ok (.getfield 11, 3) := dchk_at dall_X5_begin_20_st02_1 (k := 7) rfl
theorem dX5_begin_49 : decode cX5_begin 49 = .ok (.iconst 2, 1) := dchk_at dall_X5_begin_20_st02_1 (k := 8) rfl
theorem dX5_begin_50 : decode cX5_begin 50 = .ok (.aload_n 1, 1) := dchk_at dall_X5_begin_20_st02_1 (k := 9) rfl
theorem dX5_begin_51 : decode cX5_begin 51 = .ok (.getfield 31, 3) := dchk_at dall_X5_begin_20_st02_1 (k := 10) rfl
theorem dX5_begin_54 : decode cX5_begin 54 = .ok (.iconst 2, 1) := dchk_at dall_X5_begin_20_st02_1 (k := 11) rfl
theorem dX5_begin_55 : decode cX5_begin 55 = .ok (.iaload, 1) := dchk_at dall_X5_begin_20_st02_1 (k := 12) rfl
theorem dX5_begin_56 : decode cX5_begin 56 = .ok (.iastore, 1) := dchk_at dall_X5_begin_20_st02_1 (k := 13) rfl
theorem dX5_begin_57 : decode cX5_begin 57 = .ok (.aload_n 0, 1) := dchk_at dall_X5_begin_20_st02_1 (k := 14) rfl
theorem dX5_begin_58 : decode cX5_begin 58 = .ok (.getfield 11, 3) := dchk_at dall_X5_begin_20_st02_1 (k := 15) rfl
theorem dX5_begin_61 : decode cX5_begin 61 = .ok (.iconst 3, 1) := dchk_at dall_X5_begin_20_st02_1 (k := 16) rfl
theorem dX5_begin_62 : decode cX5_begin 62 = .ok (.aload_n 1, 1) := dchk_at dall_X5_begin_20_st02_1 (k := 17) rfl
theorem dX5_begin_63 : decode cX5_begin 63 = .ok (.getfield 36, 3) := dchk_at dall_X5_begin_20_st02_1 (k := 18) rfl
theorem dX5_begin_66 : decode cX5_begin 66 = .ok (.bipush 8, 2) := dchk_at dall_X5_begin_20_st02_1 (k := 19) rfl
theorem dX5_begin_68 : decode cX5_begin 68 = .ok (.invokestatic 39, 3) := dchk_at dall_X5_begin_20_st02_1 (k := 20) rfl
theorem dX5_begin_71 : decode cX5_begin 71 = .ok (.iastore, 1) := dchk_at dall_X5_begin_20_st02_1 (k := 21) rfl
theorem dX5_begin_72 : decode cX5_begin 72 = .ok (.iconst 0, 1) := dchk_at dall_X5_begin_20_st02_1 (k := 22) rfl
theorem dX5_begin_73 : decode cX5_begin 73 = .ok (.istore_n 2, 1) := dchk_at dall_X5_begin_20_st02_1 (k := 23) rfl
theorem dX5_begin_118 : decode cX5_begin 118 = .ok (.aload_n 0, 1) := dchk_at dall_X5_begin_20_st02_1 (k := 24) rfl
theorem dX5_begin_119 : decode cX5_begin 119 = .ok (.invokevirtual 56, 3) := dchk_at dall_X5_begin_20_st02_1 (k := 25) rfl
theorem dX5_begin_122 : decode cX5_begin 122 = .ok (.aload_n 0, 1) := dchk_at dall_X5_begin_20_st02_1 (k := 26) rfl
theorem dX5_begin_123 : decode cX5_begin 123 = .ok (.getfield 11, 3) := dchk_at dall_X5_begin_20_st02_1 (k := 27) rfl
theorem dX5_begin_126 : decode cX5_begin 126 = .ok (.bipush 6, 2) := dchk_at dall_X5_begin_20_st02_1 (k := 28) rfl
theorem dX5_begin_128 : decode cX5_begin 128 = .ok (.aload_n 0, 1) := dchk_at dall_X5_begin_20_st02_1 (k := 29) rfl
theorem dX5_begin_129 : decode cX5_begin 129 = .ok (.aload_n 0, 1) := dchk_at dall_X5_begin_20_st02_1 (k := 30) rfl
theorem dX5_begin_130 : decode cX5_begin 130 = .ok (.getfield 11, 3) := dchk_at dall_X5_begin_20_st02_1 (k := 31) rfl
theorem dX5_begin_133 : decode cX5_begin 133 = .ok (.iconst 4, 1) := dchk_at dall_X5_begin_20_st02_1 (k := 32) rfl
theorem dX5_begin_134 : decode cX5_begin 134 = .ok (.iaload, 1) := dchk_at dall_X5_begin_20_st02_1 (k := 33) rfl
theorem dX5_begin_135 : decode cX5_begin 135 = .ok (.i2l, 1) := dchk_at dall_X5_begin_20_st02_1 (k := 34) rfl
theorem dX5_begin_136 : decode cX5_begin 136 = .ok (.aload_n 0, 1) := dchk_at dall_X5_begin_20_st02_1 (k := 35) rfl
theorem dX5_begin_137 : decode cX5_begin 137 = .ok (.getfield 11, 3) := dchk_at dall_X5_begin_20_st02_1 (k := 36) rfl
theorem dX5_begin_140 : decode cX5_begin 140 = .ok (.iconst 5, 1) := dchk_at dall_X5_begin_20_st02_1 (k := 37) rfl
theorem dX5_begin_141 : decode cX5_begin 141 = .ok (.iaload, 1) := dchk_at dall_X5_begin_20_st02_1 (k := 38) rfl
theorem dX5_begin_142 : decode cX5_begin 142 = .ok (.i2l, 1) := dchk_at dall_X5_begin_20_st02_1 (k := 39) rfl
theorem dX5_begin_143 : decode cX5_begin 143 = .ok (.invokevirtual 59, 3) := dchk_at dall_X5_begin_20_st02_1 (k := 40) rfl
theorem dX5_begin_146 : decode cX5_begin 146 = .ok (.ifCond .eq 7, 3) := dchk_at dall_X5_begin_20_st02_1 (k := 41) rfl
theorem dX5_begin_153 : decode cX5_begin 153 = .ok (.iconst 1, 1) := dchk_at dall_X5_begin_20_st02_1 (k := 42) rfl
theorem dX5_begin_154 : decode cX5_begin 154 = .ok (.iastore, 1) := dchk_at dall_X5_begin_20_st02_1 (k := 43) rfl
theorem dX5_begin_155 : decode cX5_begin 155 = .ok (.return_, 1) := dchk_at dall_X5_begin_20_st02_1 (k := 44) rfl
theorem dX5_begin_149 : decode cX5_begin 149 = .ok (.iconst 0, 1) := dchk_at dall_X5_begin_20_st02_1 (k := 45) rfl
theorem dX5_begin_150 : decode cX5_begin 150 = .ok (.goto 4, 3) := dchk_at dall_X5_begin_20_st02_1 (k := 46) rfl
def dl_X5_measureShares_20_st02_0 : List (Nat × Instr × Nat) := [(23, .iload 5, 2), (25, .aload_n 0, 1), (26, .invokevirtual 45, 3), (29, .if_icmp .ge 34, 3), (32, .iload 4, 2), (34, .iload_n 1, 1), (35, .iload 5, 2), (37, .ishr, 1), (38, .iconst 1, 1), (39, .iand, 1), (40, .ifCond .eq 13, 3), (53, .iconst 0, 1), (54, .iadd, 1), (55, .istore 4, 2), (57, .iinc 5 1, 3), (60, .goto (-37), 3), (43, .aload_n 0, 1), (44, .iload 5, 2), (46, .iload_n 3, 1), (47, .invokevirtual 72, 3), (50, .goto 4, 3), (12, .iload_n 3, 1), (13, .iconst 2, 1), (14, .if_icmp .ge 79, 3), (17, .iconst 0, 1), (18, .istore 4, 2), (20, .iconst 0, 1), (21, .istore 5, 2), (63, .aload_n 0, 1), (64, .getfield 25, 3), (67, .iload_n 3, 1), (68, .iload 4, 2), (70, .iload_n 2, 1), (71, .invokestatic 176, 3), (74, .iastore, 1), (75, .aload_n 0, 1), (76, .getfield 28, 3), (79, .iload_n 3, 1), (80, .iload 4, 2), (82, .iload_n 2, 1), (83, .invokestatic 179, 3), (86, .iastore, 1), (87, .iinc 3 1, 3), (90, .goto (-78), 3), (0, .iload_n 1, 1), (1, .invokestatic 171, 3), (4, .istore_n 2, 1), (5, .iload_n 2, 1), (6, .ifCond .ne 4, 3), (10, .iconst 0, 1)]
set_option maxRecDepth 100000 in
theorem dall_X5_measureShares_20_st02_0 : dchk cX5_measureShares dl_X5_measureShares_20_st02_0 = true := by decide +kernel
theorem dX5_measureShares_23 : decode cX5_measureShares 23 = .ok (.iload 5, 2) := dchk_at dall_X5_measureShares_20_st02_0 (k := 0) rfl
theorem dX5_measureShares_25 : decode cX5_measureShares 25 = .ok (.aload_n 0, 1) := dchk_at dall_X5_measureShares_20_st02_0 (k := 1) rfl
theorem dX5_measureShares_26 : decode cX5_measureShares 26 = .ok (.invokevirtual 45, 3) := dchk_at dall_X5_measureShares_20_st02_0 (k := 2) rfl
theorem dX5_measureShares_29 : decode cX5_measureShares 29 = .ok (.if_icmp .ge 34, 3) := dchk_at dall_X5_measureShares_20_st02_0 (k := 3) rfl
theorem dX5_measureShares_32 : decode cX5_measureShares 32 = .ok (.iload 4, 2) := dchk_at dall_X5_measureShares_20_st02_0 (k := 4) rfl
theorem dX5_measureShares_34 : decode cX5_measureShares 34 = .ok (.iload_n 1, 1) := dchk_at dall_X5_measureShares_20_st02_0 (k := 5) rfl
theorem dX5_measureShares_35 : decode cX5_measureShares 35 = .ok (.iload 5, 2) := dchk_at dall_X5_measureShares_20_st02_0 (k := 6) rfl
theorem dX5_measureShares_37 : decode cX5_measureShares 37 = .ok (.ishr, 1) := dchk_at dall_X5_measureShares_20_st02_0 (k := 7) rfl
theorem dX5_measureShares_38 : decode cX5_measureShares 38 = .ok (.iconst 1, 1) := dchk_at dall_X5_measureShares_20_st02_0 (k := 8) rfl
theorem dX5_measureShares_39 : decode cX5_measureShares 39 = .ok (.iand, 1) := dchk_at dall_X5_measureShares_20_st02_0 (k := 9) rfl
theorem dX5_measureShares_40 : decode cX5_measureShares 40 = .ok (.ifCond .eq 13, 3) := dchk_at dall_X5_measureShares_20_st02_0 (k := 10) rfl
theorem dX5_measureShares_53 : decode cX5_measureShares 53 = .ok (.iconst 0, 1) := dchk_at dall_X5_measureShares_20_st02_0 (k := 11) rfl
theorem dX5_measureShares_54 : decode cX5_measureShares 54 = .ok (.iadd, 1) := dchk_at dall_X5_measureShares_20_st02_0 (k := 12) rfl
theorem dX5_measureShares_55 : decode cX5_measureShares 55 = .ok (.istore 4, 2) := dchk_at dall_X5_measureShares_20_st02_0 (k := 13) rfl
theorem dX5_measureShares_57 : decode cX5_measureShares 57 = .ok (.iinc 5 1, 3) := dchk_at dall_X5_measureShares_20_st02_0 (k := 14) rfl
theorem dX5_measureShares_60 : decode cX5_measureShares 60 = .ok (.goto (-37), 3) := dchk_at dall_X5_measureShares_20_st02_0 (k := 15) rfl
theorem dX5_measureShares_43 : decode cX5_measureShares 43 = .ok (.aload_n 0, 1) := dchk_at dall_X5_measureShares_20_st02_0 (k := 16) rfl
theorem dX5_measureShares_44 : decode cX5_measureShares 44 = .ok (.iload 5, 2) := dchk_at dall_X5_measureShares_20_st02_0 (k := 17) rfl
theorem dX5_measureShares_46 : decode cX5_measureShares 46 = .ok (.iload_n 3, 1) := dchk_at dall_X5_measureShares_20_st02_0 (k := 18) rfl
theorem dX5_measureShares_47 : decode cX5_measureShares 47 = .ok (.invokevirtual 72, 3) := dchk_at dall_X5_measureShares_20_st02_0 (k := 19) rfl
theorem dX5_measureShares_50 : decode cX5_measureShares 50 = .ok (.goto 4, 3) := dchk_at dall_X5_measureShares_20_st02_0 (k := 20) rfl
theorem dX5_measureShares_12 : decode cX5_measureShares 12 = .ok (.iload_n 3, 1) := dchk_at dall_X5_measureShares_20_st02_0 (k := 21) rfl
theorem dX5_measureShares_13 : decode cX5_measureShares 13 = .ok (.iconst 2, 1) := dchk_at dall_X5_measureShares_20_st02_0 (k := 22) rfl
theorem dX5_measureShares_14 : decode cX5_measureShares 14 = .ok (.if_icmp .ge 79, 3) := dchk_at dall_X5_measureShares_20_st02_0 (k := 23) rfl
theorem dX5_measureShares_17 : decode cX5_measureShares 17 = .ok (.iconst 0, 1) := dchk_at dall_X5_measureShares_20_st02_0 (k := 24) rfl
theorem dX5_measureShares_18 : decode cX5_measureShares 18 = .ok (.istore 4, 2) := dchk_at dall_X5_measureShares_20_st02_0 (k := 25) rfl
theorem dX5_measureShares_20 : decode cX5_measureShares 20 = .ok (.iconst 0, 1) := dchk_at dall_X5_measureShares_20_st02_0 (k := 26) rfl
theorem dX5_measureShares_21 : decode cX5_measureShares 21 = .ok (.istore 5, 2) := dchk_at dall_X5_measureShares_20_st02_0 (k := 27) rfl
theorem dX5_measureShares_63 : decode cX5_measureShares 63 = .ok (.aload_n 0, 1) := dchk_at dall_X5_measureShares_20_st02_0 (k := 28) rfl
theorem dX5_measureShares_64 : decode cX5_measureShares 64 = .ok (.getfield 25, 3) := dchk_at dall_X5_measureShares_20_st02_0 (k := 29) rfl
theorem dX5_measureShares_67 : decode cX5_measureShares 67 = .ok (.iload_n 3, 1) := dchk_at dall_X5_measureShares_20_st02_0 (k := 30) rfl
theorem dX5_measureShares_68 : decode cX5_measureShares 68 = .ok (.iload 4, 2) := dchk_at dall_X5_measureShares_20_st02_0 (k := 31) rfl
theorem dX5_measureShares_70 : decode cX5_measureShares 70 = .ok (.iload_n 2, 1) := dchk_at dall_X5_measureShares_20_st02_0 (k := 32) rfl
theorem dX5_measureShares_71 : decode cX5_measureShares 71 = .ok (.invokestatic 176, 3) := dchk_at dall_X5_measureShares_20_st02_0 (k := 33) rfl
theorem dX5_measureShares_74 : decode cX5_measureShares 74 = .ok (.iastore, 1) := dchk_at dall_X5_measureShares_20_st02_0 (k := 34) rfl
theorem dX5_measureShares_75 : decode cX5_measureShares 75 = .ok (.aload_n 0, 1) := dchk_at dall_X5_measureShares_20_st02_0 (k := 35) rfl
theorem dX5_measureShares_76 : decode cX5_measureShares 76 = .ok (.getfield 28, 3) := dchk_at dall_X5_measureShares_20_st02_0 (k := 36) rfl
theorem dX5_measureShares_79 : decode cX5_measureShares 79 = .ok (.iload_n 3, 1) := dchk_at dall_X5_measureShares_20_st02_0 (k := 37) rfl
theorem dX5_measureShares_80 : decode cX5_measureShares 80 = .ok (.iload 4, 2) := dchk_at dall_X5_measureShares_20_st02_0 (k := 38) rfl
theorem dX5_measureShares_82 : decode cX5_measureShares 82 = .ok (.iload_n 2, 1) := dchk_at dall_X5_measureShares_20_st02_0 (k := 39) rfl
theorem dX5_measureShares_83 : decode cX5_measureShares 83 = .ok (.invokestatic 179, 3) := dchk_at dall_X5_measureShares_20_st02_0 (k := 40) rfl
theorem dX5_measureShares_86 : decode cX5_measureShares 86 = .ok (.iastore, 1) := dchk_at dall_X5_measureShares_20_st02_0 (k := 41) rfl
theorem dX5_measureShares_87 : decode cX5_measureShares 87 = .ok (.iinc 3 1, 3) := dchk_at dall_X5_measureShares_20_st02_0 (k := 42) rfl
theorem dX5_measureShares_90 : decode cX5_measureShares 90 = .ok (.goto (-78), 3) := dchk_at dall_X5_measureShares_20_st02_0 (k := 43) rfl
theorem dX5_measureShares_0 : decode cX5_measureShares 0 = .ok (.iload_n 1, 1) := dchk_at dall_X5_measureShares_20_st02_0 (k := 44) rfl
theorem dX5_measureShares_1 : decode cX5_measureShares 1 = .ok (.invokestatic 171, 3) := dchk_at dall_X5_measureShares_20_st02_0 (k := 45) rfl
theorem dX5_measureShares_4 : decode cX5_measureShares 4 = .ok (.istore_n 2, 1) := dchk_at dall_X5_measureShares_20_st02_0 (k := 46) rfl
theorem dX5_measureShares_5 : decode cX5_measureShares 5 = .ok (.iload_n 2, 1) := dchk_at dall_X5_measureShares_20_st02_0 (k := 47) rfl
theorem dX5_measureShares_6 : decode cX5_measureShares 6 = .ok (.ifCond .ne 4, 3) := dchk_at dall_X5_measureShares_20_st02_0 (k := 48) rfl
theorem dX5_measureShares_10 : decode cX5_measureShares 10 = .ok (.iconst 0, 1) := dchk_at dall_X5_measureShares_20_st02_0 (k := 49) rfl
def dl_X5_measureShares_20_st02_1 : List (Nat × Instr × Nat) := [(11, .istore_n 3, 1), (93, .return_, 1), (9, .return_, 1)]
set_option maxRecDepth 100000 in
theorem dall_X5_measureShares_20_st02_1 : dchk cX5_measureShares dl_X5_measureShares_20_st02_1 = true := by decide +kernel
theorem dX5_measureShares_11 : decode cX5_measureShares 11 = .ok (.istore_n 3, 1) := dchk_at dall_X5_measureShares_20_st02_1 (k := 0) rfl
theorem dX5_measureShares_93 : decode cX5_measureShares 93 = .ok (.return_, 1) := dchk_at dall_X5_measureShares_20_st02_1 (k := 1) rfl
theorem dX5_measureShares_9 : decode cX5_measureShares 9 = .ok (.return_, 1) := dchk_at dall_X5_measureShares_20_st02_1 (k := 2) rfl
def dl_X5_isAbove_20_st02_0 : List (Nat × Instr × Nat) := [(0, .aload_n 0, 1), (1, .getfield 11, 3), (4, .bipush 6, 2), (6, .iaload, 1), (7, .ifCond .eq 7, 3), (14, .iconst 0, 1), (15, .ireturn, 1), (10, .iconst 1, 1), (11, .goto 4, 3)]
set_option maxRecDepth 100000 in
theorem dall_X5_isAbove_20_st02_0 : dchk cX5_isAbove dl_X5_isAbove_20_st02_0 = true := by decide +kernel
theorem dX5_isAbove_0 : decode cX5_isAbove 0 = .ok (.aload_n 0, 1) := dchk_at dall_X5_isAbove_20_st02_0 (k := 0) rfl
theorem dX5_isAbove_1 : decode cX5_isAbove 1 = .ok (.getfield 11, 3) := dchk_at dall_X5_isAbove_20_st02_0 (k := 1) rfl
theorem dX5_isAbove_4 : decode cX5_isAbove 4 = .ok (.bipush 6, 2) := dchk_at dall_X5_isAbove_20_st02_0 (k := 2) rfl
theorem dX5_isAbove_6 : decode cX5_isAbove 6 = .ok (.iaload, 1) := dchk_at dall_X5_isAbove_20_st02_0 (k := 3) rfl
theorem dX5_isAbove_7 : decode cX5_isAbove 7 = .ok (.ifCond .eq 7, 3) := dchk_at dall_X5_isAbove_20_st02_0 (k := 4) rfl
theorem dX5_isAbove_14 : decode cX5_isAbove 14 = .ok (.iconst 0, 1) := dchk_at dall_X5_isAbove_20_st02_0 (k := 5) rfl
theorem dX5_isAbove_15 : decode cX5_isAbove 15 = .ok (.ireturn, 1) := dchk_at dall_X5_isAbove_20_st02_0 (k := 6) rfl
theorem dX5_isAbove_10 : decode cX5_isAbove 10 = .ok (.iconst 1, 1) := dchk_at dall_X5_isAbove_20_st02_0 (k := 7) rfl
theorem dX5_isAbove_11 : decode cX5_isAbove 11 = .ok (.goto 4, 3) := dchk_at dall_X5_isAbove_20_st02_0 (k := 8) rfl
def dl_X5_isQuietDrift_20_st02_0 : List (Nat × Instr × Nat) := [(0, .aload_n 0, 1), (1, .invokevirtual 83, 3), (4, .ifCond .eq 17, 3), (21, .aload_n 0, 1), (22, .aload_n 0, 1), (23, .getfield 11, 3), (26, .iconst 4, 1), (27, .iaload, 1), (28, .aload_n 0, 1), (29, .getfield 11, 3), (32, .iconst 3, 1), (33, .iaload, 1), (34, .iload_n 1, 1), (35, .imul, 1), (36, .iadd, 1), (37, .i2l, 1), (38, .aload_n 0, 1), (39, .getfield 11, 3), (42, .iconst 5, 1), (43, .iaload, 1), (44, .aload_n 0, 1), (45, .getfield 11, 3), (48, .iconst 3, 1), (49, .iaload, 1), (50, .iload_n 2, 1), (51, .imul, 1), (52, .iadd, 1), (53, .i2l, 1), (54, .invokevirtual 75, 3), (57, .aload_n 0, 1), (58, .getfield 11, 3), (61, .iconst 1, 1), (62, .iaload, 1), (63, .i2l, 1), (64, .lcmp, 1), (65, .ifCond .ge 7, 3), (72, .iconst 0, 1), (73, .ireturn, 1), (68, .iconst 1, 1), (69, .goto 4, 3), (7, .iload_n 1, 1), (8, .ifCond .ne 11, 3), (19, .iconst 0, 1), (20, .ireturn, 1), (11, .iload_n 2, 1), (12, .ifCond .ne 7, 3), (15, .iconst 1, 1), (16, .goto 4, 3)]
set_option maxRecDepth 100000 in
theorem dall_X5_isQuietDrift_20_st02_0 : dchk cX5_isQuietDrift dl_X5_isQuietDrift_20_st02_0 = true := by decide +kernel
theorem dX5_isQuietDrift_0 : decode cX5_isQuietDrift 0 = .ok (.aload_n 0, 1) := dchk_at dall_X5_isQuietDrift_20_st02_0 (k := 0) rfl
theorem dX5_isQuietDrift_1 : decode cX5_isQuietDrift 1 = .ok (.invokevirtual 83, 3) := dchk_at dall_X5_isQuietDrift_20_st02_0 (k := 1) rfl
theorem dX5_isQuietDrift_4 : decode cX5_isQuietDrift 4 = .ok (.ifCond .eq 17, 3) := dchk_at dall_X5_isQuietDrift_20_st02_0 (k := 2) rfl
theorem dX5_isQuietDrift_21 : decode cX5_isQuietDrift 21 = .ok (.aload_n 0, 1) := dchk_at dall_X5_isQuietDrift_20_st02_0 (k := 3) rfl
theorem dX5_isQuietDrift_22 : decode cX5_isQuietDrift 22 = .ok (.aload_n 0, 1) := dchk_at dall_X5_isQuietDrift_20_st02_0 (k := 4) rfl
theorem dX5_isQuietDrift_23 : decode cX5_isQuietDrift 23 = .ok (.getfield 11, 3) := dchk_at dall_X5_isQuietDrift_20_st02_0 (k := 5) rfl
theorem dX5_isQuietDrift_26 : decode cX5_isQuietDrift 26 = .ok (.iconst 4, 1) := dchk_at dall_X5_isQuietDrift_20_st02_0 (k := 6) rfl
theorem dX5_isQuietDrift_27 : decode cX5_isQuietDrift 27 = .ok (.iaload, 1) := dchk_at dall_X5_isQuietDrift_20_st02_0 (k := 7) rfl
theorem dX5_isQuietDrift_28 : decode cX5_isQuietDrift 28 = .ok (.aload_n 0, 1) := dchk_at dall_X5_isQuietDrift_20_st02_0 (k := 8) rfl
theorem dX5_isQuietDrift_29 : decode cX5_isQuietDrift 29 = .ok (.getfield 11, 3) := dchk_at dall_X5_isQuietDrift_20_st02_0 (k := 9) rfl
theorem dX5_isQuietDrift_32 : decode cX5_isQuietDrift 32 = .ok (.iconst 3, 1) := dchk_at dall_X5_isQuietDrift_20_st02_0 (k := 10) rfl
theorem dX5_isQuietDrift_33 : decode cX5_isQuietDrift 33 = .ok (.iaload, 1) := dchk_at dall_X5_isQuietDrift_20_st02_0 (k := 11) rfl
theorem dX5_isQuietDrift_34 : decode cX5_isQuietDrift 34 = .ok (.iload_n 1, 1) := dchk_at dall_X5_isQuietDrift_20_st02_0 (k := 12) rfl
theorem dX5_isQuietDrift_35 : decode cX5_isQuietDrift 35 = .ok (.imul, 1) := dchk_at dall_X5_isQuietDrift_20_st02_0 (k := 13) rfl
theorem dX5_isQuietDrift_36 : decode cX5_isQuietDrift 36 = .ok (.iadd, 1) := dchk_at dall_X5_isQuietDrift_20_st02_0 (k := 14) rfl
theorem dX5_isQuietDrift_37 : decode cX5_isQuietDrift 37 = .ok (.i2l, 1) := dchk_at dall_X5_isQuietDrift_20_st02_0 (k := 15) rfl
theorem dX5_isQuietDrift_38 : decode cX5_isQuietDrift 38 = .ok (.aload_n 0, 1) := dchk_at dall_X5_isQuietDrift_20_st02_0 (k := 16) rfl
theorem dX5_isQuietDrift_39 : decode cX5_isQuietDrift 39 = .ok (.getfield 11, 3) := dchk_at dall_X5_isQuietDrift_20_st02_0 (k := 17) rfl
theorem dX5_isQuietDrift_42 : decode cX5_isQuietDrift 42 = .ok (.iconst 5, 1) := dchk_at dall_X5_isQuietDrift_20_st02_0 (k := 18) rfl
theorem dX5_isQuietDrift_43 : decode cX5_isQuietDrift 43 = .ok (.iaload, 1) := dchk_at dall_X5_isQuietDrift_20_st02_0 (k := 19) rfl
theorem dX5_isQuietDrift_44 : decode cX5_isQuietDrift 44 = .ok (.aload_n 0, 1) := dchk_at dall_X5_isQuietDrift_20_st02_0 (k := 20) rfl
theorem dX5_isQuietDrift_45 : decode cX5_isQuietDrift 45 = .ok (.getfield 11, 3) := dchk_at dall_X5_isQuietDrift_20_st02_0 (k := 21) rfl
theorem dX5_isQuietDrift_48 : decode cX5_isQuietDrift 48 = .ok (.iconst 3, 1) := dchk_at dall_X5_isQuietDrift_20_st02_0 (k := 22) rfl
theorem dX5_isQuietDrift_49 : decode cX5_isQuietDrift 49 = .ok (.iaload, 1) := dchk_at dall_X5_isQuietDrift_20_st02_0 (k := 23) rfl
theorem dX5_isQuietDrift_50 : decode cX5_isQuietDrift 50 = .ok (.iload_n 2, 1) := dchk_at dall_X5_isQuietDrift_20_st02_0 (k := 24) rfl
theorem dX5_isQuietDrift_51 : decode cX5_isQuietDrift 51 = .ok (.imul, 1) := dchk_at dall_X5_isQuietDrift_20_st02_0 (k := 25) rfl
theorem dX5_isQuietDrift_52 : decode cX5_isQuietDrift 52 = .ok (.iadd, 1) := dchk_at dall_X5_isQuietDrift_20_st02_0 (k := 26) rfl
theorem dX5_isQuietDrift_53 : decode cX5_isQuietDrift 53 = .ok (.i2l, 1) := dchk_at dall_X5_isQuietDrift_20_st02_0 (k := 27) rfl
theorem dX5_isQuietDrift_54 : decode cX5_isQuietDrift 54 = .ok (.invokevirtual 75, 3) := dchk_at dall_X5_isQuietDrift_20_st02_0 (k := 28) rfl
theorem dX5_isQuietDrift_57 : decode cX5_isQuietDrift 57 = .ok (.aload_n 0, 1) := dchk_at dall_X5_isQuietDrift_20_st02_0 (k := 29) rfl
theorem dX5_isQuietDrift_58 : decode cX5_isQuietDrift 58 = .ok (.getfield 11, 3) := dchk_at dall_X5_isQuietDrift_20_st02_0 (k := 30) rfl
theorem dX5_isQuietDrift_61 : decode cX5_isQuietDrift 61 = .ok (.iconst 1, 1) := dchk_at dall_X5_isQuietDrift_20_st02_0 (k := 31) rfl
theorem dX5_isQuietDrift_62 : decode cX5_isQuietDrift 62 = .ok (.iaload, 1) := dchk_at dall_X5_isQuietDrift_20_st02_0 (k := 32) rfl
theorem dX5_isQuietDrift_63 : decode cX5_isQuietDrift 63 = .ok (.i2l, 1) := dchk_at dall_X5_isQuietDrift_20_st02_0 (k := 33) rfl
theorem dX5_isQuietDrift_64 : decode cX5_isQuietDrift 64 = .ok (.lcmp, 1) := dchk_at dall_X5_isQuietDrift_20_st02_0 (k := 34) rfl
theorem dX5_isQuietDrift_65 : decode cX5_isQuietDrift 65 = .ok (.ifCond .ge 7, 3) := dchk_at dall_X5_isQuietDrift_20_st02_0 (k := 35) rfl
theorem dX5_isQuietDrift_72 : decode cX5_isQuietDrift 72 = .ok (.iconst 0, 1) := dchk_at dall_X5_isQuietDrift_20_st02_0 (k := 36) rfl
theorem dX5_isQuietDrift_73 : decode cX5_isQuietDrift 73 = .ok (.ireturn, 1) := dchk_at dall_X5_isQuietDrift_20_st02_0 (k := 37) rfl
theorem dX5_isQuietDrift_68 : decode cX5_isQuietDrift 68 = .ok (.iconst 1, 1) := dchk_at dall_X5_isQuietDrift_20_st02_0 (k := 38) rfl
theorem dX5_isQuietDrift_69 : decode cX5_isQuietDrift 69 = .ok (.goto 4, 3) := dchk_at dall_X5_isQuietDrift_20_st02_0 (k := 39) rfl
theorem dX5_isQuietDrift_7 : decode cX5_isQuietDrift 7 = .ok (.iload_n 1, 1) := dchk_at dall_X5_isQuietDrift_20_st02_0 (k := 40) rfl
theorem dX5_isQuietDrift_8 : decode cX5_isQuietDrift 8 = .ok (.ifCond .ne 11, 3) := dchk_at dall_X5_isQuietDrift_20_st02_0 (k := 41) rfl
theorem dX5_isQuietDrift_19 : decode cX5_isQuietDrift 19 = .ok (.iconst 0, 1) := dchk_at dall_X5_isQuietDrift_20_st02_0 (k := 42) rfl
theorem dX5_isQuietDrift_20 : decode cX5_isQuietDrift 20 = .ok (.ireturn, 1) := dchk_at dall_X5_isQuietDrift_20_st02_0 (k := 43) rfl
theorem dX5_isQuietDrift_11 : decode cX5_isQuietDrift 11 = .ok (.iload_n 2, 1) := dchk_at dall_X5_isQuietDrift_20_st02_0 (k := 44) rfl
theorem dX5_isQuietDrift_12 : decode cX5_isQuietDrift 12 = .ok (.ifCond .ne 7, 3) := dchk_at dall_X5_isQuietDrift_20_st02_0 (k := 45) rfl
theorem dX5_isQuietDrift_15 : decode cX5_isQuietDrift 15 = .ok (.iconst 1, 1) := dchk_at dall_X5_isQuietDrift_20_st02_0 (k := 46) rfl
theorem dX5_isQuietDrift_16 : decode cX5_isQuietDrift 16 = .ok (.goto 4, 3) := dchk_at dall_X5_isQuietDrift_20_st02_0 (k := 47) rfl
def B_X5_begin_2 (x2 : Int32) (c_row : Nat → Int32) : Option ((Int32 × (Nat → Int32)) ⊕ ((Nat → Int32))) :=
  if (81 : Int32) ≤ x2 then some (.inr c_row) else ixF x2 81 (nmF (upd c_row x2.toNatClampNeg (0 : Int32)) (fun f_3 => some (.inl (x2 + (1 : Int32), f_3))))
def B_X5_begin_74 (c_o1_places : Nat → Int32) (x2 : Int32) (c_row : Nat → Int32) : Option ((Int32 × (Nat → Int32)) ⊕ ((Nat → Int32))) :=
  bd1 (F_X5_sites c_row) (fun r_10 => if r_10 ≤ x2 then some (.inr c_row) else ixF ((2 : Int32) * x2) 16 (bd1 (F_X5_put x2 (0 : Int32) (c_o1_places ((2 : Int32) * x2).toNatClampNeg) c_row) (fun w_14 => ixF (((2 : Int32) * x2) + (1 : Int32)) 16 (bd1 (F_X5_put x2 (1 : Int32) (c_o1_places (((2 : Int32) * x2) + (1 : Int32)).toNatClampNeg) w_14) (fun w_17 => some (.inl (x2 + (1 : Int32), w_17)))))))
def F_X5_begin (K : Nat) (c_row : Nat → Int32) (c_o1_rules : Nat → Int32) (c_o1_places : Nat → Int32) (c_o1_siteCount : Int32) : Option ((Nat → Int32)) :=
  bd1 (lpF (fun u9 : Int32 × (Nat → Int32) => B_X5_begin_2  u9.1 u9.2) K ((0 : Int32), c_row)) (fun c_row_4 => nmF (upd c_row_4 0 (c_o1_rules 0)) (fun f_6 => nmF (upd f_6 1 (c_o1_rules 1)) (fun f_7 => nmF (upd f_7 2 (c_o1_rules 2)) (fun f_8 => nmF (upd f_8 3 (minF c_o1_siteCount (8 : Int32))) (fun f_9 => bd1 (lpF (fun u9 : Int32 × (Nat → Int32) => B_X5_begin_74 c_o1_places u9.1 u9.2) K ((0 : Int32), f_9)) (fun c_row_19 => bd1 (F_X5_hearPlaces K c_row_19) (fun w_21 => bd1 (F_X5_allows ((w_21 4).toInt64) ((w_21 5).toInt64) w_21) (fun r_23 => if r_23 = (0 : Int32) then nmF (upd w_21 6 (1 : Int32)) (fun f_27 => some f_27) else nmF (upd w_21 6 (0 : Int32)) (fun f_28 => some f_28)))))))))
abbrev w_X5_begin (E : EE) (a_ a_row a_partners a_share a_leftOver a_o1 a_o1_tape a_o1_rules a_o1_places a_o1_steps : Nat) (c_askedCount : Int32) (c_outcome : Int32) (c_row : Nat → Int32) (c_o1_siteCount : Int32) (c_o1_stepCount : Int32) (c_o1_seenRules : Int32) (c_o1_at : Int32) (c_o1_wordStart : Int32) (c_o1_number : Int32) (c_o1_failed : Int32) (c_o1_rules : Nat → Int32) (c_o1_places : Nat → Int32) : va_W := [(a_, .inr (6, [.ref a_row, .ref a_partners, .int c_askedCount, .int c_outcome, .ref a_share, .ref a_leftOver])), (a_row, .inl (E.2.1, 81, .inl c_row)), (a_o1, .inr (4, [.ref a_o1_tape, .ref a_o1_rules, .ref a_o1_places, .ref a_o1_steps, .int c_o1_siteCount, .int c_o1_stepCount, .int c_o1_seenRules, .int c_o1_at, .int c_o1_wordStart, .int c_o1_number, .int c_o1_failed])), (a_o1_rules, .inl (E.2.1, 3, .inl c_o1_rules)), (a_o1_places, .inl (E.2.1, 16, .inl c_o1_places))]
def v_f_X5_begin : List Cond := List.cons (.code yX5_begin cX5_begin 3 none) (HAppend.hAppend (α := List Cond) (β := List Cond) (γ := List Cond) [.fieldLink RX5 11 "HushWatch$State" "row" "[I", .methodLink RX5 39 Lib.Math.min.name, .static Lib.Math.min.name, .initialized "java/lang/Math", .code Lib.Math.min.name Lib.Math.min.code 2 (some .int), .methodLink RX5 45 yX5_sites, .instanceMethod yX5_sites, .selects RX5 yX5_sites yX5_sites, .initialized RX5, .methodLink RX5 52 yX5_put, .instanceMethod yX5_put, .selects RX5 yX5_put yX5_put, .methodLink RX5 56 yX5_hearPlaces, .instanceMethod yX5_hearPlaces, .selects RX5 yX5_hearPlaces yX5_hearPlaces, .methodLink RX5 59 yX5_allows, .instanceMethod yX5_allows, .selects RX5 yX5_allows yX5_allows] (HAppend.hAppend (α := List Cond) (β := List Cond) (γ := List Cond) wsX50 (HAppend.hAppend (α := List Cond) (β := List Cond) (γ := List Cond) wsX30 (HAppend.hAppend (α := List Cond) (β := List Cond) (γ := List Cond) v_f_X5_sites (HAppend.hAppend (α := List Cond) (β := List Cond) (γ := List Cond) v_f_X5_put (HAppend.hAppend (α := List Cond) (β := List Cond) (γ := List Cond) v_f_X5_hearPlaces (HAppend.hAppend (α := List Cond) (β := List Cond) (γ := List Cond) v_f_X5_allows [])))))))
theorem gw_f_X5_begin : v_f_X5_begin.all goodWord = true := by decide +kernel
theorem i_f_X5_begin_X5 : ∀ w ∈ wsX50, w ∈ v_f_X5_begin := fun _ h => List.mem_cons_of_mem _ (List.mem_append_right _ (List.mem_append_left _ h))
theorem i_f_X5_begin_X3 : ∀ w ∈ wsX30, w ∈ v_f_X5_begin := fun _ h => List.mem_cons_of_mem _ (List.mem_append_right _ (List.mem_append_right _ (List.mem_append_left _ h)))
theorem g_f_X5_begin_f_X5_sites_45 : GoodIn v_f_X5_begin (wsV RX5 45 RX5 yX5_sites v_f_X5_sites) := goodIn_app (goodIn_of _ (by decide +kernel)) (goodIn_sub (fun _ h => List.mem_cons_of_mem _ (List.mem_append_right _ (List.mem_append_right _ (List.mem_append_right _ (List.mem_append_left _ h))))) gw_f_X5_sites)
theorem g_f_X5_begin_f_X5_put_52 : GoodIn v_f_X5_begin (wsV RX5 52 RX5 yX5_put v_f_X5_put) := goodIn_app (goodIn_of _ (by decide +kernel)) (goodIn_sub (fun _ h => List.mem_cons_of_mem _ (List.mem_append_right _ (List.mem_append_right _ (List.mem_append_right _ (List.mem_append_right _ (List.mem_append_left _ h)))))) gw_f_X5_put)
theorem g_f_X5_begin_f_X5_hearPlaces_56 : GoodIn v_f_X5_begin (wsV RX5 56 RX5 yX5_hearPlaces v_f_X5_hearPlaces) := goodIn_app (goodIn_of _ (by decide +kernel)) (goodIn_sub (fun _ h => List.mem_cons_of_mem _ (List.mem_append_right _ (List.mem_append_right _ (List.mem_append_right _ (List.mem_append_right _ (List.mem_append_right _ (List.mem_append_left _ h))))))) gw_f_X5_hearPlaces)
theorem g_f_X5_begin_f_X5_allows_59 : GoodIn v_f_X5_begin (wsV RX5 59 RX5 yX5_allows v_f_X5_allows) := goodIn_app (goodIn_of _ (by decide +kernel)) (goodIn_sub (fun _ h => List.mem_cons_of_mem _ (List.mem_append_right _ (List.mem_append_right _ (List.mem_append_right _ (List.mem_append_right _ (List.mem_append_right _ (List.mem_append_right _ (List.mem_append_left _ h)))))))) gw_f_X5_allows)
theorem hd_X5_begin : yX5_begin.cls = RX5 ∧ yX5_begin.cls ≠ "java/lang/invoke/MethodHandle" ∧ yX5_begin.cls ≠ "java/lang/invoke/VarHandle" ∧ (parseMethodDescriptor yX5_begin.desc).map (fun d => d.parameters.length) = some 1 := by decide +kernel
set_option maxHeartbeats 4000000 in
set_option maxRecDepth 100000 in
theorem wb_X5_begin_2 {p : Program} (l : Launch) {e : Env} {s : State} {m : MethodId} {below : List Frame} {meth : Method} {c : Code} {Q : State → Prop} (E : EE) (K : Nat) {a_ a_row a_partners a_share a_leftOver a_o1 a_o1_tape a_o1_rules a_o1_places a_o1_steps : Nat} {c_askedCount : Int32} {c_outcome : Int32} {c_o1_siteCount : Int32} {c_o1_stepCount : Int32} {c_o1_seenRules : Int32} {c_o1_at : Int32} {c_o1_wordStart : Int32} {c_o1_number : Int32} {c_o1_failed : Int32} {c_o1_rules : Nat → Int32} {c_o1_places : Nat → Int32} {x2 : Int32} {c_row : Nat → Int32} (hx : p.tables.exec = Jvm.exec) (hb : c.code = cX5_begin) (hml : c.maxLocals = 3) (hown : s.vm.findClass RX5 = some m.cls) (hts : ∀ w ∈ v_f_X5_begin, w.before #[Value.ref a_, Value.ref a_o1] s = true) (hK : va_K E.1 vwCl (TY E) s) (hN : NX s) {A : Nat → Prop} (hA : ∀ q : Nat, s.heap.size ≤ q → A q) {xx : (Int32 × (Nat → Int32)) ⊕ ((Nat → Int32))} (hC : ∀ (x2 : Int32), ∀ (c_row : Nat → Int32), xx = .inl (x2, c_row) → ∀ (H : Heap) (locs : List Loc) (ls : Array Slot), va_P E.1 vwCl (w_X5_begin E a_ a_row a_partners a_share a_leftOver a_o1 a_o1_tape a_o1_rules a_o1_places a_o1_steps c_askedCount c_outcome c_row c_o1_siteCount c_o1_stepCount c_o1_seenRules c_o1_at c_o1_wordStart c_o1_number c_o1_failed c_o1_rules c_o1_places) H → va_D A (w_X5_begin E a_ a_row a_partners a_share a_leftOver a_o1 a_o1_tape a_o1_rules a_o1_places a_o1_steps c_askedCount c_outcome c_row c_o1_siteCount c_o1_stepCount c_o1_seenRules c_o1_at c_o1_wordStart c_o1_number c_o1_failed c_o1_rules c_o1_places) → va_S A s.heap H locs → lv_has ls 3 [(0, .ref a_), (1, .ref a_o1), (2, .int x2)] → W p l e ({ frames := 2, cells := 0, slots := 0, locals := 52 } : Room) s m #[Value.ref a_, Value.ref a_o1] below meth c H locs 0 0 Q (F0 m 2 ls [])) (hE : ∀ (c_row : Nat → Int32), xx = .inr c_row → ((∀ (H : Heap) (locs : List Loc) (ls : Array Slot), va_P E.1 vwCl (w_X5_begin E a_ a_row a_partners a_share a_leftOver a_o1 a_o1_tape a_o1_rules a_o1_places a_o1_steps c_askedCount c_outcome c_row c_o1_siteCount c_o1_stepCount c_o1_seenRules c_o1_at c_o1_wordStart c_o1_number c_o1_failed c_o1_rules c_o1_places) H → va_D A (w_X5_begin E a_ a_row a_partners a_share a_leftOver a_o1 a_o1_tape a_o1_rules a_o1_places a_o1_steps c_askedCount c_outcome c_row c_o1_siteCount c_o1_stepCount c_o1_seenRules c_o1_at c_o1_wordStart c_o1_number c_o1_failed c_o1_rules c_o1_places) → va_S A s.heap H locs → lv_has ls 3 [(0, .ref a_), (1, .ref a_o1)] → W p l e ({ frames := 2, cells := 0, slots := 0, locals := 52 } : Room) s m #[Value.ref a_, Value.ref a_o1] below meth c H locs 0 0 Q (F0 m 21 ls [])))) (hF : B_X5_begin_2  x2 c_row = some xx) : ∀ (H : Heap) (locs : List Loc) (ls : Array Slot), va_P E.1 vwCl (w_X5_begin E a_ a_row a_partners a_share a_leftOver a_o1 a_o1_tape a_o1_rules a_o1_places a_o1_steps c_askedCount c_outcome c_row c_o1_siteCount c_o1_stepCount c_o1_seenRules c_o1_at c_o1_wordStart c_o1_number c_o1_failed c_o1_rules c_o1_places) H → va_D A (w_X5_begin E a_ a_row a_partners a_share a_leftOver a_o1 a_o1_tape a_o1_rules a_o1_places a_o1_steps c_askedCount c_outcome c_row c_o1_siteCount c_o1_stepCount c_o1_seenRules c_o1_at c_o1_wordStart c_o1_number c_o1_failed c_o1_rules c_o1_places) → va_S A s.heap H locs → lv_has ls 3 [(0, .ref a_), (1, .ref a_o1), (2, .int x2)] → W p l e ({ frames := 2, cells := 0, slots := 0, locals := 52 } : Room) s m #[Value.ref a_, Value.ref a_o1] below meth c H locs 0 0 Q (F0 m 2 ls []) := by
  unfold B_X5_begin_2 at hF
  intro H locs ls hP hD hS hl
  replace hP : va_P E.1 vwCl [(a_, .inr (6, [.ref a_row, .ref a_partners, .int c_askedCount, .int c_outcome, .ref a_share, .ref a_leftOver])), (a_row, .inl (E.2.1, 81, .inl c_row)), (a_o1, .inr (4, [.ref a_o1_tape, .ref a_o1_rules, .ref a_o1_places, .ref a_o1_steps, .int c_o1_siteCount, .int c_o1_stepCount, .int c_o1_seenRules, .int c_o1_at, .int c_o1_wordStart, .int c_o1_number, .int c_o1_failed])), (a_o1_rules, .inl (E.2.1, 3, .inl c_o1_rules)), (a_o1_places, .inl (E.2.1, 16, .inl c_o1_places))] H := hP
  replace hD : va_D A [(a_, .inr (6, [.ref a_row, .ref a_partners, .int c_askedCount, .int c_outcome, .ref a_share, .ref a_leftOver])), (a_row, .inl (E.2.1, 81, .inl c_row)), (a_o1, .inr (4, [.ref a_o1_tape, .ref a_o1_rules, .ref a_o1_places, .ref a_o1_steps, .int c_o1_siteCount, .int c_o1_stepCount, .int c_o1_seenRules, .int c_o1_at, .int c_o1_wordStart, .int c_o1_number, .int c_o1_failed])), (a_o1_rules, .inl (E.2.1, 3, .inl c_o1_rules)), (a_o1_places, .inl (E.2.1, 16, .inl c_o1_places))] := hD
  refine lv_iload_n hx hb dX5_begin_2 rfl (lv_at hl 2 rfl) ?_
  refine lv_bipush (v := 81) hx hb dX5_begin_3 (by decide) ?_
  refine lv_icmp_ge (tgt := 21) hx hb dX5_begin_5 (by decide) (fun c_1 => ?_) (fun c_1 => ?_)
  ·
    replace hF := ip c_1 hF
    cases hF
    exact hE c_row rfl H locs ls (hP.sub [0, 1, 2, 3, 4] rfl) (hD.sub [0, 1, 2, 3, 4] (by decide) rfl) hS (lv_sub hl [0, 1] rfl)
  ·
    replace hF := inn c_1 hF
    refine lv_aload_n hx hb dX5_begin_8 rfl (lv_at hl 0 rfl) ?_
    refine gt_X5_0 (v := .ref a_row) hx hb hts i_f_X5_begin_X5 hown hK hP 0 rfl (hts (.fieldLink RX5 11 "HushWatch$State" "row" "[I") (List.mem_of_getElem? (i := 1) rfl)) rfl dX5_begin_9 ?_
    refine lv_iload_n hx hb dX5_begin_12 rfl (lv_at hl 2 rfl) ?_
    refine lv_iconst (v := 0) hx hb dX5_begin_13 (by decide) ?_
    replace hF := ix_s hF
    obtain ⟨hi_2, hF⟩ := hF
    refine va_iast hx hb hK hP hD hS 1 0 rfl rfl hi_2 dX5_begin_14 (fun H locs hP hD hS => ?_)
    replace hP : va_P E.1 vwCl [(a_, .inr (6, [.ref a_row, .ref a_partners, .int c_askedCount, .int c_outcome, .ref a_share, .ref a_leftOver])), (a_row, .inl (E.2.1, 81, .inl (upd c_row x2.toNatClampNeg (0 : Int32)))), (a_o1, .inr (4, [.ref a_o1_tape, .ref a_o1_rules, .ref a_o1_places, .ref a_o1_steps, .int c_o1_siteCount, .int c_o1_stepCount, .int c_o1_seenRules, .int c_o1_at, .int c_o1_wordStart, .int c_o1_number, .int c_o1_failed])), (a_o1_rules, .inl (E.2.1, 3, .inl c_o1_rules)), (a_o1_places, .inl (E.2.1, 16, .inl c_o1_places))] H := hP
    replace hD : va_D A [(a_, .inr (6, [.ref a_row, .ref a_partners, .int c_askedCount, .int c_outcome, .ref a_share, .ref a_leftOver])), (a_row, .inl (E.2.1, 81, .inl (upd c_row x2.toNatClampNeg (0 : Int32)))), (a_o1, .inr (4, [.ref a_o1_tape, .ref a_o1_rules, .ref a_o1_places, .ref a_o1_steps, .int c_o1_siteCount, .int c_o1_stepCount, .int c_o1_seenRules, .int c_o1_at, .int c_o1_wordStart, .int c_o1_number, .int c_o1_failed])), (a_o1_rules, .inl (E.2.1, 3, .inl c_o1_rules)), (a_o1_places, .inl (E.2.1, 16, .inl c_o1_places))] := hD
    replace hF := nm_s hF
    obtain ⟨f_3, hf_3, hF⟩ := hF
    rw [← hf_3] at hP hD
    refine lv_iinc (v := x2 + (1 : Int32)) (lv' := [(2, .int (x2 + (1 : Int32))), (0, .ref a_), (1, .ref a_o1)]) hx hb dX5_begin_15 hl (k := 2) rfl (rfl) (by decide) rfl (fun ls hl => ?_)
    refine lv_goto (tgt := 2) hx hb dX5_begin_18 (by decide) ?_
    cases hF
    exact hC (x2 + (1 : Int32)) f_3 rfl H locs ls (hP.sub [0, 1, 2, 3, 4] rfl) (hD.sub [0, 1, 2, 3, 4] (by decide) rfl) hS (lv_sub hl [1, 2, 0] rfl)

set_option maxHeartbeats 4000000 in
set_option maxRecDepth 100000 in
theorem lw_X5_begin_2 {p : Program} (l : Launch) {e : Env} {s : State} {m : MethodId} {below : List Frame} {meth : Method} {c : Code} {Q : State → Prop} (E : EE) (K : Nat) {a_ a_row a_partners a_share a_leftOver a_o1 a_o1_tape a_o1_rules a_o1_places a_o1_steps : Nat} {c_askedCount : Int32} {c_outcome : Int32} {c_o1_siteCount : Int32} {c_o1_stepCount : Int32} {c_o1_seenRules : Int32} {c_o1_at : Int32} {c_o1_wordStart : Int32} {c_o1_number : Int32} {c_o1_failed : Int32} {c_o1_rules : Nat → Int32} {c_o1_places : Nat → Int32} (hx : p.tables.exec = Jvm.exec) (hb : c.code = cX5_begin) (hml : c.maxLocals = 3) (hown : s.vm.findClass RX5 = some m.cls) (hts : ∀ w ∈ v_f_X5_begin, w.before #[Value.ref a_, Value.ref a_o1] s = true) (hK : va_K E.1 vwCl (TY E) s) (hN : NX s) {A : Nat → Prop} (hA : ∀ q : Nat, s.heap.size ≤ q → A q) (j9 : Nat) (x2 : Int32) (c_row : Nat → Int32) (c_row' : Nat → Int32) (hL : lpF (fun u9 : Int32 × (Nat → Int32) => B_X5_begin_2  u9.1 u9.2) j9 (x2, c_row) = some c_row') (hX : (∀ (H : Heap) (locs : List Loc) (ls : Array Slot), va_P E.1 vwCl (w_X5_begin E a_ a_row a_partners a_share a_leftOver a_o1 a_o1_tape a_o1_rules a_o1_places a_o1_steps c_askedCount c_outcome c_row' c_o1_siteCount c_o1_stepCount c_o1_seenRules c_o1_at c_o1_wordStart c_o1_number c_o1_failed c_o1_rules c_o1_places) H → va_D A (w_X5_begin E a_ a_row a_partners a_share a_leftOver a_o1 a_o1_tape a_o1_rules a_o1_places a_o1_steps c_askedCount c_outcome c_row' c_o1_siteCount c_o1_stepCount c_o1_seenRules c_o1_at c_o1_wordStart c_o1_number c_o1_failed c_o1_rules c_o1_places) → va_S A s.heap H locs → lv_has ls 3 [(0, .ref a_), (1, .ref a_o1)] → W p l e ({ frames := 2, cells := 0, slots := 0, locals := 52 } : Room) s m #[Value.ref a_, Value.ref a_o1] below meth c H locs 0 0 Q (F0 m 21 ls []))) : ∀ (H : Heap) (locs : List Loc) (ls : Array Slot), va_P E.1 vwCl (w_X5_begin E a_ a_row a_partners a_share a_leftOver a_o1 a_o1_tape a_o1_rules a_o1_places a_o1_steps c_askedCount c_outcome c_row c_o1_siteCount c_o1_stepCount c_o1_seenRules c_o1_at c_o1_wordStart c_o1_number c_o1_failed c_o1_rules c_o1_places) H → va_D A (w_X5_begin E a_ a_row a_partners a_share a_leftOver a_o1 a_o1_tape a_o1_rules a_o1_places a_o1_steps c_askedCount c_outcome c_row c_o1_siteCount c_o1_stepCount c_o1_seenRules c_o1_at c_o1_wordStart c_o1_number c_o1_failed c_o1_rules c_o1_places) → va_S A s.heap H locs → lv_has ls 3 [(0, .ref a_), (1, .ref a_o1), (2, .int x2)] → W p l e ({ frames := 2, cells := 0, slots := 0, locals := 52 } : Room) s m #[Value.ref a_, Value.ref a_o1] below meth c H locs 0 0 Q (F0 m 2 ls []) := by
  exact lp_rule (P := (fun u9 : Int32 × (Nat → Int32) => ∀ (H : Heap) (locs : List Loc) (ls : Array Slot), va_P E.1 vwCl (w_X5_begin E a_ a_row a_partners a_share a_leftOver a_o1 a_o1_tape a_o1_rules a_o1_places a_o1_steps c_askedCount c_outcome u9.2 c_o1_siteCount c_o1_stepCount c_o1_seenRules c_o1_at c_o1_wordStart c_o1_number c_o1_failed c_o1_rules c_o1_places) H → va_D A (w_X5_begin E a_ a_row a_partners a_share a_leftOver a_o1 a_o1_tape a_o1_rules a_o1_places a_o1_steps c_askedCount c_outcome u9.2 c_o1_siteCount c_o1_stepCount c_o1_seenRules c_o1_at c_o1_wordStart c_o1_number c_o1_failed c_o1_rules c_o1_places) → va_S A s.heap H locs → lv_has ls 3 [(0, .ref a_), (1, .ref a_o1), (2, .int u9.1)] → W p l e ({ frames := 2, cells := 0, slots := 0, locals := 52 } : Room) s m #[Value.ref a_, Value.ref a_o1] below meth c H locs 0 0 Q (F0 m 2 ls []))) (R := (fun r9 : (Nat → Int32) => (∀ (H : Heap) (locs : List Loc) (ls : Array Slot), va_P E.1 vwCl (w_X5_begin E a_ a_row a_partners a_share a_leftOver a_o1 a_o1_tape a_o1_rules a_o1_places a_o1_steps c_askedCount c_outcome r9 c_o1_siteCount c_o1_stepCount c_o1_seenRules c_o1_at c_o1_wordStart c_o1_number c_o1_failed c_o1_rules c_o1_places) H → va_D A (w_X5_begin E a_ a_row a_partners a_share a_leftOver a_o1 a_o1_tape a_o1_rules a_o1_places a_o1_steps c_askedCount c_outcome r9 c_o1_siteCount c_o1_stepCount c_o1_seenRules c_o1_at c_o1_wordStart c_o1_number c_o1_failed c_o1_rules c_o1_places) → va_S A s.heap H locs → lv_has ls 3 [(0, .ref a_), (1, .ref a_o1)] → W p l e ({ frames := 2, cells := 0, slots := 0, locals := 52 } : Room) s m #[Value.ref a_, Value.ref a_o1] below meth c H locs 0 0 Q (F0 m 21 ls [])))) (fun u9 xx hF hC hE => wb_X5_begin_2 l E K (c_askedCount := c_askedCount) (c_outcome := c_outcome) (c_o1_siteCount := c_o1_siteCount) (c_o1_stepCount := c_o1_stepCount) (c_o1_seenRules := c_o1_seenRules) (c_o1_at := c_o1_at) (c_o1_wordStart := c_o1_wordStart) (c_o1_number := c_o1_number) (c_o1_failed := c_o1_failed) (c_o1_rules := c_o1_rules) (c_o1_places := c_o1_places) (x2 := u9.1) (c_row := u9.2) hx hb hml hown hts hK hN hA (fun x2 c_row q9 => hC _ q9) (fun c_row q9 => hE _ q9) hF) j9 (x2, c_row) c_row' hL hX

set_option maxHeartbeats 4000000 in
set_option maxRecDepth 100000 in
theorem wb_X5_begin_74 {p : Program} (l : Launch) {e : Env} {s : State} {m : MethodId} {below : List Frame} {meth : Method} {c : Code} {Q : State → Prop} (E : EE) (K : Nat) {a_ a_row a_partners a_share a_leftOver a_o1 a_o1_tape a_o1_rules a_o1_places a_o1_steps : Nat} {c_askedCount : Int32} {c_outcome : Int32} {c_o1_siteCount : Int32} {c_o1_stepCount : Int32} {c_o1_seenRules : Int32} {c_o1_at : Int32} {c_o1_wordStart : Int32} {c_o1_number : Int32} {c_o1_failed : Int32} {c_o1_rules : Nat → Int32} {c_o1_places : Nat → Int32} {x2 : Int32} {c_row : Nat → Int32} (hx : p.tables.exec = Jvm.exec) (hb : c.code = cX5_begin) (hml : c.maxLocals = 3) (hown : s.vm.findClass RX5 = some m.cls) (hts : ∀ w ∈ v_f_X5_begin, w.before #[Value.ref a_, Value.ref a_o1] s = true) (hK : va_K E.1 vwCl (TY E) s) (hN : NX s) {A : Nat → Prop} (hA : ∀ q : Nat, s.heap.size ≤ q → A q) {xx : (Int32 × (Nat → Int32)) ⊕ ((Nat → Int32))} (hC : ∀ (x2 : Int32), ∀ (c_row : Nat → Int32), xx = .inl (x2, c_row) → ∀ (H : Heap) (locs : List Loc) (ls : Array Slot), va_P E.1 vwCl (w_X5_begin E a_ a_row a_partners a_share a_leftOver a_o1 a_o1_tape a_o1_rules a_o1_places a_o1_steps c_askedCount c_outcome c_row c_o1_siteCount c_o1_stepCount c_o1_seenRules c_o1_at c_o1_wordStart c_o1_number c_o1_failed c_o1_rules c_o1_places) H → va_D A (w_X5_begin E a_ a_row a_partners a_share a_leftOver a_o1 a_o1_tape a_o1_rules a_o1_places a_o1_steps c_askedCount c_outcome c_row c_o1_siteCount c_o1_stepCount c_o1_seenRules c_o1_at c_o1_wordStart c_o1_number c_o1_failed c_o1_rules c_o1_places) → va_S A s.heap H locs → lv_has ls 3 [(0, .ref a_), (1, .ref a_o1), (2, .int x2)] → W p l e ({ frames := 2, cells := 0, slots := 0, locals := 52 } : Room) s m #[Value.ref a_, Value.ref a_o1] below meth c H locs 0 0 Q (F0 m 74 ls [])) (hE : ∀ (c_row : Nat → Int32), xx = .inr c_row → ((∀ (H : Heap) (locs : List Loc) (ls : Array Slot), va_P E.1 vwCl (w_X5_begin E a_ a_row a_partners a_share a_leftOver a_o1 a_o1_tape a_o1_rules a_o1_places a_o1_steps c_askedCount c_outcome c_row c_o1_siteCount c_o1_stepCount c_o1_seenRules c_o1_at c_o1_wordStart c_o1_number c_o1_failed c_o1_rules c_o1_places) H → va_D A (w_X5_begin E a_ a_row a_partners a_share a_leftOver a_o1 a_o1_tape a_o1_rules a_o1_places a_o1_steps c_askedCount c_outcome c_row c_o1_siteCount c_o1_stepCount c_o1_seenRules c_o1_at c_o1_wordStart c_o1_number c_o1_failed c_o1_rules c_o1_places) → va_S A s.heap H locs → lv_has ls 3 [(0, .ref a_)] → W p l e ({ frames := 2, cells := 0, slots := 0, locals := 52 } : Room) s m #[Value.ref a_, Value.ref a_o1] below meth c H locs 0 0 Q (F0 m 118 ls [])))) (hF : B_X5_begin_74 c_o1_places x2 c_row = some xx) : ∀ (H : Heap) (locs : List Loc) (ls : Array Slot), va_P E.1 vwCl (w_X5_begin E a_ a_row a_partners a_share a_leftOver a_o1 a_o1_tape a_o1_rules a_o1_places a_o1_steps c_askedCount c_outcome c_row c_o1_siteCount c_o1_stepCount c_o1_seenRules c_o1_at c_o1_wordStart c_o1_number c_o1_failed c_o1_rules c_o1_places) H → va_D A (w_X5_begin E a_ a_row a_partners a_share a_leftOver a_o1 a_o1_tape a_o1_rules a_o1_places a_o1_steps c_askedCount c_outcome c_row c_o1_siteCount c_o1_stepCount c_o1_seenRules c_o1_at c_o1_wordStart c_o1_number c_o1_failed c_o1_rules c_o1_places) → va_S A s.heap H locs → lv_has ls 3 [(0, .ref a_), (1, .ref a_o1), (2, .int x2)] → W p l e ({ frames := 2, cells := 0, slots := 0, locals := 52 } : Room) s m #[Value.ref a_, Value.ref a_o1] below meth c H locs 0 0 Q (F0 m 74 ls []) := by
  unfold B_X5_begin_74 at hF
  intro H locs ls hP hD hS hl
  replace hP : va_P E.1 vwCl [(a_, .inr (6, [.ref a_row, .ref a_partners, .int c_askedCount, .int c_outcome, .ref a_share, .ref a_leftOver])), (a_row, .inl (E.2.1, 81, .inl c_row)), (a_o1, .inr (4, [.ref a_o1_tape, .ref a_o1_rules, .ref a_o1_places, .ref a_o1_steps, .int c_o1_siteCount, .int c_o1_stepCount, .int c_o1_seenRules, .int c_o1_at, .int c_o1_wordStart, .int c_o1_number, .int c_o1_failed])), (a_o1_rules, .inl (E.2.1, 3, .inl c_o1_rules)), (a_o1_places, .inl (E.2.1, 16, .inl c_o1_places))] H := hP
  replace hD : va_D A [(a_, .inr (6, [.ref a_row, .ref a_partners, .int c_askedCount, .int c_outcome, .ref a_share, .ref a_leftOver])), (a_row, .inl (E.2.1, 81, .inl c_row)), (a_o1, .inr (4, [.ref a_o1_tape, .ref a_o1_rules, .ref a_o1_places, .ref a_o1_steps, .int c_o1_siteCount, .int c_o1_stepCount, .int c_o1_seenRules, .int c_o1_at, .int c_o1_wordStart, .int c_o1_number, .int c_o1_failed])), (a_o1_rules, .inl (E.2.1, 3, .inl c_o1_rules)), (a_o1_places, .inl (E.2.1, 16, .inl c_o1_places))] := hD
  refine lv_iload_n hx hb dX5_begin_74 rfl (lv_at hl 2 rfl) ?_
  refine lv_aload_n hx hb dX5_begin_75 rfl (lv_at hl 0 rfl) ?_
  replace hF := bd1_s hF
  obtain ⟨r_10, hc_11, hF⟩ := hF
  have hPc : va_P E.1 vwCl (w_X5_sites E a_ a_row a_partners a_share a_leftOver c_askedCount c_outcome c_row) H := hP.sub (ws' := [(a_, .inr (6, [.ref a_row, .ref a_partners, .int c_askedCount, .int c_outcome, .ref a_share, .ref a_leftOver])), (a_row, .inl (E.2.1, 81, .inl c_row))]) [0, 1] rfl
  have hrc := va_recv hK hPc (ci := 6) (q0 := 0) rfl rfl
  refine pE_i (va_runV (As := []) (rest := [.int x2])  ⟨hx, hb, hml, hown, hts⟩ (f_X5_sites l E (a_ := a_) (a_row := a_row) (a_partners := a_partners) (a_share := a_share) (a_leftOver := a_leftOver) (c_askedCount := c_askedCount) (c_outcome := c_outcome) (c_row := c_row) hc_11) (cwV 0 hts g_f_X5_begin_f_X5_sites_45 rfl rfl rfl hd_X5_sites ⟨Nat.le_of_ble_eq_true rfl, Nat.le_of_ble_eq_true rfl⟩) ⟨pP.blind, hrc, (pP.pre ⟨hK, hN⟩ hPc)⟩ rfl rfl hl.1 rfl (lv_room (Nat.le_of_ble_eq_true rfl)) dX5_begin_76 ⟨Nat.le_of_ble_eq_true rfl, Nat.le_of_ble_eq_true rfl⟩) ?_
  refine lv_icmp_ge (tgt := 118) hx hb dX5_begin_79 (by decide) (fun c_12 => ?_) (fun c_12 => ?_)
  ·
    replace hF := ip c_12 hF
    cases hF
    exact hE c_row rfl H locs ls (hP.sub [0, 1, 2, 3, 4] rfl) (hD.sub [0, 1, 2, 3, 4] (by decide) rfl) hS (lv_sub hl [0] rfl)
  ·
    replace hF := inn c_12 hF
    refine lv_aload_n hx hb dX5_begin_82 rfl (lv_at hl 0 rfl) ?_
    refine lv_iload_n hx hb dX5_begin_83 rfl (lv_at hl 2 rfl) ?_
    refine lv_iconst (v := 0) hx hb dX5_begin_84 (by decide) ?_
    refine lv_aload_n hx hb dX5_begin_85 rfl (lv_at hl 1 rfl) ?_
    refine va_getN (D := E.1) (ci := 4) (v := .ref a_o1_places) (C := RX3) (T := TX3) (N := 11) hx hb hts i_f_X5_begin_X3 hown hK hP 2 rfl rfl 2 (by decide) (nx hN 4 rfl) (fun _ h9 => h9) rfl dX5_begin_86 ?_
    refine lv_iconst (v := 2) hx hb dX5_begin_89 (by decide) ?_
    refine lv_iload_n hx hb dX5_begin_90 rfl (lv_at hl 2 rfl) ?_
    refine lv_imul hx hb dX5_begin_91 ?_
    replace hF := ix_s hF
    obtain ⟨hi_13, hF⟩ := hF
    refine va_iald hx hb hK hP 4 0 rfl rfl hi_13 dX5_begin_92 ?_
    replace hF := bd1_s hF
    obtain ⟨w_14, hc_15, hF⟩ := hF
    obtain ⟨hPc, hDc, hFc⟩ := wcut (wc := (w_X5_put E a_ a_row a_partners a_share a_leftOver c_askedCount c_outcome c_row)) hP hD hS hA [0, 1] (by decide) rfl
    have hrc := va_recv hK hPc (ci := 6) (q0 := 0) rfl rfl
    refine cE_v (wc := (w_X5_put E a_ a_row a_partners a_share a_leftOver c_askedCount c_outcome c_row)) (wr := [(a_o1, .inr (4, [.ref a_o1_tape, .ref a_o1_rules, .ref a_o1_places, .ref a_o1_steps, .int c_o1_siteCount, .int c_o1_stepCount, .int c_o1_seenRules, .int c_o1_at, .int c_o1_wordStart, .int c_o1_number, .int c_o1_failed])), (a_o1_rules, .inl (E.2.1, 3, .inl c_o1_rules)), (a_o1_places, .inl (E.2.1, 16, .inl c_o1_places))]) (w1 := (w_X5_put E a_ a_row a_partners a_share a_leftOver c_askedCount c_outcome w_14)) (va_runV (As := [.int x2, .int (0 : Int32), .int (c_o1_places ((2 : Int32) * x2).toNatClampNeg)]) (rest := [])  ⟨hx, hb, hml, hown, hts⟩ (f_X5_put l E H.size (a_ := a_) (a_row := a_row) (a_partners := a_partners) (a_share := a_share) (a_leftOver := a_leftOver) (p1 := x2) (p2 := (0 : Int32)) (p3 := c_o1_places ((2 : Int32) * x2).toNatClampNeg) (c_askedCount := c_askedCount) (c_outcome := c_outcome) (c_row := c_row) hc_15) (cwV 3 hts g_f_X5_begin_f_X5_put_52 rfl rfl rfl hd_X5_put ⟨Nat.le_of_ble_eq_true rfl, Nat.le_of_ble_eq_true rfl⟩) ⟨pW.blind, hrc, (pW.pre ⟨hK, hN⟩ hPc hDc)⟩ rfl rfl hl.1 rfl (lv_room (Nat.le_of_ble_eq_true rfl)) dX5_begin_93 ⟨Nat.le_of_ble_eq_true rfl, Nat.le_of_ble_eq_true rfl⟩) hS hFc hP hD [0, 1] [2, 3, 4] rfl rfl (by decide) (by decide) (fun H locs hP hD hS => ?_)
    replace hP : va_P E.1 vwCl [(a_o1, .inr (4, [.ref a_o1_tape, .ref a_o1_rules, .ref a_o1_places, .ref a_o1_steps, .int c_o1_siteCount, .int c_o1_stepCount, .int c_o1_seenRules, .int c_o1_at, .int c_o1_wordStart, .int c_o1_number, .int c_o1_failed])), (a_o1_rules, .inl (E.2.1, 3, .inl c_o1_rules)), (a_o1_places, .inl (E.2.1, 16, .inl c_o1_places)), (a_, .inr (6, [.ref a_row, .ref a_partners, .int c_askedCount, .int c_outcome, .ref a_share, .ref a_leftOver])), (a_row, .inl (E.2.1, 81, .inl w_14))] H := hP
    replace hD : va_D A [(a_o1, .inr (4, [.ref a_o1_tape, .ref a_o1_rules, .ref a_o1_places, .ref a_o1_steps, .int c_o1_siteCount, .int c_o1_stepCount, .int c_o1_seenRules, .int c_o1_at, .int c_o1_wordStart, .int c_o1_number, .int c_o1_failed])), (a_o1_rules, .inl (E.2.1, 3, .inl c_o1_rules)), (a_o1_places, .inl (E.2.1, 16, .inl c_o1_places)), (a_, .inr (6, [.ref a_row, .ref a_partners, .int c_askedCount, .int c_outcome, .ref a_share, .ref a_leftOver])), (a_row, .inl (E.2.1, 81, .inl w_14))] := hD
    refine lv_aload_n hx hb dX5_begin_96 rfl (lv_at hl 0 rfl) ?_
    refine lv_iload_n hx hb dX5_begin_97 rfl (lv_at hl 2 rfl) ?_
    refine lv_iconst (v := 1) hx hb dX5_begin_98 (by decide) ?_
    refine lv_aload_n hx hb dX5_begin_99 rfl (lv_at hl 1 rfl) ?_
    refine va_getN (D := E.1) (ci := 4) (v := .ref a_o1_places) (C := RX3) (T := TX3) (N := 11) hx hb hts i_f_X5_begin_X3 hown hK hP 0 rfl rfl 2 (by decide) (nx hN 4 rfl) (fun _ h9 => h9) rfl dX5_begin_100 ?_
    refine lv_iconst (v := 2) hx hb dX5_begin_103 (by decide) ?_
    refine lv_iload_n hx hb dX5_begin_104 rfl (lv_at hl 2 rfl) ?_
    refine lv_imul hx hb dX5_begin_105 ?_
    refine lv_iconst (v := 1) hx hb dX5_begin_106 (by decide) ?_
    refine lv_iadd hx hb dX5_begin_107 ?_
    replace hF := ix_s hF
    obtain ⟨hi_16, hF⟩ := hF
    refine va_iald hx hb hK hP 2 0 rfl rfl hi_16 dX5_begin_108 ?_
    replace hF := bd1_s hF
    obtain ⟨w_17, hc_18, hF⟩ := hF
    obtain ⟨hPc, hDc, hFc⟩ := wcut (wc := (w_X5_put E a_ a_row a_partners a_share a_leftOver c_askedCount c_outcome w_14)) hP hD hS hA [3, 4] (by decide) rfl
    have hrc := va_recv hK hPc (ci := 6) (q0 := 0) rfl rfl
    refine cE_v (wc := (w_X5_put E a_ a_row a_partners a_share a_leftOver c_askedCount c_outcome w_14)) (wr := [(a_o1, .inr (4, [.ref a_o1_tape, .ref a_o1_rules, .ref a_o1_places, .ref a_o1_steps, .int c_o1_siteCount, .int c_o1_stepCount, .int c_o1_seenRules, .int c_o1_at, .int c_o1_wordStart, .int c_o1_number, .int c_o1_failed])), (a_o1_rules, .inl (E.2.1, 3, .inl c_o1_rules)), (a_o1_places, .inl (E.2.1, 16, .inl c_o1_places))]) (w1 := (w_X5_put E a_ a_row a_partners a_share a_leftOver c_askedCount c_outcome w_17)) (va_runV (As := [.int x2, .int (1 : Int32), .int (c_o1_places (((2 : Int32) * x2) + (1 : Int32)).toNatClampNeg)]) (rest := [])  ⟨hx, hb, hml, hown, hts⟩ (f_X5_put l E H.size (a_ := a_) (a_row := a_row) (a_partners := a_partners) (a_share := a_share) (a_leftOver := a_leftOver) (p1 := x2) (p2 := (1 : Int32)) (p3 := c_o1_places (((2 : Int32) * x2) + (1 : Int32)).toNatClampNeg) (c_askedCount := c_askedCount) (c_outcome := c_outcome) (c_row := w_14) hc_18) (cwV 3 hts g_f_X5_begin_f_X5_put_52 rfl rfl rfl hd_X5_put ⟨Nat.le_of_ble_eq_true rfl, Nat.le_of_ble_eq_true rfl⟩) ⟨pW.blind, hrc, (pW.pre ⟨hK, hN⟩ hPc hDc)⟩ rfl rfl hl.1 rfl (lv_room (Nat.le_of_ble_eq_true rfl)) dX5_begin_109 ⟨Nat.le_of_ble_eq_true rfl, Nat.le_of_ble_eq_true rfl⟩) hS hFc hP hD [3, 4] [0, 1, 2] rfl rfl (by decide) (by decide) (fun H locs hP hD hS => ?_)
    replace hP : va_P E.1 vwCl [(a_o1, .inr (4, [.ref a_o1_tape, .ref a_o1_rules, .ref a_o1_places, .ref a_o1_steps, .int c_o1_siteCount, .int c_o1_stepCount, .int c_o1_seenRules, .int c_o1_at, .int c_o1_wordStart, .int c_o1_number, .int c_o1_failed])), (a_o1_rules, .inl (E.2.1, 3, .inl c_o1_rules)), (a_o1_places, .inl (E.2.1, 16, .inl c_o1_places)), (a_, .inr (6, [.ref a_row, .ref a_partners, .int c_askedCount, .int c_outcome, .ref a_share, .ref a_leftOver])), (a_row, .inl (E.2.1, 81, .inl w_17))] H := hP
    replace hD : va_D A [(a_o1, .inr (4, [.ref a_o1_tape, .ref a_o1_rules, .ref a_o1_places, .ref a_o1_steps, .int c_o1_siteCount, .int c_o1_stepCount, .int c_o1_seenRules, .int c_o1_at, .int c_o1_wordStart, .int c_o1_number, .int c_o1_failed])), (a_o1_rules, .inl (E.2.1, 3, .inl c_o1_rules)), (a_o1_places, .inl (E.2.1, 16, .inl c_o1_places)), (a_, .inr (6, [.ref a_row, .ref a_partners, .int c_askedCount, .int c_outcome, .ref a_share, .ref a_leftOver])), (a_row, .inl (E.2.1, 81, .inl w_17))] := hD
    refine lv_iinc (v := x2 + (1 : Int32)) (lv' := [(2, .int (x2 + (1 : Int32))), (0, .ref a_), (1, .ref a_o1)]) hx hb dX5_begin_112 hl (k := 2) rfl (rfl) (by decide) rfl (fun ls hl => ?_)
    refine lv_goto (tgt := 74) hx hb dX5_begin_115 (by decide) ?_
    cases hF
    exact hC (x2 + (1 : Int32)) w_17 rfl H locs ls (hP.sub [3, 4, 0, 1, 2] rfl) (hD.sub [3, 4, 0, 1, 2] (by decide) rfl) hS (lv_sub hl [1, 2, 0] rfl)

set_option maxHeartbeats 4000000 in
set_option maxRecDepth 100000 in
theorem lw_X5_begin_74 {p : Program} (l : Launch) {e : Env} {s : State} {m : MethodId} {below : List Frame} {meth : Method} {c : Code} {Q : State → Prop} (E : EE) (K : Nat) {a_ a_row a_partners a_share a_leftOver a_o1 a_o1_tape a_o1_rules a_o1_places a_o1_steps : Nat} {c_askedCount : Int32} {c_outcome : Int32} {c_o1_siteCount : Int32} {c_o1_stepCount : Int32} {c_o1_seenRules : Int32} {c_o1_at : Int32} {c_o1_wordStart : Int32} {c_o1_number : Int32} {c_o1_failed : Int32} {c_o1_rules : Nat → Int32} {c_o1_places : Nat → Int32} (hx : p.tables.exec = Jvm.exec) (hb : c.code = cX5_begin) (hml : c.maxLocals = 3) (hown : s.vm.findClass RX5 = some m.cls) (hts : ∀ w ∈ v_f_X5_begin, w.before #[Value.ref a_, Value.ref a_o1] s = true) (hK : va_K E.1 vwCl (TY E) s) (hN : NX s) {A : Nat → Prop} (hA : ∀ q : Nat, s.heap.size ≤ q → A q) (j9 : Nat) (x2 : Int32) (c_row : Nat → Int32) (c_row' : Nat → Int32) (hL : lpF (fun u9 : Int32 × (Nat → Int32) => B_X5_begin_74 c_o1_places u9.1 u9.2) j9 (x2, c_row) = some c_row') (hX : (∀ (H : Heap) (locs : List Loc) (ls : Array Slot), va_P E.1 vwCl (w_X5_begin E a_ a_row a_partners a_share a_leftOver a_o1 a_o1_tape a_o1_rules a_o1_places a_o1_steps c_askedCount c_outcome c_row' c_o1_siteCount c_o1_stepCount c_o1_seenRules c_o1_at c_o1_wordStart c_o1_number c_o1_failed c_o1_rules c_o1_places) H → va_D A (w_X5_begin E a_ a_row a_partners a_share a_leftOver a_o1 a_o1_tape a_o1_rules a_o1_places a_o1_steps c_askedCount c_outcome c_row' c_o1_siteCount c_o1_stepCount c_o1_seenRules c_o1_at c_o1_wordStart c_o1_number c_o1_failed c_o1_rules c_o1_places) → va_S A s.heap H locs → lv_has ls 3 [(0, .ref a_)] → W p l e ({ frames := 2, cells := 0, slots := 0, locals := 52 } : Room) s m #[Value.ref a_, Value.ref a_o1] below meth c H locs 0 0 Q (F0 m 118 ls []))) : ∀ (H : Heap) (locs : List Loc) (ls : Array Slot), va_P E.1 vwCl (w_X5_begin E a_ a_row a_partners a_share a_leftOver a_o1 a_o1_tape a_o1_rules a_o1_places a_o1_steps c_askedCount c_outcome c_row c_o1_siteCount c_o1_stepCount c_o1_seenRules c_o1_at c_o1_wordStart c_o1_number c_o1_failed c_o1_rules c_o1_places) H → va_D A (w_X5_begin E a_ a_row a_partners a_share a_leftOver a_o1 a_o1_tape a_o1_rules a_o1_places a_o1_steps c_askedCount c_outcome c_row c_o1_siteCount c_o1_stepCount c_o1_seenRules c_o1_at c_o1_wordStart c_o1_number c_o1_failed c_o1_rules c_o1_places) → va_S A s.heap H locs → lv_has ls 3 [(0, .ref a_), (1, .ref a_o1), (2, .int x2)] → W p l e ({ frames := 2, cells := 0, slots := 0, locals := 52 } : Room) s m #[Value.ref a_, Value.ref a_o1] below meth c H locs 0 0 Q (F0 m 74 ls []) := by
  exact lp_rule (P := (fun u9 : Int32 × (Nat → Int32) => ∀ (H : Heap) (locs : List Loc) (ls : Array Slot), va_P E.1 vwCl (w_X5_begin E a_ a_row a_partners a_share a_leftOver a_o1 a_o1_tape a_o1_rules a_o1_places a_o1_steps c_askedCount c_outcome u9.2 c_o1_siteCount c_o1_stepCount c_o1_seenRules c_o1_at c_o1_wordStart c_o1_number c_o1_failed c_o1_rules c_o1_places) H → va_D A (w_X5_begin E a_ a_row a_partners a_share a_leftOver a_o1 a_o1_tape a_o1_rules a_o1_places a_o1_steps c_askedCount c_outcome u9.2 c_o1_siteCount c_o1_stepCount c_o1_seenRules c_o1_at c_o1_wordStart c_o1_number c_o1_failed c_o1_rules c_o1_places) → va_S A s.heap H locs → lv_has ls 3 [(0, .ref a_), (1, .ref a_o1), (2, .int u9.1)] → W p l e ({ frames := 2, cells := 0, slots := 0, locals := 52 } : Room) s m #[Value.ref a_, Value.ref a_o1] below meth c H locs 0 0 Q (F0 m 74 ls []))) (R := (fun r9 : (Nat → Int32) => (∀ (H : Heap) (locs : List Loc) (ls : Array Slot), va_P E.1 vwCl (w_X5_begin E a_ a_row a_partners a_share a_leftOver a_o1 a_o1_tape a_o1_rules a_o1_places a_o1_steps c_askedCount c_outcome r9 c_o1_siteCount c_o1_stepCount c_o1_seenRules c_o1_at c_o1_wordStart c_o1_number c_o1_failed c_o1_rules c_o1_places) H → va_D A (w_X5_begin E a_ a_row a_partners a_share a_leftOver a_o1 a_o1_tape a_o1_rules a_o1_places a_o1_steps c_askedCount c_outcome r9 c_o1_siteCount c_o1_stepCount c_o1_seenRules c_o1_at c_o1_wordStart c_o1_number c_o1_failed c_o1_rules c_o1_places) → va_S A s.heap H locs → lv_has ls 3 [(0, .ref a_)] → W p l e ({ frames := 2, cells := 0, slots := 0, locals := 52 } : Room) s m #[Value.ref a_, Value.ref a_o1] below meth c H locs 0 0 Q (F0 m 118 ls [])))) (fun u9 xx hF hC hE => wb_X5_begin_74 l E K (c_askedCount := c_askedCount) (c_outcome := c_outcome) (c_o1_siteCount := c_o1_siteCount) (c_o1_stepCount := c_o1_stepCount) (c_o1_seenRules := c_o1_seenRules) (c_o1_at := c_o1_at) (c_o1_wordStart := c_o1_wordStart) (c_o1_number := c_o1_number) (c_o1_failed := c_o1_failed) (c_o1_rules := c_o1_rules) (c_o1_places := c_o1_places) (x2 := u9.1) (c_row := u9.2) hx hb hml hown hts hK hN hA (fun x2 c_row q9 => hC _ q9) (fun c_row q9 => hE _ q9) hF) j9 (x2, c_row) c_row' hL hX

set_option maxHeartbeats 4000000 in
set_option maxRecDepth 100000 in
theorem f_X5_begin (l : Launch) (E : EE) (sz : Nat) (K : Nat) {a_ a_row a_partners a_share a_leftOver a_o1 a_o1_tape a_o1_rules a_o1_places a_o1_steps : Nat} {c_askedCount : Int32} {c_outcome : Int32} {c_row : Nat → Int32} {c_o1_siteCount : Int32} {c_o1_stepCount : Int32} {c_o1_seenRules : Int32} {c_o1_at : Int32} {c_o1_wordStart : Int32} {c_o1_number : Int32} {c_o1_failed : Int32} {c_o1_rules : Nat → Int32} {c_o1_places : Nat → Int32} {n_row : Nat → Int32} (hF : F_X5_begin K c_row c_o1_rules c_o1_places c_o1_siteCount = some n_row) : Met l yX5_begin v_f_X5_begin (({ frames := 2, cells := 0, slots := 0, locals := 52 } : Room)) (va_Pc [.ref a_, .ref a_o1] (pW E sz (w_X5_begin E a_ a_row a_partners a_share a_leftOver a_o1 a_o1_tape a_o1_rules a_o1_places a_o1_steps c_askedCount c_outcome c_row c_o1_siteCount c_o1_stepCount c_o1_seenRules c_o1_at c_o1_wordStart c_o1_number c_o1_failed c_o1_rules c_o1_places))) (va_Qv (fun (_u : Unit) => True) (fun (_u : Unit) tt => va_P E.1 vwCl (w_X5_begin E a_ a_row a_partners a_share a_leftOver a_o1 a_o1_tape a_o1_rules a_o1_places a_o1_steps c_askedCount c_outcome n_row c_o1_siteCount c_o1_stepCount c_o1_seenRules c_o1_at c_o1_wordStart c_o1_number c_o1_failed c_o1_rules c_o1_places) tt.heap ∧ va_D (va_A (w_X5_begin E a_ a_row a_partners a_share a_leftOver a_o1 a_o1_tape a_o1_rules a_o1_places a_o1_steps c_askedCount c_outcome c_row c_o1_siteCount c_o1_stepCount c_o1_seenRules c_o1_at c_o1_wordStart c_o1_number c_o1_failed c_o1_rules c_o1_places) sz) (w_X5_begin E a_ a_row a_partners a_share a_leftOver a_o1 a_o1_tape a_o1_rules a_o1_places a_o1_steps c_askedCount c_outcome n_row c_o1_siteCount c_o1_stepCount c_o1_seenRules c_o1_at c_o1_wordStart c_o1_number c_o1_failed c_o1_rules c_o1_places)) (va_A (w_X5_begin E a_ a_row a_partners a_share a_leftOver a_o1 a_o1_tape a_o1_rules a_o1_places a_o1_steps c_askedCount c_outcome c_row c_o1_siteCount c_o1_stepCount c_o1_seenRules c_o1_at c_o1_wordStart c_o1_number c_o1_failed c_o1_rules c_o1_places) sz)) 0 0 (va_A (w_X5_begin E a_ a_row a_partners a_share a_leftOver a_o1 a_o1_tape a_o1_rules a_o1_places a_o1_steps c_askedCount c_outcome c_row c_o1_siteCount c_o1_stepCount c_o1_seenRules c_o1_at c_o1_wordStart c_o1_number c_o1_failed c_o1_rules c_o1_places) sz) := by
  refine Met.ofW (cc := cX5_begin) (maxL := 3) (ret := none) (by decide) rfl ?_
  intro p e s m args below meth c s₁ B hml hv
  obtain ⟨rfl, hsz, ⟨hK, hN⟩, hP, hD0⟩ := hv
  have hx := B.exec
  have hb := B.bytes
  have hr := B.returns
  have hts := atoms_spec (ws := v_f_X5_begin) B.pre
  have hown : s.vm.findClass RX5 = some m.cls := own_of hd_X5_begin.1 (findClass_of_methodNamed B.named)
  have hlocks : meth.locks = false := B.notSynchronized
  subst hsz
  have hD := hD0.self (sz := s.heap.size)
  generalize hAe : va_A (w_X5_begin E a_ a_row a_partners a_share a_leftOver a_o1 a_o1_tape a_o1_rules a_o1_places a_o1_steps c_askedCount c_outcome c_row c_o1_siteCount c_o1_stepCount c_o1_seenRules c_o1_at c_o1_wordStart c_o1_number c_o1_failed c_o1_rules c_o1_places) s.heap.size = A at hD ⊢
  have hA : ∀ q : Nat, s.heap.size ≤ q → A q := fun q h => by rw [← hAe]; exact Or.inr h
  have hS : va_S A s.heap s.heap [] := va_S.rf
  have hl := lv_entry ([.ref a_, .ref a_o1]) (n := 3) (Nat.le_of_ble_eq_true rfl)
  rw [lg_entry_eq]
  generalize (lg_sl ([.ref a_, .ref a_o1]) ++ List.replicate (3 - (lg_sl ([.ref a_, .ref a_o1])).length) Slot.unset).toArray = ls at hl ⊢
  have hl : lv_has ls 3 [(0, .ref a_), (1, .ref a_o1)] := hl
  obtain ⟨Q, hQ⟩ : ∃ Q : State → Prop, Q = MQ below (va_Qv (fun (_u : Unit) => True) (fun (_u : Unit) tt => va_P E.1 vwCl (w_X5_begin E a_ a_row a_partners a_share a_leftOver a_o1 a_o1_tape a_o1_rules a_o1_places a_o1_steps c_askedCount c_outcome n_row c_o1_siteCount c_o1_stepCount c_o1_seenRules c_o1_at c_o1_wordStart c_o1_number c_o1_failed c_o1_rules c_o1_places) tt.heap ∧ va_D A (w_X5_begin E a_ a_row a_partners a_share a_leftOver a_o1 a_o1_tape a_o1_rules a_o1_places a_o1_steps c_askedCount c_outcome n_row c_o1_siteCount c_o1_stepCount c_o1_seenRules c_o1_at c_o1_wordStart c_o1_number c_o1_failed c_o1_rules c_o1_places)) A) #[Value.ref a_, Value.ref a_o1] s 0 0 A := ⟨_, rfl⟩
  rw [← hQ]
  change W p l e ({ frames := 2, cells := 0, slots := 0, locals := 52 } : Room) s m #[Value.ref a_, Value.ref a_o1] below meth c s.heap [] 0 0 Q (F0 m 0 ls [])
  suffices hh9 : ∀ (H : Heap) (locs : List Loc), va_P E.1 vwCl (w_X5_begin E a_ a_row a_partners a_share a_leftOver a_o1 a_o1_tape a_o1_rules a_o1_places a_o1_steps c_askedCount c_outcome c_row c_o1_siteCount c_o1_stepCount c_o1_seenRules c_o1_at c_o1_wordStart c_o1_number c_o1_failed c_o1_rules c_o1_places) H → va_D A (w_X5_begin E a_ a_row a_partners a_share a_leftOver a_o1 a_o1_tape a_o1_rules a_o1_places a_o1_steps c_askedCount c_outcome c_row c_o1_siteCount c_o1_stepCount c_o1_seenRules c_o1_at c_o1_wordStart c_o1_number c_o1_failed c_o1_rules c_o1_places) → va_S A s.heap H locs → W p l e ({ frames := 2, cells := 0, slots := 0, locals := 52 } : Room) s m #[Value.ref a_, Value.ref a_o1] below meth c H locs 0 0 Q (F0 m 0 ls []) from hh9 s.heap [] hP hD hS
  clear hP hD hS
  intro H locs hP hD hS
  replace hP : va_P E.1 vwCl [(a_, .inr (6, [.ref a_row, .ref a_partners, .int c_askedCount, .int c_outcome, .ref a_share, .ref a_leftOver])), (a_row, .inl (E.2.1, 81, .inl c_row)), (a_o1, .inr (4, [.ref a_o1_tape, .ref a_o1_rules, .ref a_o1_places, .ref a_o1_steps, .int c_o1_siteCount, .int c_o1_stepCount, .int c_o1_seenRules, .int c_o1_at, .int c_o1_wordStart, .int c_o1_number, .int c_o1_failed])), (a_o1_rules, .inl (E.2.1, 3, .inl c_o1_rules)), (a_o1_places, .inl (E.2.1, 16, .inl c_o1_places))] H := hP
  replace hD : va_D A [(a_, .inr (6, [.ref a_row, .ref a_partners, .int c_askedCount, .int c_outcome, .ref a_share, .ref a_leftOver])), (a_row, .inl (E.2.1, 81, .inl c_row)), (a_o1, .inr (4, [.ref a_o1_tape, .ref a_o1_rules, .ref a_o1_places, .ref a_o1_steps, .int c_o1_siteCount, .int c_o1_stepCount, .int c_o1_seenRules, .int c_o1_at, .int c_o1_wordStart, .int c_o1_number, .int c_o1_failed])), (a_o1_rules, .inl (E.2.1, 3, .inl c_o1_rules)), (a_o1_places, .inl (E.2.1, 16, .inl c_o1_places))] := hD
  unfold F_X5_begin at hF
  refine lv_iconst (v := 0) hx hb dX5_begin_0 (by decide) ?_
  refine lv_istore_n (lv' := [(2, .int (0 : Int32)), (0, .ref a_), (1, .ref a_o1)]) hx hb dX5_begin_1 rfl hl (by decide) rfl (fun ls hl => ?_)
  replace hF := bd1_s hF
  obtain ⟨c_row_4, hL_5, hF⟩ := hF
  refine lw_X5_begin_2 l E K (c_askedCount := c_askedCount) (c_outcome := c_outcome) (c_o1_siteCount := c_o1_siteCount) (c_o1_stepCount := c_o1_stepCount) (c_o1_seenRules := c_o1_seenRules) (c_o1_at := c_o1_at) (c_o1_wordStart := c_o1_wordStart) (c_o1_number := c_o1_number) (c_o1_failed := c_o1_failed) (c_o1_rules := c_o1_rules) (c_o1_places := c_o1_places) hx hb hml hown hts hK hN hA K (0 : Int32) c_row c_row_4 hL_5 ?_ H locs ls (hP.sub [0, 1, 2, 3, 4] rfl) (hD.sub [0, 1, 2, 3, 4] (by decide) rfl) hS (lv_sub hl [1, 2, 0] rfl)
  ·
    intro H locs ls hP hD hS hl
    replace hP : va_P E.1 vwCl [(a_, .inr (6, [.ref a_row, .ref a_partners, .int c_askedCount, .int c_outcome, .ref a_share, .ref a_leftOver])), (a_row, .inl (E.2.1, 81, .inl c_row_4)), (a_o1, .inr (4, [.ref a_o1_tape, .ref a_o1_rules, .ref a_o1_places, .ref a_o1_steps, .int c_o1_siteCount, .int c_o1_stepCount, .int c_o1_seenRules, .int c_o1_at, .int c_o1_wordStart, .int c_o1_number, .int c_o1_failed])), (a_o1_rules, .inl (E.2.1, 3, .inl c_o1_rules)), (a_o1_places, .inl (E.2.1, 16, .inl c_o1_places))] H := hP
    replace hD : va_D A [(a_, .inr (6, [.ref a_row, .ref a_partners, .int c_askedCount, .int c_outcome, .ref a_share, .ref a_leftOver])), (a_row, .inl (E.2.1, 81, .inl c_row_4)), (a_o1, .inr (4, [.ref a_o1_tape, .ref a_o1_rules, .ref a_o1_places, .ref a_o1_steps, .int c_o1_siteCount, .int c_o1_stepCount, .int c_o1_seenRules, .int c_o1_at, .int c_o1_wordStart, .int c_o1_number, .int c_o1_failed])), (a_o1_rules, .inl (E.2.1, 3, .inl c_o1_rules)), (a_o1_places, .inl (E.2.1, 16, .inl c_o1_places))] := hD
    refine lv_aload_n hx hb dX5_begin_21 rfl (lv_at hl 0 rfl) ?_
    refine gt_X5_0 (v := .ref a_row) hx hb hts i_f_X5_begin_X5 hown hK hP 0 rfl (hts (.fieldLink RX5 11 "HushWatch$State" "row" "[I") (List.mem_of_getElem? (i := 1) rfl)) rfl dX5_begin_22 ?_
    refine lv_iconst (v := 0) hx hb dX5_begin_25 (by decide) ?_
    refine lv_aload_n hx hb dX5_begin_26 rfl (lv_at hl 1 rfl) ?_
    refine va_getN (D := E.1) (ci := 4) (v := .ref a_o1_rules) (C := RX3) (T := TX3) (N := 11) hx hb hts i_f_X5_begin_X3 hown hK hP 2 rfl rfl 1 (by decide) (nx hN 3 rfl) (fun _ h9 => h9) rfl dX5_begin_27 ?_
    refine lv_iconst (v := 0) hx hb dX5_begin_30 (by decide) ?_
    refine va_iald hx hb hK hP 3 0 rfl rfl (vin rfl) dX5_begin_31 ?_
    refine W.eq (g2 := F0 m 32 ls [.int (c_o1_rules 0), .int (0 : Int32), .ref a_row]) rfl ?_
    refine va_iast hx hb hK hP hD hS 1 0 rfl rfl (vin rfl) dX5_begin_32 (fun H locs hP hD hS => ?_)
    replace hP : va_P E.1 vwCl [(a_, .inr (6, [.ref a_row, .ref a_partners, .int c_askedCount, .int c_outcome, .ref a_share, .ref a_leftOver])), (a_row, .inl (E.2.1, 81, .inl (upd c_row_4 0 (c_o1_rules 0)))), (a_o1, .inr (4, [.ref a_o1_tape, .ref a_o1_rules, .ref a_o1_places, .ref a_o1_steps, .int c_o1_siteCount, .int c_o1_stepCount, .int c_o1_seenRules, .int c_o1_at, .int c_o1_wordStart, .int c_o1_number, .int c_o1_failed])), (a_o1_rules, .inl (E.2.1, 3, .inl c_o1_rules)), (a_o1_places, .inl (E.2.1, 16, .inl c_o1_places))] H := hP
    replace hD : va_D A [(a_, .inr (6, [.ref a_row, .ref a_partners, .int c_askedCount, .int c_outcome, .ref a_share, .ref a_leftOver])), (a_row, .inl (E.2.1, 81, .inl (upd c_row_4 0 (c_o1_rules 0)))), (a_o1, .inr (4, [.ref a_o1_tape, .ref a_o1_rules, .ref a_o1_places, .ref a_o1_steps, .int c_o1_siteCount, .int c_o1_stepCount, .int c_o1_seenRules, .int c_o1_at, .int c_o1_wordStart, .int c_o1_number, .int c_o1_failed])), (a_o1_rules, .inl (E.2.1, 3, .inl c_o1_rules)), (a_o1_places, .inl (E.2.1, 16, .inl c_o1_places))] := hD
    replace hF := nm_s hF
    obtain ⟨f_6, hf_6, hF⟩ := hF
    rw [← hf_6] at hP hD
    refine lv_aload_n hx hb dX5_begin_33 rfl (lv_at hl 0 rfl) ?_
    refine gt_X5_0 (v := .ref a_row) hx hb hts i_f_X5_begin_X5 hown hK hP 0 rfl (hts (.fieldLink RX5 11 "HushWatch$State" "row" "[I") (List.mem_of_getElem? (i := 1) rfl)) rfl dX5_begin_34 ?_
    refine lv_iconst (v := 1) hx hb dX5_begin_37 (by decide) ?_
    refine lv_aload_n hx hb dX5_begin_38 rfl (lv_at hl 1 rfl) ?_
    refine va_getN (D := E.1) (ci := 4) (v := .ref a_o1_rules) (C := RX3) (T := TX3) (N := 11) hx hb hts i_f_X5_begin_X3 hown hK hP 2 rfl rfl 1 (by decide) (nx hN 3 rfl) (fun _ h9 => h9) rfl dX5_begin_39 ?_
    refine lv_iconst (v := 1) hx hb dX5_begin_42 (by decide) ?_
    refine va_iald hx hb hK hP 3 0 rfl rfl (vin rfl) dX5_begin_43 ?_
    refine W.eq (g2 := F0 m 44 ls [.int (c_o1_rules 1), .int (1 : Int32), .ref a_row]) rfl ?_
    refine va_iast hx hb hK hP hD hS 1 0 rfl rfl (vin rfl) dX5_begin_44 (fun H locs hP hD hS => ?_)
    replace hP : va_P E.1 vwCl [(a_, .inr (6, [.ref a_row, .ref a_partners, .int c_askedCount, .int c_outcome, .ref a_share, .ref a_leftOver])), (a_row, .inl (E.2.1, 81, .inl (upd f_6 1 (c_o1_rules 1)))), (a_o1, .inr (4, [.ref a_o1_tape, .ref a_o1_rules, .ref a_o1_places, .ref a_o1_steps, .int c_o1_siteCount, .int c_o1_stepCount, .int c_o1_seenRules, .int c_o1_at, .int c_o1_wordStart, .int c_o1_number, .int c_o1_failed])), (a_o1_rules, .inl (E.2.1, 3, .inl c_o1_rules)), (a_o1_places, .inl (E.2.1, 16, .inl c_o1_places))] H := hP
    replace hD : va_D A [(a_, .inr (6, [.ref a_row, .ref a_partners, .int c_askedCount, .int c_outcome, .ref a_share, .ref a_leftOver])), (a_row, .inl (E.2.1, 81, .inl (upd f_6 1 (c_o1_rules 1)))), (a_o1, .inr (4, [.ref a_o1_tape, .ref a_o1_rules, .ref a_o1_places, .ref a_o1_steps, .int c_o1_siteCount, .int c_o1_stepCount, .int c_o1_seenRules, .int c_o1_at, .int c_o1_wordStart, .int c_o1_number, .int c_o1_failed])), (a_o1_rules, .inl (E.2.1, 3, .inl c_o1_rules)), (a_o1_places, .inl (E.2.1, 16, .inl c_o1_places))] := hD
    replace hF := nm_s hF
    obtain ⟨f_7, hf_7, hF⟩ := hF
    rw [← hf_7] at hP hD
    refine lv_aload_n hx hb dX5_begin_45 rfl (lv_at hl 0 rfl) ?_
    refine gt_X5_0 (v := .ref a_row) hx hb hts i_f_X5_begin_X5 hown hK hP 0 rfl (hts (.fieldLink RX5 11 "HushWatch$State" "row" "[I") (List.mem_of_getElem? (i := 1) rfl)) rfl dX5_begin_46 ?_
    refine lv_iconst (v := 2) hx hb dX5_begin_49 (by decide) ?_
    refine lv_aload_n hx hb dX5_begin_50 rfl (lv_at hl 1 rfl) ?_
    refine va_getN (D := E.1) (ci := 4) (v := .ref a_o1_rules) (C := RX3) (T := TX3) (N := 11) hx hb hts i_f_X5_begin_X3 hown hK hP 2 rfl rfl 1 (by decide) (nx hN 3 rfl) (fun _ h9 => h9) rfl dX5_begin_51 ?_
    refine lv_iconst (v := 2) hx hb dX5_begin_54 (by decide) ?_
    refine va_iald hx hb hK hP 3 0 rfl rfl (vin rfl) dX5_begin_55 ?_
    refine W.eq (g2 := F0 m 56 ls [.int (c_o1_rules 2), .int (2 : Int32), .ref a_row]) rfl ?_
    refine va_iast hx hb hK hP hD hS 1 0 rfl rfl (vin rfl) dX5_begin_56 (fun H locs hP hD hS => ?_)
    replace hP : va_P E.1 vwCl [(a_, .inr (6, [.ref a_row, .ref a_partners, .int c_askedCount, .int c_outcome, .ref a_share, .ref a_leftOver])), (a_row, .inl (E.2.1, 81, .inl (upd f_7 2 (c_o1_rules 2)))), (a_o1, .inr (4, [.ref a_o1_tape, .ref a_o1_rules, .ref a_o1_places, .ref a_o1_steps, .int c_o1_siteCount, .int c_o1_stepCount, .int c_o1_seenRules, .int c_o1_at, .int c_o1_wordStart, .int c_o1_number, .int c_o1_failed])), (a_o1_rules, .inl (E.2.1, 3, .inl c_o1_rules)), (a_o1_places, .inl (E.2.1, 16, .inl c_o1_places))] H := hP
    replace hD : va_D A [(a_, .inr (6, [.ref a_row, .ref a_partners, .int c_askedCount, .int c_outcome, .ref a_share, .ref a_leftOver])), (a_row, .inl (E.2.1, 81, .inl (upd f_7 2 (c_o1_rules 2)))), (a_o1, .inr (4, [.ref a_o1_tape, .ref a_o1_rules, .ref a_o1_places, .ref a_o1_steps, .int c_o1_siteCount, .int c_o1_stepCount, .int c_o1_seenRules, .int c_o1_at, .int c_o1_wordStart, .int c_o1_number, .int c_o1_failed])), (a_o1_rules, .inl (E.2.1, 3, .inl c_o1_rules)), (a_o1_places, .inl (E.2.1, 16, .inl c_o1_places))] := hD
    replace hF := nm_s hF
    obtain ⟨f_8, hf_8, hF⟩ := hF
    rw [← hf_8] at hP hD
    refine lv_aload_n hx hb dX5_begin_57 rfl (lv_at hl 0 rfl) ?_
    refine gt_X5_0 (v := .ref a_row) hx hb hts i_f_X5_begin_X5 hown hK hP 0 rfl (hts (.fieldLink RX5 11 "HushWatch$State" "row" "[I") (List.mem_of_getElem? (i := 1) rfl)) rfl dX5_begin_58 ?_
    refine lv_iconst (v := 3) hx hb dX5_begin_61 (by decide) ?_
    refine lv_aload_n hx hb dX5_begin_62 rfl (lv_at hl 1 rfl) ?_
    refine va_getN (D := E.1) (ci := 4) (v := .int c_o1_siteCount) (C := RX3) (T := TX3) (N := 11) hx hb hts i_f_X5_begin_X3 hown hK hP 2 rfl rfl 4 (by decide) (nx hN 6 rfl) (fun _ h9 => h9) rfl dX5_begin_63 ?_
    refine lv_bipush (v := 8) hx hb dX5_begin_66 (by decide) ?_
    refine va_mmin hx hb (hml.trans hl.1.symm) hown (hts (.methodLink RX5 39 Lib.Math.min.name) (List.mem_of_getElem? (i := 2) rfl)) (hts (.static Lib.Math.min.name) (List.mem_of_getElem? (i := 3) rfl)) (hts (.initialized "java/lang/Math") (List.mem_of_getElem? (i := 4) rfl)) (hts (.code Lib.Math.min.name Lib.Math.min.code 2 (some .int)) (List.mem_of_getElem? (i := 5) rfl)) (Nat.le_of_ble_eq_true rfl) (Nat.le_of_ble_eq_true rfl) (Nat.le_of_ble_eq_true rfl) (Nat.le_of_ble_eq_true rfl) dX5_begin_68 ?_
    refine W.eq (g2 := F0 m 71 ls [.int (minF c_o1_siteCount (8 : Int32)), .int (3 : Int32), .ref a_row]) rfl ?_
    refine va_iast hx hb hK hP hD hS 1 0 rfl rfl (vin rfl) dX5_begin_71 (fun H locs hP hD hS => ?_)
    replace hP : va_P E.1 vwCl [(a_, .inr (6, [.ref a_row, .ref a_partners, .int c_askedCount, .int c_outcome, .ref a_share, .ref a_leftOver])), (a_row, .inl (E.2.1, 81, .inl (upd f_8 3 (minF c_o1_siteCount (8 : Int32))))), (a_o1, .inr (4, [.ref a_o1_tape, .ref a_o1_rules, .ref a_o1_places, .ref a_o1_steps, .int c_o1_siteCount, .int c_o1_stepCount, .int c_o1_seenRules, .int c_o1_at, .int c_o1_wordStart, .int c_o1_number, .int c_o1_failed])), (a_o1_rules, .inl (E.2.1, 3, .inl c_o1_rules)), (a_o1_places, .inl (E.2.1, 16, .inl c_o1_places))] H := hP
    replace hD : va_D A [(a_, .inr (6, [.ref a_row, .ref a_partners, .int c_askedCount, .int c_outcome, .ref a_share, .ref a_leftOver])), (a_row, .inl (E.2.1, 81, .inl (upd f_8 3 (minF c_o1_siteCount (8 : Int32))))), (a_o1, .inr (4, [.ref a_o1_tape, .ref a_o1_rules, .ref a_o1_places, .ref a_o1_steps, .int c_o1_siteCount, .int c_o1_stepCount, .int c_o1_seenRules, .int c_o1_at, .int c_o1_wordStart, .int c_o1_number, .int c_o1_failed])), (a_o1_rules, .inl (E.2.1, 3, .inl c_o1_rules)), (a_o1_places, .inl (E.2.1, 16, .inl c_o1_places))] := hD
    replace hF := nm_s hF
    obtain ⟨f_9, hf_9, hF⟩ := hF
    rw [← hf_9] at hP hD
    refine lv_iconst (v := 0) hx hb dX5_begin_72 (by decide) ?_
    refine lv_istore_n (lv' := [(2, .int (0 : Int32)), (0, .ref a_), (1, .ref a_o1)]) hx hb dX5_begin_73 rfl hl (by decide) rfl (fun ls hl => ?_)
    replace hF := bd1_s hF
    obtain ⟨c_row_19, hL_20, hF⟩ := hF
    refine lw_X5_begin_74 l E K (c_askedCount := c_askedCount) (c_outcome := c_outcome) (c_o1_siteCount := c_o1_siteCount) (c_o1_stepCount := c_o1_stepCount) (c_o1_seenRules := c_o1_seenRules) (c_o1_at := c_o1_at) (c_o1_wordStart := c_o1_wordStart) (c_o1_number := c_o1_number) (c_o1_failed := c_o1_failed) (c_o1_rules := c_o1_rules) (c_o1_places := c_o1_places) hx hb hml hown hts hK hN hA K (0 : Int32) f_9 c_row_19 hL_20 ?_ H locs ls (hP.sub [0, 1, 2, 3, 4] rfl) (hD.sub [0, 1, 2, 3, 4] (by decide) rfl) hS (lv_sub hl [1, 2, 0] rfl)
    ·
      intro H locs ls hP hD hS hl
      replace hP : va_P E.1 vwCl [(a_, .inr (6, [.ref a_row, .ref a_partners, .int c_askedCount, .int c_outcome, .ref a_share, .ref a_leftOver])), (a_row, .inl (E.2.1, 81, .inl c_row_19)), (a_o1, .inr (4, [.ref a_o1_tape, .ref a_o1_rules, .ref a_o1_places, .ref a_o1_steps, .int c_o1_siteCount, .int c_o1_stepCount, .int c_o1_seenRules, .int c_o1_at, .int c_o1_wordStart, .int c_o1_number, .int c_o1_failed])), (a_o1_rules, .inl (E.2.1, 3, .inl c_o1_rules)), (a_o1_places, .inl (E.2.1, 16, .inl c_o1_places))] H := hP
      replace hD : va_D A [(a_, .inr (6, [.ref a_row, .ref a_partners, .int c_askedCount, .int c_outcome, .ref a_share, .ref a_leftOver])), (a_row, .inl (E.2.1, 81, .inl c_row_19)), (a_o1, .inr (4, [.ref a_o1_tape, .ref a_o1_rules, .ref a_o1_places, .ref a_o1_steps, .int c_o1_siteCount, .int c_o1_stepCount, .int c_o1_seenRules, .int c_o1_at, .int c_o1_wordStart, .int c_o1_number, .int c_o1_failed])), (a_o1_rules, .inl (E.2.1, 3, .inl c_o1_rules)), (a_o1_places, .inl (E.2.1, 16, .inl c_o1_places))] := hD
      refine lv_aload_n hx hb dX5_begin_118 rfl (lv_at hl 0 rfl) ?_
      replace hF := bd1_s hF
      obtain ⟨w_21, hc_22, hF⟩ := hF
      obtain ⟨hPc, hDc, hFc⟩ := wcut (wc := (w_X5_hearPlaces E a_ a_row a_partners a_share a_leftOver c_askedCount c_outcome c_row_19)) hP hD hS hA [0, 1] (by decide) rfl
      have hrc := va_recv hK hPc (ci := 6) (q0 := 0) rfl rfl
      refine cE_v (wc := (w_X5_hearPlaces E a_ a_row a_partners a_share a_leftOver c_askedCount c_outcome c_row_19)) (wr := [(a_o1, .inr (4, [.ref a_o1_tape, .ref a_o1_rules, .ref a_o1_places, .ref a_o1_steps, .int c_o1_siteCount, .int c_o1_stepCount, .int c_o1_seenRules, .int c_o1_at, .int c_o1_wordStart, .int c_o1_number, .int c_o1_failed])), (a_o1_rules, .inl (E.2.1, 3, .inl c_o1_rules)), (a_o1_places, .inl (E.2.1, 16, .inl c_o1_places))]) (w1 := (w_X5_hearPlaces E a_ a_row a_partners a_share a_leftOver c_askedCount c_outcome w_21)) (va_runV (As := []) (rest := [])  ⟨hx, hb, hml, hown, hts⟩ (f_X5_hearPlaces l E H.size K (a_ := a_) (a_row := a_row) (a_partners := a_partners) (a_share := a_share) (a_leftOver := a_leftOver) (c_askedCount := c_askedCount) (c_outcome := c_outcome) (c_row := c_row_19) hc_22) (cwV 0 hts g_f_X5_begin_f_X5_hearPlaces_56 rfl rfl rfl hd_X5_hearPlaces ⟨Nat.le_of_ble_eq_true rfl, Nat.le_of_ble_eq_true rfl⟩) ⟨pW.blind, hrc, (pW.pre ⟨hK, hN⟩ hPc hDc)⟩ rfl rfl hl.1 rfl (lv_room (Nat.le_of_ble_eq_true rfl)) dX5_begin_119 ⟨Nat.le_of_ble_eq_true rfl, Nat.le_of_ble_eq_true rfl⟩) hS hFc hP hD [0, 1] [2, 3, 4] rfl rfl (by decide) (by decide) (fun H locs hP hD hS => ?_)
      replace hP : va_P E.1 vwCl [(a_o1, .inr (4, [.ref a_o1_tape, .ref a_o1_rules, .ref a_o1_places, .ref a_o1_steps, .int c_o1_siteCount, .int c_o1_stepCount, .int c_o1_seenRules, .int c_o1_at, .int c_o1_wordStart, .int c_o1_number, .int c_o1_failed])), (a_o1_rules, .inl (E.2.1, 3, .inl c_o1_rules)), (a_o1_places, .inl (E.2.1, 16, .inl c_o1_places)), (a_, .inr (6, [.ref a_row, .ref a_partners, .int c_askedCount, .int c_outcome, .ref a_share, .ref a_leftOver])), (a_row, .inl (E.2.1, 81, .inl w_21))] H := hP
      replace hD : va_D A [(a_o1, .inr (4, [.ref a_o1_tape, .ref a_o1_rules, .ref a_o1_places, .ref a_o1_steps, .int c_o1_siteCount, .int c_o1_stepCount, .int c_o1_seenRules, .int c_o1_at, .int c_o1_wordStart, .int c_o1_number, .int c_o1_failed])), (a_o1_rules, .inl (E.2.1, 3, .inl c_o1_rules)), (a_o1_places, .inl (E.2.1, 16, .inl c_o1_places)), (a_, .inr (6, [.ref a_row, .ref a_partners, .int c_askedCount, .int c_outcome, .ref a_share, .ref a_leftOver])), (a_row, .inl (E.2.1, 81, .inl w_21))] := hD
      refine lv_aload_n hx hb dX5_begin_122 rfl (lv_at hl 0 rfl) ?_
      refine gt_X5_0 (v := .ref a_row) hx hb hts i_f_X5_begin_X5 hown hK hP 3 rfl (hts (.fieldLink RX5 11 "HushWatch$State" "row" "[I") (List.mem_of_getElem? (i := 1) rfl)) rfl dX5_begin_123 ?_
      refine lv_bipush (v := 6) hx hb dX5_begin_126 (by decide) ?_
      refine lv_aload_n hx hb dX5_begin_128 rfl (lv_at hl 0 rfl) ?_
      refine lv_aload_n hx hb dX5_begin_129 rfl (lv_at hl 0 rfl) ?_
      refine gt_X5_0 (v := .ref a_row) hx hb hts i_f_X5_begin_X5 hown hK hP 3 rfl (hts (.fieldLink RX5 11 "HushWatch$State" "row" "[I") (List.mem_of_getElem? (i := 1) rfl)) rfl dX5_begin_130 ?_
      refine lv_iconst (v := 4) hx hb dX5_begin_133 (by decide) ?_
      refine va_iald hx hb hK hP 4 0 rfl rfl (vin rfl) dX5_begin_134 ?_
      refine W.eq (g2 := F0 m 135 ls [.int (w_21 4), .ref a_, .int (6 : Int32), .ref a_row]) rfl ?_
      refine lv_i2l (v := (w_21 4).toInt64) hx hb dX5_begin_135 rfl ?_
      refine lv_aload_n hx hb dX5_begin_136 rfl (lv_at hl 0 rfl) ?_
      refine gt_X5_0 (v := .ref a_row) hx hb hts i_f_X5_begin_X5 hown hK hP 3 rfl (hts (.fieldLink RX5 11 "HushWatch$State" "row" "[I") (List.mem_of_getElem? (i := 1) rfl)) rfl dX5_begin_137 ?_
      refine lv_iconst (v := 5) hx hb dX5_begin_140 (by decide) ?_
      refine va_iald hx hb hK hP 4 0 rfl rfl (vin rfl) dX5_begin_141 ?_
      refine W.eq (g2 := F0 m 142 ls [.int (w_21 5), .long ((w_21 4).toInt64), .ref a_, .int (6 : Int32), .ref a_row]) rfl ?_
      refine lv_i2l (v := (w_21 5).toInt64) hx hb dX5_begin_142 rfl ?_
      replace hF := bd1_s hF
      obtain ⟨r_23, hc_24, hF⟩ := hF
      have hPc : va_P E.1 vwCl (w_X5_allows E a_ a_row a_partners a_share a_leftOver c_askedCount c_outcome w_21) H := hP.sub (ws' := [(a_, .inr (6, [.ref a_row, .ref a_partners, .int c_askedCount, .int c_outcome, .ref a_share, .ref a_leftOver])), (a_row, .inl (E.2.1, 81, .inl w_21))]) [3, 4] rfl
      have hrc := va_recv hK hPc (ci := 6) (q0 := 0) rfl rfl
      refine pE_z (va_runV (As := [.long ((w_21 4).toInt64), .long ((w_21 5).toInt64)]) (rest := [.int (6 : Int32), .ref a_row])  ⟨hx, hb, hml, hown, hts⟩ (f_X5_allows l E (a_ := a_) (a_row := a_row) (a_partners := a_partners) (a_share := a_share) (a_leftOver := a_leftOver) (p1 := (w_21 4).toInt64) (p2 := (w_21 5).toInt64) (c_askedCount := c_askedCount) (c_outcome := c_outcome) (c_row := w_21) hc_24) (cwV 2 hts g_f_X5_begin_f_X5_allows_59 rfl rfl rfl hd_X5_allows ⟨Nat.le_of_ble_eq_true rfl, Nat.le_of_ble_eq_true rfl⟩) ⟨pP.blind, hrc, (pP.pre ⟨hK, hN⟩ hPc)⟩ rfl rfl hl.1 rfl (lv_room (Nat.le_of_ble_eq_true rfl)) dX5_begin_143 ⟨Nat.le_of_ble_eq_true rfl, Nat.le_of_ble_eq_true rfl⟩) (fun hb_25 => ?_)
      refine lv_if_eq (tgt := 153) hx hb dX5_begin_146 (by decide) (fun c_26 => ?_) (fun c_26 => ?_)
      ·
        replace hF := ip c_26 hF
        refine lv_iconst (v := 1) hx hb dX5_begin_153 (by decide) ?_
        refine va_iast hx hb hK hP hD hS 4 0 rfl rfl (vin rfl) dX5_begin_154 (fun H locs hP hD hS => ?_)
        replace hP : va_P E.1 vwCl [(a_o1, .inr (4, [.ref a_o1_tape, .ref a_o1_rules, .ref a_o1_places, .ref a_o1_steps, .int c_o1_siteCount, .int c_o1_stepCount, .int c_o1_seenRules, .int c_o1_at, .int c_o1_wordStart, .int c_o1_number, .int c_o1_failed])), (a_o1_rules, .inl (E.2.1, 3, .inl c_o1_rules)), (a_o1_places, .inl (E.2.1, 16, .inl c_o1_places)), (a_, .inr (6, [.ref a_row, .ref a_partners, .int c_askedCount, .int c_outcome, .ref a_share, .ref a_leftOver])), (a_row, .inl (E.2.1, 81, .inl (upd w_21 6 (1 : Int32))))] H := hP
        replace hD : va_D A [(a_o1, .inr (4, [.ref a_o1_tape, .ref a_o1_rules, .ref a_o1_places, .ref a_o1_steps, .int c_o1_siteCount, .int c_o1_stepCount, .int c_o1_seenRules, .int c_o1_at, .int c_o1_wordStart, .int c_o1_number, .int c_o1_failed])), (a_o1_rules, .inl (E.2.1, 3, .inl c_o1_rules)), (a_o1_places, .inl (E.2.1, 16, .inl c_o1_places)), (a_, .inr (6, [.ref a_row, .ref a_partners, .int c_askedCount, .int c_outcome, .ref a_share, .ref a_leftOver])), (a_row, .inl (E.2.1, 81, .inl (upd w_21 6 (1 : Int32))))] := hD
        replace hF := nm_s hF
        obtain ⟨f_27, hf_27, hF⟩ := hF
        rw [← hf_27] at hP hD
        rw [hQ]
        have h9 := fin9 (P := fun u9 : (Nat → Int32) => va_P E.1 vwCl (w_X5_begin E a_ a_row a_partners a_share a_leftOver a_o1 a_o1_tape a_o1_rules a_o1_places a_o1_steps c_askedCount c_outcome u9 c_o1_siteCount c_o1_stepCount c_o1_seenRules c_o1_at c_o1_wordStart c_o1_number c_o1_failed c_o1_rules c_o1_places) H ∧ va_D A (w_X5_begin E a_ a_row a_partners a_share a_leftOver a_o1 a_o1_tape a_o1_rules a_o1_places a_o1_steps c_askedCount c_outcome u9 c_o1_siteCount c_o1_stepCount c_o1_seenRules c_o1_at c_o1_wordStart c_o1_number c_o1_failed c_o1_rules c_o1_places)) hF ⟨hP.sub [3, 4, 0, 1, 2] rfl, hD.sub [3, 4, 0, 1, 2] (by decide) rfl⟩
        obtain ⟨hP9, hD9⟩ := h9
        exact W.vret hx hb hr (fun tt ht hW => ⟨⟨(), rfl, trivial, ht ▸ hP9, hD9⟩, hS.F ht⟩) hS.2.2 dX5_begin_155
      ·
        replace hF := inn c_26 hF
        refine lv_iconst (v := 0) hx hb dX5_begin_149 (by decide) ?_
        refine lv_goto (tgt := 154) hx hb dX5_begin_150 (by decide) ?_
        refine va_iast hx hb hK hP hD hS 4 0 rfl rfl (vin rfl) dX5_begin_154 (fun H locs hP hD hS => ?_)
        replace hP : va_P E.1 vwCl [(a_o1, .inr (4, [.ref a_o1_tape, .ref a_o1_rules, .ref a_o1_places, .ref a_o1_steps, .int c_o1_siteCount, .int c_o1_stepCount, .int c_o1_seenRules, .int c_o1_at, .int c_o1_wordStart, .int c_o1_number, .int c_o1_failed])), (a_o1_rules, .inl (E.2.1, 3, .inl c_o1_rules)), (a_o1_places, .inl (E.2.1, 16, .inl c_o1_places)), (a_, .inr (6, [.ref a_row, .ref a_partners, .int c_askedCount, .int c_outcome, .ref a_share, .ref a_leftOver])), (a_row, .inl (E.2.1, 81, .inl (upd w_21 6 (0 : Int32))))] H := hP
        replace hD : va_D A [(a_o1, .inr (4, [.ref a_o1_tape, .ref a_o1_rules, .ref a_o1_places, .ref a_o1_steps, .int c_o1_siteCount, .int c_o1_stepCount, .int c_o1_seenRules, .int c_o1_at, .int c_o1_wordStart, .int c_o1_number, .int c_o1_failed])), (a_o1_rules, .inl (E.2.1, 3, .inl c_o1_rules)), (a_o1_places, .inl (E.2.1, 16, .inl c_o1_places)), (a_, .inr (6, [.ref a_row, .ref a_partners, .int c_askedCount, .int c_outcome, .ref a_share, .ref a_leftOver])), (a_row, .inl (E.2.1, 81, .inl (upd w_21 6 (0 : Int32))))] := hD
        replace hF := nm_s hF
        obtain ⟨f_28, hf_28, hF⟩ := hF
        rw [← hf_28] at hP hD
        rw [hQ]
        have h9 := fin9 (P := fun u9 : (Nat → Int32) => va_P E.1 vwCl (w_X5_begin E a_ a_row a_partners a_share a_leftOver a_o1 a_o1_tape a_o1_rules a_o1_places a_o1_steps c_askedCount c_outcome u9 c_o1_siteCount c_o1_stepCount c_o1_seenRules c_o1_at c_o1_wordStart c_o1_number c_o1_failed c_o1_rules c_o1_places) H ∧ va_D A (w_X5_begin E a_ a_row a_partners a_share a_leftOver a_o1 a_o1_tape a_o1_rules a_o1_places a_o1_steps c_askedCount c_outcome u9 c_o1_siteCount c_o1_stepCount c_o1_seenRules c_o1_at c_o1_wordStart c_o1_number c_o1_failed c_o1_rules c_o1_places)) hF ⟨hP.sub [3, 4, 0, 1, 2] rfl, hD.sub [3, 4, 0, 1, 2] (by decide) rfl⟩
        obtain ⟨hP9, hD9⟩ := h9
        exact W.vret hx hb hr (fun tt ht hW => ⟨⟨(), rfl, trivial, ht ▸ hP9, hD9⟩, hS.F ht⟩) hS.2.2 dX5_begin_155

def B_X5_measureShares_23 (p1 : Int32) (c_row : Nat → Int32) (x3 : Int32) (x4 : Int32) (x5 : Int32) : Option ((Int32 × Int32) ⊕ (Int32)) :=
  bd1 (F_X5_sites c_row) (fun r_5 => if r_5 ≤ x5 then some (.inr x4) else if (p1 >>> (x5 &&& (31 : Int32))) &&& (1 : Int32) = (0 : Int32) then some (.inl (x4 + (0 : Int32), x5 + (1 : Int32))) else bd1 (F_X5_drift x5 x3 c_row) (fun r_9 => some (.inl (x4 + r_9, x5 + (1 : Int32)))))
def B_X5_measureShares_12 (K : Nat) (p1 : Int32) (c_row : Nat → Int32) (x2 : Int32) (x3 : Int32) (c_share : Nat → Int32) (c_leftOver : Nat → Int32) : Option ((Int32 × (Nat → Int32) × (Nat → Int32)) ⊕ ((Nat → Int32) × (Nat → Int32))) :=
  if (2 : Int32) ≤ x3 then some (.inr (c_share, c_leftOver)) else bd1 (lpF (fun u9 : Int32 × Int32 => B_X5_measureShares_23 p1 c_row x3 u9.1 u9.2) K ((0 : Int32), (0 : Int32))) (fun x4_11 => bd1 (F_J9_floorDiv_7cf53 x4_11 x2) (fun r_13 => ixF x3 2 (nmF (upd c_share x3.toNatClampNeg r_13) (fun f_16 => bd1 (F_J9_floorMod_7cf53 x4_11 x2) (fun r_17 => ixF x3 2 (nmF (upd c_leftOver x3.toNatClampNeg r_17) (fun f_20 => some (.inl (x3 + (1 : Int32), f_16, f_20)))))))))
def F_X5_measureShares (K : Nat) (p1 : Int32) (c_row : Nat → Int32) (c_share : Nat → Int32) (c_leftOver : Nat → Int32) : Option ((Nat → Int32) × (Nat → Int32)) :=
  bd1 (F_J6_bitCount_0f7a4 p1) (fun r_1 => if r_1 = (0 : Int32) then some (c_share, c_leftOver) else bd2 (lpF (fun u9 : Int32 × (Nat → Int32) × (Nat → Int32) => B_X5_measureShares_12 K p1 c_row r_1 u9.1 u9.2.1 u9.2.2) K ((0 : Int32), c_share, c_leftOver)) (fun c_share_21 c_leftOver_22 => some (c_share_21, c_leftOver_22)))
abbrev w_X5_measureShares (E : EE) (a_ a_row a_partners a_share a_leftOver : Nat) (c_askedCount : Int32) (c_outcome : Int32) (c_row : Nat → Int32) (c_share : Nat → Int32) (c_leftOver : Nat → Int32) : va_W := [(a_, .inr (6, [.ref a_row, .ref a_partners, .int c_askedCount, .int c_outcome, .ref a_share, .ref a_leftOver])), (a_row, .inl (E.2.1, 81, .inl c_row)), (a_share, .inl (E.2.1, 2, .inl c_share)), (a_leftOver, .inl (E.2.1, 2, .inl c_leftOver))]
def v_f_X5_measureShares : List Cond := List.cons (.code yX5_measureShares cX5_measureShares 6 none) (HAppend.hAppend (α := List Cond) (β := List Cond) (γ := List Cond) [.fieldLink RX5 25 "HushWatch$State" "share" "[I", .fieldLink RX5 28 "HushWatch$State" "leftOver" "[I", .methodLink RX5 171 yJ6_bitCount_0f7a4, .static yJ6_bitCount_0f7a4, .initialized RJ6, .methodLink RX5 45 yX5_sites, .instanceMethod yX5_sites, .selects RX5 yX5_sites yX5_sites, .initialized RX5, .methodLink RX5 72 yX5_drift, .instanceMethod yX5_drift, .selects RX5 yX5_drift yX5_drift, .methodLink RX5 176 yJ9_floorDiv_7cf53, .static yJ9_floorDiv_7cf53, .initialized RJ9, .methodLink RX5 179 yJ9_floorMod_7cf53, .static yJ9_floorMod_7cf53] (HAppend.hAppend (α := List Cond) (β := List Cond) (γ := List Cond) v_f_J6_bitCount_0f7a4 (HAppend.hAppend (α := List Cond) (β := List Cond) (γ := List Cond) v_f_X5_sites (HAppend.hAppend (α := List Cond) (β := List Cond) (γ := List Cond) v_f_X5_drift (HAppend.hAppend (α := List Cond) (β := List Cond) (γ := List Cond) wsX50 (HAppend.hAppend (α := List Cond) (β := List Cond) (γ := List Cond) v_f_J9_floorDiv_7cf53 (HAppend.hAppend (α := List Cond) (β := List Cond) (γ := List Cond) v_f_J9_floorMod_7cf53 [])))))))
theorem gw_f_X5_measureShares : v_f_X5_measureShares.all goodWord = true := by decide +kernel
theorem i_f_X5_measureShares_X5 : ∀ w ∈ wsX50, w ∈ v_f_X5_measureShares := fun _ h => List.mem_cons_of_mem _ (List.mem_append_right _ (List.mem_append_right _ (List.mem_append_right _ (List.mem_append_right _ (List.mem_append_left _ h)))))
theorem g_f_X5_measureShares_f_J6_bitCount_0f7a4_171 : GoodIn v_f_X5_measureShares (va_wsS RX5 171 yJ6_bitCount_0f7a4 v_f_J6_bitCount_0f7a4) := goodIn_app (goodIn_of _ (by decide +kernel)) (goodIn_sub (fun _ h => List.mem_cons_of_mem _ (List.mem_append_right _ (List.mem_append_left _ h))) gw_f_J6_bitCount_0f7a4)
theorem g_f_X5_measureShares_f_X5_sites_45 : GoodIn v_f_X5_measureShares (wsV RX5 45 RX5 yX5_sites v_f_X5_sites) := goodIn_app (goodIn_of _ (by decide +kernel)) (goodIn_sub (fun _ h => List.mem_cons_of_mem _ (List.mem_append_right _ (List.mem_append_right _ (List.mem_append_left _ h)))) gw_f_X5_sites)
theorem g_f_X5_measureShares_f_X5_drift_72 : GoodIn v_f_X5_measureShares (wsV RX5 72 RX5 yX5_drift v_f_X5_drift) := goodIn_app (goodIn_of _ (by decide +kernel)) (goodIn_sub (fun _ h => List.mem_cons_of_mem _ (List.mem_append_right _ (List.mem_append_right _ (List.mem_append_right _ (List.mem_append_left _ h))))) gw_f_X5_drift)
theorem g_f_X5_measureShares_f_J9_floorDiv_7cf53_176 : GoodIn v_f_X5_measureShares (va_wsS RX5 176 yJ9_floorDiv_7cf53 v_f_J9_floorDiv_7cf53) := goodIn_app (goodIn_of _ (by decide +kernel)) (goodIn_sub (fun _ h => List.mem_cons_of_mem _ (List.mem_append_right _ (List.mem_append_right _ (List.mem_append_right _ (List.mem_append_right _ (List.mem_append_right _ (List.mem_append_left _ h))))))) gw_f_J9_floorDiv_7cf53)
theorem g_f_X5_measureShares_f_J9_floorMod_7cf53_179 : GoodIn v_f_X5_measureShares (va_wsS RX5 179 yJ9_floorMod_7cf53 v_f_J9_floorMod_7cf53) := goodIn_app (goodIn_of _ (by decide +kernel)) (goodIn_sub (fun _ h => List.mem_cons_of_mem _ (List.mem_append_right _ (List.mem_append_right _ (List.mem_append_right _ (List.mem_append_right _ (List.mem_append_right _ (List.mem_append_right _ (List.mem_append_left _ h)))))))) gw_f_J9_floorMod_7cf53)
theorem hd_X5_measureShares : yX5_measureShares.cls = RX5 ∧ yX5_measureShares.cls ≠ "java/lang/invoke/MethodHandle" ∧ yX5_measureShares.cls ≠ "java/lang/invoke/VarHandle" ∧ (parseMethodDescriptor yX5_measureShares.desc).map (fun d => d.parameters.length) = some 1 := by decide +kernel
set_option maxHeartbeats 4000000 in
set_option maxRecDepth 100000 in
theorem wb_X5_measureShares_23 {p : Program} (l : Launch) {e : Env} {s : State} {m : MethodId} {below : List Frame} {meth : Method} {c : Code} {Q : State → Prop} (E : EE) (K : Nat) {a_ a_row a_partners a_share a_leftOver : Nat} {p1 : Int32} {c_askedCount : Int32} {c_outcome : Int32} {c_row : Nat → Int32} {x2 : Int32} {x3 : Int32} {x4 : Int32} {x5 : Int32} {c_share : Nat → Int32} {c_leftOver : Nat → Int32} (hx : p.tables.exec = Jvm.exec) (hb : c.code = cX5_measureShares) (hml : c.maxLocals = 6) (hown : s.vm.findClass RX5 = some m.cls) (hts : ∀ w ∈ v_f_X5_measureShares, w.before #[Value.ref a_, Value.int p1] s = true) (hK : va_K E.1 vwCl (TY E) s) (hN : NX s) {A : Nat → Prop} (hA : ∀ q : Nat, s.heap.size ≤ q → A q) {xx : (Int32 × Int32) ⊕ (Int32)} (hC : ∀ (x4 : Int32), ∀ (x5 : Int32), xx = .inl (x4, x5) → ∀ (H : Heap) (locs : List Loc) (ls : Array Slot), va_P E.1 vwCl (w_X5_measureShares E a_ a_row a_partners a_share a_leftOver c_askedCount c_outcome c_row c_share c_leftOver) H → va_D A (w_X5_measureShares E a_ a_row a_partners a_share a_leftOver c_askedCount c_outcome c_row c_share c_leftOver) → va_S A s.heap H locs → lv_has ls 6 [(0, .ref a_), (1, .int p1), (2, .int x2), (3, .int x3), (4, .int x4), (5, .int x5)] → W p l e ({ frames := 1, cells := 0, slots := 0, locals := 23 } : Room) s m #[Value.ref a_, Value.int p1] below meth c H locs 0 0 Q (F0 m 23 ls [])) (hE : ∀ (x4 : Int32), xx = .inr x4 → ((∀ (H : Heap) (locs : List Loc) (ls : Array Slot), va_P E.1 vwCl (w_X5_measureShares E a_ a_row a_partners a_share a_leftOver c_askedCount c_outcome c_row c_share c_leftOver) H → va_D A (w_X5_measureShares E a_ a_row a_partners a_share a_leftOver c_askedCount c_outcome c_row c_share c_leftOver) → va_S A s.heap H locs → lv_has ls 6 [(0, .ref a_), (1, .int p1), (2, .int x2), (3, .int x3), (4, .int x4)] → W p l e ({ frames := 1, cells := 0, slots := 0, locals := 23 } : Room) s m #[Value.ref a_, Value.int p1] below meth c H locs 0 0 Q (F0 m 63 ls [])))) (hF : B_X5_measureShares_23 p1 c_row x3 x4 x5 = some xx) : ∀ (H : Heap) (locs : List Loc) (ls : Array Slot), va_P E.1 vwCl (w_X5_measureShares E a_ a_row a_partners a_share a_leftOver c_askedCount c_outcome c_row c_share c_leftOver) H → va_D A (w_X5_measureShares E a_ a_row a_partners a_share a_leftOver c_askedCount c_outcome c_row c_share c_leftOver) → va_S A s.heap H locs → lv_has ls 6 [(0, .ref a_), (1, .int p1), (2, .int x2), (3, .int x3), (4, .int x4), (5, .int x5)] → W p l e ({ frames := 1, cells := 0, slots := 0, locals := 23 } : Room) s m #[Value.ref a_, Value.int p1] below meth c H locs 0 0 Q (F0 m 23 ls []) := by
  unfold B_X5_measureShares_23 at hF
  intro H locs ls hP hD hS hl
  replace hP : va_P E.1 vwCl [(a_, .inr (6, [.ref a_row, .ref a_partners, .int c_askedCount, .int c_outcome, .ref a_share, .ref a_leftOver])), (a_row, .inl (E.2.1, 81, .inl c_row)), (a_share, .inl (E.2.1, 2, .inl c_share)), (a_leftOver, .inl (E.2.1, 2, .inl c_leftOver))] H := hP
  replace hD : va_D A [(a_, .inr (6, [.ref a_row, .ref a_partners, .int c_askedCount, .int c_outcome, .ref a_share, .ref a_leftOver])), (a_row, .inl (E.2.1, 81, .inl c_row)), (a_share, .inl (E.2.1, 2, .inl c_share)), (a_leftOver, .inl (E.2.1, 2, .inl c_leftOver))] := hD
  refine lv_iload hx hb dX5_measureShares_23 (lv_at hl 5 rfl) ?_
  refine lv_aload_n hx hb dX5_measureShares_25 rfl (lv_at hl 0 rfl) ?_
  replace hF := bd1_s hF
  obtain ⟨r_5, hc_6, hF⟩ := hF
  have hPc : va_P E.1 vwCl (w_X5_sites E a_ a_row a_partners a_share a_leftOver c_askedCount c_outcome c_row) H := hP.sub (ws' := [(a_, .inr (6, [.ref a_row, .ref a_partners, .int c_askedCount, .int c_outcome, .ref a_share, .ref a_leftOver])), (a_row, .inl (E.2.1, 81, .inl c_row))]) [0, 1] rfl
  have hrc := va_recv hK hPc (ci := 6) (q0 := 0) rfl rfl
  refine pE_i (va_runV (As := []) (rest := [.int x5])  ⟨hx, hb, hml, hown, hts⟩ (f_X5_sites l E (a_ := a_) (a_row := a_row) (a_partners := a_partners) (a_share := a_share) (a_leftOver := a_leftOver) (c_askedCount := c_askedCount) (c_outcome := c_outcome) (c_row := c_row) hc_6) (cwV 0 hts g_f_X5_measureShares_f_X5_sites_45 rfl rfl rfl hd_X5_sites ⟨Nat.le_of_ble_eq_true rfl, Nat.le_of_ble_eq_true rfl⟩) ⟨pP.blind, hrc, (pP.pre ⟨hK, hN⟩ hPc)⟩ rfl rfl hl.1 rfl (lv_room (Nat.le_of_ble_eq_true rfl)) dX5_measureShares_26 ⟨Nat.le_of_ble_eq_true rfl, Nat.le_of_ble_eq_true rfl⟩) ?_
  refine lv_icmp_ge (tgt := 63) hx hb dX5_measureShares_29 (by decide) (fun c_7 => ?_) (fun c_7 => ?_)
  ·
    replace hF := ip c_7 hF
    cases hF
    exact hE x4 rfl H locs ls (hP.sub [0, 1, 2, 3] rfl) (hD.sub [0, 1, 2, 3] (by decide) rfl) hS (lv_sub hl [0, 1, 2, 3, 4] rfl)
  ·
    replace hF := inn c_7 hF
    refine lv_iload hx hb dX5_measureShares_32 (lv_at hl 4 rfl) ?_
    refine lv_iload_n hx hb dX5_measureShares_34 rfl (lv_at hl 1 rfl) ?_
    refine lv_iload hx hb dX5_measureShares_35 (lv_at hl 5 rfl) ?_
    refine lv_ishr hx hb dX5_measureShares_37 ?_
    refine lv_iconst (v := 1) hx hb dX5_measureShares_38 (by decide) ?_
    refine lv_iand hx hb dX5_measureShares_39 ?_
    refine lv_if_eq (tgt := 53) hx hb dX5_measureShares_40 (by decide) (fun c_8 => ?_) (fun c_8 => ?_)
    ·
      replace hF := ip c_8 hF
      refine lv_iconst (v := 0) hx hb dX5_measureShares_53 (by decide) ?_
      refine lv_iadd hx hb dX5_measureShares_54 ?_
      refine lv_istore (lv' := [(4, .int (x4 + (0 : Int32))), (0, .ref a_), (1, .int p1), (2, .int x2), (3, .int x3), (5, .int x5)]) hx hb dX5_measureShares_55 hl (by decide) rfl (fun ls hl => ?_)
      refine lv_iinc (v := x5 + (1 : Int32)) (lv' := [(5, .int (x5 + (1 : Int32))), (4, .int (x4 + (0 : Int32))), (0, .ref a_), (1, .int p1), (2, .int x2), (3, .int x3)]) hx hb dX5_measureShares_57 hl (k := 5) rfl (rfl) (by decide) rfl (fun ls hl => ?_)
      refine lv_goto (tgt := 23) hx hb dX5_measureShares_60 (by decide) ?_
      cases hF
      exact hC (x4 + (0 : Int32)) (x5 + (1 : Int32)) rfl H locs ls (hP.sub [0, 1, 2, 3] rfl) (hD.sub [0, 1, 2, 3] (by decide) rfl) hS (lv_sub hl [2, 3, 4, 5, 1, 0] rfl)
    ·
      replace hF := inn c_8 hF
      refine lv_aload_n hx hb dX5_measureShares_43 rfl (lv_at hl 0 rfl) ?_
      refine lv_iload hx hb dX5_measureShares_44 (lv_at hl 5 rfl) ?_
      refine lv_iload_n hx hb dX5_measureShares_46 rfl (lv_at hl 3 rfl) ?_
      replace hF := bd1_s hF
      obtain ⟨r_9, hc_10, hF⟩ := hF
      have hPc : va_P E.1 vwCl (w_X5_drift E a_ a_row a_partners a_share a_leftOver c_askedCount c_outcome c_row) H := hP.sub (ws' := [(a_, .inr (6, [.ref a_row, .ref a_partners, .int c_askedCount, .int c_outcome, .ref a_share, .ref a_leftOver])), (a_row, .inl (E.2.1, 81, .inl c_row))]) [0, 1] rfl
      have hrc := va_recv hK hPc (ci := 6) (q0 := 0) rfl rfl
      refine pE_i (va_runV (As := [.int x5, .int x3]) (rest := [.int x4])  ⟨hx, hb, hml, hown, hts⟩ (f_X5_drift l E (a_ := a_) (a_row := a_row) (a_partners := a_partners) (a_share := a_share) (a_leftOver := a_leftOver) (p1 := x5) (p2 := x3) (c_askedCount := c_askedCount) (c_outcome := c_outcome) (c_row := c_row) hc_10) (cwV 2 hts g_f_X5_measureShares_f_X5_drift_72 rfl rfl rfl hd_X5_drift ⟨Nat.le_of_ble_eq_true rfl, Nat.le_of_ble_eq_true rfl⟩) ⟨pP.blind, hrc, (pP.pre ⟨hK, hN⟩ hPc)⟩ rfl rfl hl.1 rfl (lv_room (Nat.le_of_ble_eq_true rfl)) dX5_measureShares_47 ⟨Nat.le_of_ble_eq_true rfl, Nat.le_of_ble_eq_true rfl⟩) ?_
      refine lv_goto (tgt := 54) hx hb dX5_measureShares_50 (by decide) ?_
      refine lv_iadd hx hb dX5_measureShares_54 ?_
      refine lv_istore (lv' := [(4, .int (x4 + r_9)), (0, .ref a_), (1, .int p1), (2, .int x2), (3, .int x3), (5, .int x5)]) hx hb dX5_measureShares_55 hl (by decide) rfl (fun ls hl => ?_)
      refine lv_iinc (v := x5 + (1 : Int32)) (lv' := [(5, .int (x5 + (1 : Int32))), (4, .int (x4 + r_9)), (0, .ref a_), (1, .int p1), (2, .int x2), (3, .int x3)]) hx hb dX5_measureShares_57 hl (k := 5) rfl (rfl) (by decide) rfl (fun ls hl => ?_)
      refine lv_goto (tgt := 23) hx hb dX5_measureShares_60 (by decide) ?_
      cases hF
      exact hC (x4 + r_9) (x5 + (1 : Int32)) rfl H locs ls (hP.sub [0, 1, 2, 3] rfl) (hD.sub [0, 1, 2, 3] (by decide) rfl) hS (lv_sub hl [2, 3, 4, 5, 1, 0] rfl)

set_option maxHeartbeats 4000000 in
set_option maxRecDepth 100000 in
theorem lw_X5_measureShares_23 {p : Program} (l : Launch) {e : Env} {s : State} {m : MethodId} {below : List Frame} {meth : Method} {c : Code} {Q : State → Prop} (E : EE) (K : Nat) {a_ a_row a_partners a_share a_leftOver : Nat} {p1 : Int32} {c_askedCount : Int32} {c_outcome : Int32} {c_row : Nat → Int32} {x2 : Int32} {x3 : Int32} {c_share : Nat → Int32} {c_leftOver : Nat → Int32} (hx : p.tables.exec = Jvm.exec) (hb : c.code = cX5_measureShares) (hml : c.maxLocals = 6) (hown : s.vm.findClass RX5 = some m.cls) (hts : ∀ w ∈ v_f_X5_measureShares, w.before #[Value.ref a_, Value.int p1] s = true) (hK : va_K E.1 vwCl (TY E) s) (hN : NX s) {A : Nat → Prop} (hA : ∀ q : Nat, s.heap.size ≤ q → A q) (j9 : Nat) (x4 : Int32) (x5 : Int32) (x4' : Int32) (hL : lpF (fun u9 : Int32 × Int32 => B_X5_measureShares_23 p1 c_row x3 u9.1 u9.2) j9 (x4, x5) = some x4') (hX : (∀ (H : Heap) (locs : List Loc) (ls : Array Slot), va_P E.1 vwCl (w_X5_measureShares E a_ a_row a_partners a_share a_leftOver c_askedCount c_outcome c_row c_share c_leftOver) H → va_D A (w_X5_measureShares E a_ a_row a_partners a_share a_leftOver c_askedCount c_outcome c_row c_share c_leftOver) → va_S A s.heap H locs → lv_has ls 6 [(0, .ref a_), (1, .int p1), (2, .int x2), (3, .int x3), (4, .int x4')] → W p l e ({ frames := 1, cells := 0, slots := 0, locals := 23 } : Room) s m #[Value.ref a_, Value.int p1] below meth c H locs 0 0 Q (F0 m 63 ls []))) : ∀ (H : Heap) (locs : List Loc) (ls : Array Slot), va_P E.1 vwCl (w_X5_measureShares E a_ a_row a_partners a_share a_leftOver c_askedCount c_outcome c_row c_share c_leftOver) H → va_D A (w_X5_measureShares E a_ a_row a_partners a_share a_leftOver c_askedCount c_outcome c_row c_share c_leftOver) → va_S A s.heap H locs → lv_has ls 6 [(0, .ref a_), (1, .int p1), (2, .int x2), (3, .int x3), (4, .int x4), (5, .int x5)] → W p l e ({ frames := 1, cells := 0, slots := 0, locals := 23 } : Room) s m #[Value.ref a_, Value.int p1] below meth c H locs 0 0 Q (F0 m 23 ls []) := by
  exact lp_rule (P := (fun u9 : Int32 × Int32 => ∀ (H : Heap) (locs : List Loc) (ls : Array Slot), va_P E.1 vwCl (w_X5_measureShares E a_ a_row a_partners a_share a_leftOver c_askedCount c_outcome c_row c_share c_leftOver) H → va_D A (w_X5_measureShares E a_ a_row a_partners a_share a_leftOver c_askedCount c_outcome c_row c_share c_leftOver) → va_S A s.heap H locs → lv_has ls 6 [(0, .ref a_), (1, .int p1), (2, .int x2), (3, .int x3), (4, .int u9.1), (5, .int u9.2)] → W p l e ({ frames := 1, cells := 0, slots := 0, locals := 23 } : Room) s m #[Value.ref a_, Value.int p1] below meth c H locs 0 0 Q (F0 m 23 ls []))) (R := (fun r9 : Int32 => (∀ (H : Heap) (locs : List Loc) (ls : Array Slot), va_P E.1 vwCl (w_X5_measureShares E a_ a_row a_partners a_share a_leftOver c_askedCount c_outcome c_row c_share c_leftOver) H → va_D A (w_X5_measureShares E a_ a_row a_partners a_share a_leftOver c_askedCount c_outcome c_row c_share c_leftOver) → va_S A s.heap H locs → lv_has ls 6 [(0, .ref a_), (1, .int p1), (2, .int x2), (3, .int x3), (4, .int r9)] → W p l e ({ frames := 1, cells := 0, slots := 0, locals := 23 } : Room) s m #[Value.ref a_, Value.int p1] below meth c H locs 0 0 Q (F0 m 63 ls [])))) (fun u9 xx hF hC hE => wb_X5_measureShares_23 l E K (p1 := p1) (c_askedCount := c_askedCount) (c_outcome := c_outcome) (c_row := c_row) (x2 := x2) (x3 := x3) (x4 := u9.1) (x5 := u9.2) (c_share := c_share) (c_leftOver := c_leftOver) hx hb hml hown hts hK hN hA (fun x4 x5 q9 => hC _ q9) (fun x4 q9 => hE _ q9) hF) j9 (x4, x5) x4' hL hX

set_option maxHeartbeats 4000000 in
set_option maxRecDepth 100000 in
theorem wb_X5_measureShares_12 {p : Program} (l : Launch) {e : Env} {s : State} {m : MethodId} {below : List Frame} {meth : Method} {c : Code} {Q : State → Prop} (E : EE) (K : Nat) {a_ a_row a_partners a_share a_leftOver : Nat} {p1 : Int32} {c_askedCount : Int32} {c_outcome : Int32} {c_row : Nat → Int32} {x2 : Int32} {x3 : Int32} {c_share : Nat → Int32} {c_leftOver : Nat → Int32} (hx : p.tables.exec = Jvm.exec) (hb : c.code = cX5_measureShares) (hml : c.maxLocals = 6) (hown : s.vm.findClass RX5 = some m.cls) (hts : ∀ w ∈ v_f_X5_measureShares, w.before #[Value.ref a_, Value.int p1] s = true) (hK : va_K E.1 vwCl (TY E) s) (hN : NX s) {A : Nat → Prop} (hA : ∀ q : Nat, s.heap.size ≤ q → A q) {xx : (Int32 × (Nat → Int32) × (Nat → Int32)) ⊕ ((Nat → Int32) × (Nat → Int32))} (hC : ∀ (x3 : Int32), ∀ (c_share : Nat → Int32), ∀ (c_leftOver : Nat → Int32), xx = .inl (x3, c_share, c_leftOver) → ∀ (H : Heap) (locs : List Loc) (ls : Array Slot), va_P E.1 vwCl (w_X5_measureShares E a_ a_row a_partners a_share a_leftOver c_askedCount c_outcome c_row c_share c_leftOver) H → va_D A (w_X5_measureShares E a_ a_row a_partners a_share a_leftOver c_askedCount c_outcome c_row c_share c_leftOver) → va_S A s.heap H locs → lv_has ls 6 [(0, .ref a_), (1, .int p1), (2, .int x2), (3, .int x3)] → W p l e ({ frames := 1, cells := 0, slots := 0, locals := 23 } : Room) s m #[Value.ref a_, Value.int p1] below meth c H locs 0 0 Q (F0 m 12 ls [])) (hE : ∀ (c_share : Nat → Int32), ∀ (c_leftOver : Nat → Int32), xx = .inr (c_share, c_leftOver) → ((∀ (H : Heap) (locs : List Loc) (ls : Array Slot), va_P E.1 vwCl (w_X5_measureShares E a_ a_row a_partners a_share a_leftOver c_askedCount c_outcome c_row c_share c_leftOver) H → va_D A (w_X5_measureShares E a_ a_row a_partners a_share a_leftOver c_askedCount c_outcome c_row c_share c_leftOver) → va_S A s.heap H locs → lv_has ls 6 [] → W p l e ({ frames := 1, cells := 0, slots := 0, locals := 23 } : Room) s m #[Value.ref a_, Value.int p1] below meth c H locs 0 0 Q (F0 m 93 ls [])))) (hF : B_X5_measureShares_12 K p1 c_row x2 x3 c_share c_leftOver = some xx) : ∀ (H : Heap) (locs : List Loc) (ls : Array Slot), va_P E.1 vwCl (w_X5_measureShares E a_ a_row a_partners a_share a_leftOver c_askedCount c_outcome c_row c_share c_leftOver) H → va_D A (w_X5_measureShares E a_ a_row a_partners a_share a_leftOver c_askedCount c_outcome c_row c_share c_leftOver) → va_S A s.heap H locs → lv_has ls 6 [(0, .ref a_), (1, .int p1), (2, .int x2), (3, .int x3)] → W p l e ({ frames := 1, cells := 0, slots := 0, locals := 23 } : Room) s m #[Value.ref a_, Value.int p1] below meth c H locs 0 0 Q (F0 m 12 ls []) := by
  unfold B_X5_measureShares_12 at hF
  intro H locs ls hP hD hS hl
  replace hP : va_P E.1 vwCl [(a_, .inr (6, [.ref a_row, .ref a_partners, .int c_askedCount, .int c_outcome, .ref a_share, .ref a_leftOver])), (a_row, .inl (E.2.1, 81, .inl c_row)), (a_share, .inl (E.2.1, 2, .inl c_share)), (a_leftOver, .inl (E.2.1, 2, .inl c_leftOver))] H := hP
  replace hD : va_D A [(a_, .inr (6, [.ref a_row, .ref a_partners, .int c_askedCount, .int c_outcome, .ref a_share, .ref a_leftOver])), (a_row, .inl (E.2.1, 81, .inl c_row)), (a_share, .inl (E.2.1, 2, .inl c_share)), (a_leftOver, .inl (E.2.1, 2, .inl c_leftOver))] := hD
  refine lv_iload_n hx hb dX5_measureShares_12 rfl (lv_at hl 3 rfl) ?_
  refine lv_iconst (v := 2) hx hb dX5_measureShares_13 (by decide) ?_
  refine lv_icmp_ge (tgt := 93) hx hb dX5_measureShares_14 (by decide) (fun c_4 => ?_) (fun c_4 => ?_)
  ·
    replace hF := ip c_4 hF
    cases hF
    exact hE c_share c_leftOver rfl H locs ls (hP.sub [0, 1, 2, 3] rfl) (hD.sub [0, 1, 2, 3] (by decide) rfl) hS (lv_sub hl [] rfl)
  ·
    replace hF := inn c_4 hF
    refine lv_iconst (v := 0) hx hb dX5_measureShares_17 (by decide) ?_
    refine lv_istore (lv' := [(4, .int (0 : Int32)), (0, .ref a_), (1, .int p1), (2, .int x2), (3, .int x3)]) hx hb dX5_measureShares_18 hl (by decide) rfl (fun ls hl => ?_)
    refine lv_iconst (v := 0) hx hb dX5_measureShares_20 (by decide) ?_
    refine lv_istore (lv' := [(5, .int (0 : Int32)), (4, .int (0 : Int32)), (0, .ref a_), (1, .int p1), (2, .int x2), (3, .int x3)]) hx hb dX5_measureShares_21 hl (by decide) rfl (fun ls hl => ?_)
    replace hF := bd1_s hF
    obtain ⟨x4_11, hL_12, hF⟩ := hF
    refine lw_X5_measureShares_23 l E K (p1 := p1) (c_askedCount := c_askedCount) (c_outcome := c_outcome) (c_row := c_row) (x2 := x2) (x3 := x3) (c_share := c_share) (c_leftOver := c_leftOver) hx hb hml hown hts hK hN hA K (0 : Int32) (0 : Int32) x4_11 hL_12 ?_ H locs ls (hP.sub [0, 1, 2, 3] rfl) (hD.sub [0, 1, 2, 3] (by decide) rfl) hS (lv_sub hl [2, 3, 4, 5, 1, 0] rfl)
    ·
      intro H locs ls hP hD hS hl
      replace hP : va_P E.1 vwCl [(a_, .inr (6, [.ref a_row, .ref a_partners, .int c_askedCount, .int c_outcome, .ref a_share, .ref a_leftOver])), (a_row, .inl (E.2.1, 81, .inl c_row)), (a_share, .inl (E.2.1, 2, .inl c_share)), (a_leftOver, .inl (E.2.1, 2, .inl c_leftOver))] H := hP
      replace hD : va_D A [(a_, .inr (6, [.ref a_row, .ref a_partners, .int c_askedCount, .int c_outcome, .ref a_share, .ref a_leftOver])), (a_row, .inl (E.2.1, 81, .inl c_row)), (a_share, .inl (E.2.1, 2, .inl c_share)), (a_leftOver, .inl (E.2.1, 2, .inl c_leftOver))] := hD
      refine lv_aload_n hx hb dX5_measureShares_63 rfl (lv_at hl 0 rfl) ?_
      refine gt_X5_4 (v := .ref a_share) hx hb hts i_f_X5_measureShares_X5 hown hK hP 0 rfl (hts (.fieldLink RX5 25 "HushWatch$State" "share" "[I") (List.mem_of_getElem? (i := 1) rfl)) rfl dX5_measureShares_64 ?_
      refine lv_iload_n hx hb dX5_measureShares_67 rfl (lv_at hl 3 rfl) ?_
      refine lv_iload hx hb dX5_measureShares_68 (lv_at hl 4 rfl) ?_
      refine lv_iload_n hx hb dX5_measureShares_70 rfl (lv_at hl 2 rfl) ?_
      replace hF := bd1_s hF
      obtain ⟨r_13, hc_14, hF⟩ := hF
      have hPc : va_P E.1 vwCl [] H := fun k q h => by simp at h
      refine pE_i (va_runS (As := [.int x4_11, .int x2]) (rest := [.int x3, .ref a_share])  ⟨hx, hb, hml, hown, hts⟩ (f_J9_floorDiv_7cf53 l E (p0 := x4_11) (p1 := x2) hc_14) (va_cwS 2 hts g_f_X5_measureShares_f_J9_floorDiv_7cf53_176 rfl rfl rfl hd_J9_floorDiv_7cf53.2 ⟨Nat.le_of_ble_eq_true rfl, Nat.le_of_ble_eq_true rfl⟩) ⟨pP.blind, (pP.pre ⟨hK, hN⟩ hPc)⟩ rfl rfl hl.1 rfl (lv_room (Nat.le_of_ble_eq_true rfl)) dX5_measureShares_71 ⟨Nat.le_of_ble_eq_true rfl, Nat.le_of_ble_eq_true rfl⟩) ?_
      replace hF := ix_s hF
      obtain ⟨hi_15, hF⟩ := hF
      refine va_iast hx hb hK hP hD hS 2 0 rfl rfl hi_15 dX5_measureShares_74 (fun H locs hP hD hS => ?_)
      replace hP : va_P E.1 vwCl [(a_, .inr (6, [.ref a_row, .ref a_partners, .int c_askedCount, .int c_outcome, .ref a_share, .ref a_leftOver])), (a_row, .inl (E.2.1, 81, .inl c_row)), (a_share, .inl (E.2.1, 2, .inl (upd c_share x3.toNatClampNeg r_13))), (a_leftOver, .inl (E.2.1, 2, .inl c_leftOver))] H := hP
      replace hD : va_D A [(a_, .inr (6, [.ref a_row, .ref a_partners, .int c_askedCount, .int c_outcome, .ref a_share, .ref a_leftOver])), (a_row, .inl (E.2.1, 81, .inl c_row)), (a_share, .inl (E.2.1, 2, .inl (upd c_share x3.toNatClampNeg r_13))), (a_leftOver, .inl (E.2.1, 2, .inl c_leftOver))] := hD
      replace hF := nm_s hF
      obtain ⟨f_16, hf_16, hF⟩ := hF
      rw [← hf_16] at hP hD
      refine lv_aload_n hx hb dX5_measureShares_75 rfl (lv_at hl 0 rfl) ?_
      refine gt_X5_5 (v := .ref a_leftOver) hx hb hts i_f_X5_measureShares_X5 hown hK hP 0 rfl (hts (.fieldLink RX5 28 "HushWatch$State" "leftOver" "[I") (List.mem_of_getElem? (i := 2) rfl)) rfl dX5_measureShares_76 ?_
      refine lv_iload_n hx hb dX5_measureShares_79 rfl (lv_at hl 3 rfl) ?_
      refine lv_iload hx hb dX5_measureShares_80 (lv_at hl 4 rfl) ?_
      refine lv_iload_n hx hb dX5_measureShares_82 rfl (lv_at hl 2 rfl) ?_
      replace hF := bd1_s hF
      obtain ⟨r_17, hc_18, hF⟩ := hF
      have hPc : va_P E.1 vwCl [] H := fun k q h => by simp at h
      refine pE_i (va_runS (As := [.int x4_11, .int x2]) (rest := [.int x3, .ref a_leftOver])  ⟨hx, hb, hml, hown, hts⟩ (f_J9_floorMod_7cf53 l E (p0 := x4_11) (p1 := x2) hc_18) (va_cwS 2 hts g_f_X5_measureShares_f_J9_floorMod_7cf53_179 rfl rfl rfl hd_J9_floorMod_7cf53.2 ⟨Nat.le_of_ble_eq_true rfl, Nat.le_of_ble_eq_true rfl⟩) ⟨pP.blind, (pP.pre ⟨hK, hN⟩ hPc)⟩ rfl rfl hl.1 rfl (lv_room (Nat.le_of_ble_eq_true rfl)) dX5_measureShares_83 ⟨Nat.le_of_ble_eq_true rfl, Nat.le_of_ble_eq_true rfl⟩) ?_
      replace hF := ix_s hF
      obtain ⟨hi_19, hF⟩ := hF
      refine va_iast hx hb hK hP hD hS 3 0 rfl rfl hi_19 dX5_measureShares_86 (fun H locs hP hD hS => ?_)
      replace hP : va_P E.1 vwCl [(a_, .inr (6, [.ref a_row, .ref a_partners, .int c_askedCount, .int c_outcome, .ref a_share, .ref a_leftOver])), (a_row, .inl (E.2.1, 81, .inl c_row)), (a_share, .inl (E.2.1, 2, .inl f_16)), (a_leftOver, .inl (E.2.1, 2, .inl (upd c_leftOver x3.toNatClampNeg r_17)))] H := hP
      replace hD : va_D A [(a_, .inr (6, [.ref a_row, .ref a_partners, .int c_askedCount, .int c_outcome, .ref a_share, .ref a_leftOver])), (a_row, .inl (E.2.1, 81, .inl c_row)), (a_share, .inl (E.2.1, 2, .inl f_16)), (a_leftOver, .inl (E.2.1, 2, .inl (upd c_leftOver x3.toNatClampNeg r_17)))] := hD
      replace hF := nm_s hF
      obtain ⟨f_20, hf_20, hF⟩ := hF
      rw [← hf_20] at hP hD
      refine lv_iinc (v := x3 + (1 : Int32)) (lv' := [(3, .int (x3 + (1 : Int32))), (0, .ref a_), (1, .int p1), (2, .int x2), (4, .int x4_11)]) hx hb dX5_measureShares_87 hl (k := 3) rfl (rfl) (by decide) rfl (fun ls hl => ?_)
      refine lv_goto (tgt := 12) hx hb dX5_measureShares_90 (by decide) ?_
      cases hF
      exact hC (x3 + (1 : Int32)) f_16 f_20 rfl H locs ls (hP.sub [0, 1, 2, 3] rfl) (hD.sub [0, 1, 2, 3] (by decide) rfl) hS (lv_sub hl [1, 2, 3, 0] rfl)

set_option maxHeartbeats 4000000 in
set_option maxRecDepth 100000 in
theorem lw_X5_measureShares_12 {p : Program} (l : Launch) {e : Env} {s : State} {m : MethodId} {below : List Frame} {meth : Method} {c : Code} {Q : State → Prop} (E : EE) (K : Nat) {a_ a_row a_partners a_share a_leftOver : Nat} {p1 : Int32} {c_askedCount : Int32} {c_outcome : Int32} {c_row : Nat → Int32} {x2 : Int32} (hx : p.tables.exec = Jvm.exec) (hb : c.code = cX5_measureShares) (hml : c.maxLocals = 6) (hown : s.vm.findClass RX5 = some m.cls) (hts : ∀ w ∈ v_f_X5_measureShares, w.before #[Value.ref a_, Value.int p1] s = true) (hK : va_K E.1 vwCl (TY E) s) (hN : NX s) {A : Nat → Prop} (hA : ∀ q : Nat, s.heap.size ≤ q → A q) (j9 : Nat) (x3 : Int32) (c_share : Nat → Int32) (c_leftOver : Nat → Int32) (c_share' : Nat → Int32) (c_leftOver' : Nat → Int32) (hL : lpF (fun u9 : Int32 × (Nat → Int32) × (Nat → Int32) => B_X5_measureShares_12 K p1 c_row x2 u9.1 u9.2.1 u9.2.2) j9 (x3, c_share, c_leftOver) = some (c_share', c_leftOver')) (hX : (∀ (H : Heap) (locs : List Loc) (ls : Array Slot), va_P E.1 vwCl (w_X5_measureShares E a_ a_row a_partners a_share a_leftOver c_askedCount c_outcome c_row c_share' c_leftOver') H → va_D A (w_X5_measureShares E a_ a_row a_partners a_share a_leftOver c_askedCount c_outcome c_row c_share' c_leftOver') → va_S A s.heap H locs → lv_has ls 6 [] → W p l e ({ frames := 1, cells := 0, slots := 0, locals := 23 } : Room) s m #[Value.ref a_, Value.int p1] below meth c H locs 0 0 Q (F0 m 93 ls []))) : ∀ (H : Heap) (locs : List Loc) (ls : Array Slot), va_P E.1 vwCl (w_X5_measureShares E a_ a_row a_partners a_share a_leftOver c_askedCount c_outcome c_row c_share c_leftOver) H → va_D A (w_X5_measureShares E a_ a_row a_partners a_share a_leftOver c_askedCount c_outcome c_row c_share c_leftOver) → va_S A s.heap H locs → lv_has ls 6 [(0, .ref a_), (1, .int p1), (2, .int x2), (3, .int x3)] → W p l e ({ frames := 1, cells := 0, slots := 0, locals := 23 } : Room) s m #[Value.ref a_, Value.int p1] below meth c H locs 0 0 Q (F0 m 12 ls []) := by
  exact lp_rule (P := (fun u9 : Int32 × (Nat → Int32) × (Nat → Int32) => ∀ (H : Heap) (locs : List Loc) (ls : Array Slot), va_P E.1 vwCl (w_X5_measureShares E a_ a_row a_partners a_share a_leftOver c_askedCount c_outcome c_row u9.2.1 u9.2.2) H → va_D A (w_X5_measureShares E a_ a_row a_partners a_share a_leftOver c_askedCount c_outcome c_row u9.2.1 u9.2.2) → va_S A s.heap H locs → lv_has ls 6 [(0, .ref a_), (1, .int p1), (2, .int x2), (3, .int u9.1)] → W p l e ({ frames := 1, cells := 0, slots := 0, locals := 23 } : Room) s m #[Value.ref a_, Value.int p1] below meth c H locs 0 0 Q (F0 m 12 ls []))) (R := (fun r9 : (Nat → Int32) × (Nat → Int32) => (∀ (H : Heap) (locs : List Loc) (ls : Array Slot), va_P E.1 vwCl (w_X5_measureShares E a_ a_row a_partners a_share a_leftOver c_askedCount c_outcome c_row r9.1 r9.2) H → va_D A (w_X5_measureShares E a_ a_row a_partners a_share a_leftOver c_askedCount c_outcome c_row r9.1 r9.2) → va_S A s.heap H locs → lv_has ls 6 [] → W p l e ({ frames := 1, cells := 0, slots := 0, locals := 23 } : Room) s m #[Value.ref a_, Value.int p1] below meth c H locs 0 0 Q (F0 m 93 ls [])))) (fun u9 xx hF hC hE => wb_X5_measureShares_12 l E K (p1 := p1) (c_askedCount := c_askedCount) (c_outcome := c_outcome) (c_row := c_row) (x2 := x2) (x3 := u9.1) (c_share := u9.2.1) (c_leftOver := u9.2.2) hx hb hml hown hts hK hN hA (fun x3 c_share c_leftOver q9 => hC _ q9) (fun c_share c_leftOver q9 => hE _ q9) hF) j9 (x3, c_share, c_leftOver) (c_share', c_leftOver') hL hX

set_option maxHeartbeats 4000000 in
set_option maxRecDepth 100000 in
theorem f_X5_measureShares (l : Launch) (E : EE) (sz : Nat) (K : Nat) {a_ a_row a_partners a_share a_leftOver : Nat} {p1 : Int32} {c_askedCount : Int32} {c_outcome : Int32} {c_row : Nat → Int32} {c_share : Nat → Int32} {c_leftOver : Nat → Int32} {n_share : Nat → Int32} {n_leftOver : Nat → Int32} (hF : F_X5_measureShares K p1 c_row c_share c_leftOver = some (n_share, n_leftOver)) : Met l yX5_measureShares v_f_X5_measureShares (({ frames := 1, cells := 0, slots := 0, locals := 23 } : Room)) (va_Pc [.ref a_, .int p1] (pW E sz (w_X5_measureShares E a_ a_row a_partners a_share a_leftOver c_askedCount c_outcome c_row c_share c_leftOver))) (va_Qv (fun (_u : Unit) => True) (fun (_u : Unit) tt => va_P E.1 vwCl (w_X5_measureShares E a_ a_row a_partners a_share a_leftOver c_askedCount c_outcome c_row n_share n_leftOver) tt.heap ∧ va_D (va_A (w_X5_measureShares E a_ a_row a_partners a_share a_leftOver c_askedCount c_outcome c_row c_share c_leftOver) sz) (w_X5_measureShares E a_ a_row a_partners a_share a_leftOver c_askedCount c_outcome c_row n_share n_leftOver)) (va_A (w_X5_measureShares E a_ a_row a_partners a_share a_leftOver c_askedCount c_outcome c_row c_share c_leftOver) sz)) 0 0 (va_A (w_X5_measureShares E a_ a_row a_partners a_share a_leftOver c_askedCount c_outcome c_row c_share c_leftOver) sz) := by
  refine Met.ofW (cc := cX5_measureShares) (maxL := 6) (ret := none) (by decide) rfl ?_
  intro p e s m args below meth c s₁ B hml hv
  obtain ⟨rfl, hsz, ⟨hK, hN⟩, hP, hD0⟩ := hv
  have hx := B.exec
  have hb := B.bytes
  have hr := B.returns
  have hts := atoms_spec (ws := v_f_X5_measureShares) B.pre
  have hown : s.vm.findClass RX5 = some m.cls := own_of hd_X5_measureShares.1 (findClass_of_methodNamed B.named)
  have hlocks : meth.locks = false := B.notSynchronized
  subst hsz
  have hD := hD0.self (sz := s.heap.size)
  generalize hAe : va_A (w_X5_measureShares E a_ a_row a_partners a_share a_leftOver c_askedCount c_outcome c_row c_share c_leftOver) s.heap.size = A at hD ⊢
  have hA : ∀ q : Nat, s.heap.size ≤ q → A q := fun q h => by rw [← hAe]; exact Or.inr h
  have hS : va_S A s.heap s.heap [] := va_S.rf
  have hl := lv_entry ([.ref a_, .int p1]) (n := 6) (Nat.le_of_ble_eq_true rfl)
  rw [lg_entry_eq]
  generalize (lg_sl ([.ref a_, .int p1]) ++ List.replicate (6 - (lg_sl ([.ref a_, .int p1])).length) Slot.unset).toArray = ls at hl ⊢
  have hl : lv_has ls 6 [(0, .ref a_), (1, .int p1)] := hl
  obtain ⟨Q, hQ⟩ : ∃ Q : State → Prop, Q = MQ below (va_Qv (fun (_u : Unit) => True) (fun (_u : Unit) tt => va_P E.1 vwCl (w_X5_measureShares E a_ a_row a_partners a_share a_leftOver c_askedCount c_outcome c_row n_share n_leftOver) tt.heap ∧ va_D A (w_X5_measureShares E a_ a_row a_partners a_share a_leftOver c_askedCount c_outcome c_row n_share n_leftOver)) A) #[Value.ref a_, Value.int p1] s 0 0 A := ⟨_, rfl⟩
  rw [← hQ]
  change W p l e ({ frames := 1, cells := 0, slots := 0, locals := 23 } : Room) s m #[Value.ref a_, Value.int p1] below meth c s.heap [] 0 0 Q (F0 m 0 ls [])
  suffices hh9 : ∀ (H : Heap) (locs : List Loc), va_P E.1 vwCl (w_X5_measureShares E a_ a_row a_partners a_share a_leftOver c_askedCount c_outcome c_row c_share c_leftOver) H → va_D A (w_X5_measureShares E a_ a_row a_partners a_share a_leftOver c_askedCount c_outcome c_row c_share c_leftOver) → va_S A s.heap H locs → W p l e ({ frames := 1, cells := 0, slots := 0, locals := 23 } : Room) s m #[Value.ref a_, Value.int p1] below meth c H locs 0 0 Q (F0 m 0 ls []) from hh9 s.heap [] hP hD hS
  clear hP hD hS
  intro H locs hP hD hS
  replace hP : va_P E.1 vwCl [(a_, .inr (6, [.ref a_row, .ref a_partners, .int c_askedCount, .int c_outcome, .ref a_share, .ref a_leftOver])), (a_row, .inl (E.2.1, 81, .inl c_row)), (a_share, .inl (E.2.1, 2, .inl c_share)), (a_leftOver, .inl (E.2.1, 2, .inl c_leftOver))] H := hP
  replace hD : va_D A [(a_, .inr (6, [.ref a_row, .ref a_partners, .int c_askedCount, .int c_outcome, .ref a_share, .ref a_leftOver])), (a_row, .inl (E.2.1, 81, .inl c_row)), (a_share, .inl (E.2.1, 2, .inl c_share)), (a_leftOver, .inl (E.2.1, 2, .inl c_leftOver))] := hD
  unfold F_X5_measureShares at hF
  refine lv_iload_n hx hb dX5_measureShares_0 rfl (lv_at hl 1 rfl) ?_
  replace hF := bd1_s hF
  obtain ⟨r_1, hc_2, hF⟩ := hF
  have hPc : va_P E.1 vwCl [] H := fun k q h => by simp at h
  refine pE_i (va_runS (As := [.int p1]) (rest := [])  ⟨hx, hb, hml, hown, hts⟩ (f_J6_bitCount_0f7a4 l E (p0 := p1) hc_2) (va_cwS 1 hts g_f_X5_measureShares_f_J6_bitCount_0f7a4_171 rfl rfl rfl hd_J6_bitCount_0f7a4.2 ⟨Nat.le_of_ble_eq_true rfl, Nat.le_of_ble_eq_true rfl⟩) ⟨pP.blind, (pP.pre ⟨hK, hN⟩ hPc)⟩ rfl rfl hl.1 rfl (lv_room (Nat.le_of_ble_eq_true rfl)) dX5_measureShares_1 ⟨Nat.le_of_ble_eq_true rfl, Nat.le_of_ble_eq_true rfl⟩) ?_
  refine lv_istore_n (lv' := [(2, .int r_1), (0, .ref a_), (1, .int p1)]) hx hb dX5_measureShares_4 rfl hl (by decide) rfl (fun ls hl => ?_)
  refine lv_iload_n hx hb dX5_measureShares_5 rfl (lv_at hl 0 rfl) ?_
  refine lv_if_ne (tgt := 10) hx hb dX5_measureShares_6 (by decide) (fun c_3 => ?_) (fun c_3 => ?_)
  ·
    replace hF := inn c_3 hF
    refine lv_iconst (v := 0) hx hb dX5_measureShares_10 (by decide) ?_
    refine lv_istore_n (lv' := [(3, .int (0 : Int32)), (2, .int r_1), (0, .ref a_), (1, .int p1)]) hx hb dX5_measureShares_11 rfl hl (by decide) rfl (fun ls hl => ?_)
    replace hF := bd2_s hF
    obtain ⟨c_share_21, c_leftOver_22, hL_23, hF⟩ := hF
    refine lw_X5_measureShares_12 l E K (p1 := p1) (c_askedCount := c_askedCount) (c_outcome := c_outcome) (c_row := c_row) (x2 := r_1) hx hb hml hown hts hK hN hA K (0 : Int32) c_share c_leftOver c_share_21 c_leftOver_22 hL_23 ?_ H locs ls (hP.sub [0, 1, 2, 3] rfl) (hD.sub [0, 1, 2, 3] (by decide) rfl) hS (lv_sub hl [2, 3, 1, 0] rfl)
    ·
      intro H locs ls hP hD hS hl
      replace hP : va_P E.1 vwCl [(a_, .inr (6, [.ref a_row, .ref a_partners, .int c_askedCount, .int c_outcome, .ref a_share, .ref a_leftOver])), (a_row, .inl (E.2.1, 81, .inl c_row)), (a_share, .inl (E.2.1, 2, .inl c_share_21)), (a_leftOver, .inl (E.2.1, 2, .inl c_leftOver_22))] H := hP
      replace hD : va_D A [(a_, .inr (6, [.ref a_row, .ref a_partners, .int c_askedCount, .int c_outcome, .ref a_share, .ref a_leftOver])), (a_row, .inl (E.2.1, 81, .inl c_row)), (a_share, .inl (E.2.1, 2, .inl c_share_21)), (a_leftOver, .inl (E.2.1, 2, .inl c_leftOver_22))] := hD
      rw [hQ]
      have h9 := fin9 (P := fun u9 : (Nat → Int32) × (Nat → Int32) => va_P E.1 vwCl (w_X5_measureShares E a_ a_row a_partners a_share a_leftOver c_askedCount c_outcome c_row u9.1 u9.2) H ∧ va_D A (w_X5_measureShares E a_ a_row a_partners a_share a_leftOver c_askedCount c_outcome c_row u9.1 u9.2)) hF ⟨hP, hD⟩
      obtain ⟨hP9, hD9⟩ := h9
      exact W.vret hx hb hr (fun tt ht hW => ⟨⟨(), rfl, trivial, ht ▸ hP9, hD9⟩, hS.F ht⟩) hS.2.2 dX5_measureShares_93
  ·
    replace hF := ip c_3 hF
    rw [hQ]
    have h9 := fin9 (P := fun u9 : (Nat → Int32) × (Nat → Int32) => va_P E.1 vwCl (w_X5_measureShares E a_ a_row a_partners a_share a_leftOver c_askedCount c_outcome c_row u9.1 u9.2) H ∧ va_D A (w_X5_measureShares E a_ a_row a_partners a_share a_leftOver c_askedCount c_outcome c_row u9.1 u9.2)) hF ⟨hP, hD⟩
    obtain ⟨hP9, hD9⟩ := h9
    exact W.vret hx hb hr (fun tt ht hW => ⟨⟨(), rfl, trivial, ht ▸ hP9, hD9⟩, hS.F ht⟩) hS.2.2 dX5_measureShares_9

def F_X5_isAbove (c_row : Nat → Int32) : Option (Int32) :=
  if c_row 6 = (0 : Int32) then some (0 : Int32) else some (1 : Int32)
abbrev w_X5_isAbove (E : EE) (a_ a_row a_partners a_share a_leftOver : Nat) (c_askedCount : Int32) (c_outcome : Int32) (c_row : Nat → Int32) : va_W := [(a_, .inr (6, [.ref a_row, .ref a_partners, .int c_askedCount, .int c_outcome, .ref a_share, .ref a_leftOver])), (a_row, .inl (E.2.1, 81, .inl c_row))]
def v_f_X5_isAbove : List Cond := List.cons (.code yX5_isAbove cX5_isAbove 1 (some .boolean)) (HAppend.hAppend (α := List Cond) (β := List Cond) (γ := List Cond) [.fieldLink RX5 11 "HushWatch$State" "row" "[I"] (HAppend.hAppend (α := List Cond) (β := List Cond) (γ := List Cond) wsX50 []))
theorem gw_f_X5_isAbove : v_f_X5_isAbove.all goodWord = true := by decide +kernel
theorem i_f_X5_isAbove_X5 : ∀ w ∈ wsX50, w ∈ v_f_X5_isAbove := fun _ h => List.mem_cons_of_mem _ (List.mem_append_right _ (List.mem_append_left _ h))
theorem hd_X5_isAbove : yX5_isAbove.cls = RX5 ∧ yX5_isAbove.cls ≠ "java/lang/invoke/MethodHandle" ∧ yX5_isAbove.cls ≠ "java/lang/invoke/VarHandle" ∧ (parseMethodDescriptor yX5_isAbove.desc).map (fun d => d.parameters.length) = some 0 := by decide +kernel
set_option maxHeartbeats 4000000 in
set_option maxRecDepth 100000 in
theorem f_X5_isAbove (l : Launch) (E : EE) {a_ a_row a_partners a_share a_leftOver : Nat} {c_askedCount : Int32} {c_outcome : Int32} {c_row : Nat → Int32} {rr : Int32} (hF : F_X5_isAbove c_row = some rr) : Met l yX5_isAbove v_f_X5_isAbove (({ frames := 0, cells := 0, slots := 0, locals := 0 } : Room)) (va_Pc [.ref a_] (pP E (w_X5_isAbove E a_ a_row a_partners a_share a_leftOver c_askedCount c_outcome c_row))) (vp_Si (fun q : Int32 => q = rr ∧ (q = 0 ∨ q = 1))) 0 0 (fun _ => False) := by
  refine Met.ofW (cc := cX5_isAbove) (maxL := 1) (ret := (some .boolean)) (by decide) rfl ?_
  intro p e s m args below meth c s₁ B hml hv
  obtain ⟨rfl, ⟨hK, hN⟩, hP⟩ := hv
  have hx := B.exec
  have hb := B.bytes
  have hr := B.returns
  have hts := atoms_spec (ws := v_f_X5_isAbove) B.pre
  have hown : s.vm.findClass RX5 = some m.cls := own_of hd_X5_isAbove.1 (findClass_of_methodNamed B.named)
  have hlocks : meth.locks = false := B.notSynchronized
  replace hP : va_P E.1 vwCl [(a_, .inr (6, [.ref a_row, .ref a_partners, .int c_askedCount, .int c_outcome, .ref a_share, .ref a_leftOver])), (a_row, .inl (E.2.1, 81, .inl c_row))] s.heap := hP
  have hl := lv_entry ([.ref a_]) (n := 1) (Nat.le_of_ble_eq_true rfl)
  rw [lg_entry_eq]
  generalize (lg_sl ([.ref a_]) ++ List.replicate (1 - (lg_sl ([.ref a_])).length) Slot.unset).toArray = ls at hl ⊢
  have hl : lv_has ls 1 [(0, .ref a_)] := hl
  obtain ⟨Q, hQ⟩ : ∃ Q : State → Prop, Q = MQ below (vp_Si (fun q : Int32 => q = rr ∧ (q = 0 ∨ q = 1))) #[Value.ref a_] s 0 0 (fun _ => False) := ⟨_, rfl⟩
  rw [← hQ]
  change W p l e ({ frames := 0, cells := 0, slots := 0, locals := 0 } : Room) s m #[Value.ref a_] below meth c s.heap [] 0 0 Q (F0 m 0 ls [])
  unfold F_X5_isAbove at hF
  refine lv_aload_n hx hb dX5_isAbove_0 rfl (lv_at hl 0 rfl) ?_
  refine gt_X5_0 (v := .ref a_row) hx hb hts i_f_X5_isAbove_X5 hown hK hP 0 rfl (hts (.fieldLink RX5 11 "HushWatch$State" "row" "[I") (List.mem_of_getElem? (i := 1) rfl)) rfl dX5_isAbove_1 ?_
  refine lv_bipush (v := 6) hx hb dX5_isAbove_4 (by decide) ?_
  refine va_iald hx hb hK hP 1 0 rfl rfl (vin rfl) dX5_isAbove_6 ?_
  refine W.eq (g2 := F0 m 7 ls [.int (c_row 6)]) rfl ?_
  refine lv_if_eq (tgt := 14) hx hb dX5_isAbove_7 (by decide) (fun c_1 => ?_) (fun c_1 => ?_)
  ·
    replace hF := ip c_1 hF
    refine lv_iconst (v := 0) hx hb dX5_isAbove_14 (by decide) ?_
    rw [hQ]
    obtain e9_0 := inj1 hF
    exact W.zret (v := (0 : Int32)) hx hb hr rfl (fun tt ht hW => ⟨_, rfl, ⟨e9_0, Or.inl rfl⟩, ht⟩) (fun _ h => by cases h) dX5_isAbove_15
  ·
    replace hF := inn c_1 hF
    refine lv_iconst (v := 1) hx hb dX5_isAbove_10 (by decide) ?_
    refine lv_goto (tgt := 15) hx hb dX5_isAbove_11 (by decide) ?_
    rw [hQ]
    obtain e9_0 := inj1 hF
    exact W.zret (v := (1 : Int32)) hx hb hr rfl (fun tt ht hW => ⟨_, rfl, ⟨e9_0, Or.inr rfl⟩, ht⟩) (fun _ h => by cases h) dX5_isAbove_15

def F_X5_isQuietDrift (p1 : Int32) (p2 : Int32) (c_row : Nat → Int32) : Option (Int32) :=
  bd1 (F_X5_isAbove c_row) (fun r_1 => if r_1 = (0 : Int32) then bd1 (F_X5_valueOf (((c_row 4) + ((c_row 3) * p1)).toInt64) (((c_row 5) + ((c_row 3) * p2)).toInt64) c_row) (fun r_5 => if (0 : Int32) ≤ lg_cmp r_5 ((c_row 1).toInt64) then some (0 : Int32) else some (1 : Int32)) else if p1 = (0 : Int32) then if p2 = (0 : Int32) then some (1 : Int32) else some (0 : Int32) else some (0 : Int32))
abbrev w_X5_isQuietDrift (E : EE) (a_ a_row a_partners a_share a_leftOver : Nat) (c_askedCount : Int32) (c_outcome : Int32) (c_row : Nat → Int32) : va_W := [(a_, .inr (6, [.ref a_row, .ref a_partners, .int c_askedCount, .int c_outcome, .ref a_share, .ref a_leftOver])), (a_row, .inl (E.2.1, 81, .inl c_row))]
def v_f_X5_isQuietDrift : List Cond := List.cons (.code yX5_isQuietDrift cX5_isQuietDrift 3 (some .boolean)) (HAppend.hAppend (α := List Cond) (β := List Cond) (γ := List Cond) [.fieldLink RX5 11 "HushWatch$State" "row" "[I", .methodLink RX5 83 yX5_isAbove, .instanceMethod yX5_isAbove, .selects RX5 yX5_isAbove yX5_isAbove, .initialized RX5, .methodLink RX5 75 yX5_valueOf, .instanceMethod yX5_valueOf, .selects RX5 yX5_valueOf yX5_valueOf] (HAppend.hAppend (α := List Cond) (β := List Cond) (γ := List Cond) v_f_X5_isAbove (HAppend.hAppend (α := List Cond) (β := List Cond) (γ := List Cond) wsX50 (HAppend.hAppend (α := List Cond) (β := List Cond) (γ := List Cond) v_f_X5_valueOf []))))
theorem gw_f_X5_isQuietDrift : v_f_X5_isQuietDrift.all goodWord = true := by decide +kernel
theorem i_f_X5_isQuietDrift_X5 : ∀ w ∈ wsX50, w ∈ v_f_X5_isQuietDrift := fun _ h => List.mem_cons_of_mem _ (List.mem_append_right _ (List.mem_append_right _ (List.mem_append_left _ h)))
theorem g_f_X5_isQuietDrift_f_X5_isAbove_83 : GoodIn v_f_X5_isQuietDrift (wsV RX5 83 RX5 yX5_isAbove v_f_X5_isAbove) := goodIn_app (goodIn_of _ (by decide +kernel)) (goodIn_sub (fun _ h => List.mem_cons_of_mem _ (List.mem_append_right _ (List.mem_append_left _ h))) gw_f_X5_isAbove)
theorem g_f_X5_isQuietDrift_f_X5_valueOf_75 : GoodIn v_f_X5_isQuietDrift (wsV RX5 75 RX5 yX5_valueOf v_f_X5_valueOf) := goodIn_app (goodIn_of _ (by decide +kernel)) (goodIn_sub (fun _ h => List.mem_cons_of_mem _ (List.mem_append_right _ (List.mem_append_right _ (List.mem_append_right _ (List.mem_append_left _ h))))) gw_f_X5_valueOf)
theorem hd_X5_isQuietDrift : yX5_isQuietDrift.cls = RX5 ∧ yX5_isQuietDrift.cls ≠ "java/lang/invoke/MethodHandle" ∧ yX5_isQuietDrift.cls ≠ "java/lang/invoke/VarHandle" ∧ (parseMethodDescriptor yX5_isQuietDrift.desc).map (fun d => d.parameters.length) = some 2 := by decide +kernel
set_option maxHeartbeats 4000000 in
set_option maxRecDepth 100000 in
theorem f_X5_isQuietDrift (l : Launch) (E : EE) {a_ a_row a_partners a_share a_leftOver : Nat} {p1 : Int32} {p2 : Int32} {c_askedCount : Int32} {c_outcome : Int32} {c_row : Nat → Int32} {rr : Int32} (hF : F_X5_isQuietDrift p1 p2 c_row = some rr) : Met l yX5_isQuietDrift v_f_X5_isQuietDrift (({ frames := 1, cells := 0, slots := 0, locals := 28 } : Room)) (va_Pc [.ref a_, .int p1, .int p2] (pP E (w_X5_isQuietDrift E a_ a_row a_partners a_share a_leftOver c_askedCount c_outcome c_row))) (vp_Si (fun q : Int32 => q = rr ∧ (q = 0 ∨ q = 1))) 0 0 (fun _ => False) := by
  refine Met.ofW (cc := cX5_isQuietDrift) (maxL := 3) (ret := (some .boolean)) (by decide) rfl ?_
  intro p e s m args below meth c s₁ B hml hv
  obtain ⟨rfl, ⟨hK, hN⟩, hP⟩ := hv
  have hx := B.exec
  have hb := B.bytes
  have hr := B.returns
  have hts := atoms_spec (ws := v_f_X5_isQuietDrift) B.pre
  have hown : s.vm.findClass RX5 = some m.cls := own_of hd_X5_isQuietDrift.1 (findClass_of_methodNamed B.named)
  have hlocks : meth.locks = false := B.notSynchronized
  replace hP : va_P E.1 vwCl [(a_, .inr (6, [.ref a_row, .ref a_partners, .int c_askedCount, .int c_outcome, .ref a_share, .ref a_leftOver])), (a_row, .inl (E.2.1, 81, .inl c_row))] s.heap := hP
  have hl := lv_entry ([.ref a_, .int p1, .int p2]) (n := 3) (Nat.le_of_ble_eq_true rfl)
  rw [lg_entry_eq]
  generalize (lg_sl ([.ref a_, .int p1, .int p2]) ++ List.replicate (3 - (lg_sl ([.ref a_, .int p1, .int p2])).length) Slot.unset).toArray = ls at hl ⊢
  have hl : lv_has ls 3 [(0, .ref a_), (1, .int p1), (2, .int p2)] := hl
  obtain ⟨Q, hQ⟩ : ∃ Q : State → Prop, Q = MQ below (vp_Si (fun q : Int32 => q = rr ∧ (q = 0 ∨ q = 1))) #[Value.ref a_, Value.int p1, Value.int p2] s 0 0 (fun _ => False) := ⟨_, rfl⟩
  rw [← hQ]
  change W p l e ({ frames := 1, cells := 0, slots := 0, locals := 28 } : Room) s m #[Value.ref a_, Value.int p1, Value.int p2] below meth c s.heap [] 0 0 Q (F0 m 0 ls [])
  unfold F_X5_isQuietDrift at hF
  refine lv_aload_n hx hb dX5_isQuietDrift_0 rfl (lv_at hl 0 rfl) ?_
  replace hF := bd1_s hF
  obtain ⟨r_1, hc_2, hF⟩ := hF
  have hPc : va_P E.1 vwCl (w_X5_isAbove E a_ a_row a_partners a_share a_leftOver c_askedCount c_outcome c_row) s.heap := hP.sub (ws' := [(a_, .inr (6, [.ref a_row, .ref a_partners, .int c_askedCount, .int c_outcome, .ref a_share, .ref a_leftOver])), (a_row, .inl (E.2.1, 81, .inl c_row))]) [0, 1] rfl
  have hrc := va_recv hK hPc (ci := 6) (q0 := 0) rfl rfl
  refine pE_z (va_runV (As := []) (rest := [])  ⟨hx, hb, hml, hown, hts⟩ (f_X5_isAbove l E (a_ := a_) (a_row := a_row) (a_partners := a_partners) (a_share := a_share) (a_leftOver := a_leftOver) (c_askedCount := c_askedCount) (c_outcome := c_outcome) (c_row := c_row) hc_2) (cwV 0 hts g_f_X5_isQuietDrift_f_X5_isAbove_83 rfl rfl rfl hd_X5_isAbove ⟨Nat.le_of_ble_eq_true rfl, Nat.le_of_ble_eq_true rfl⟩) ⟨pP.blind, hrc, (pP.pre ⟨hK, hN⟩ hPc)⟩ rfl rfl hl.1 rfl (lv_room (Nat.le_of_ble_eq_true rfl)) dX5_isQuietDrift_1 ⟨Nat.le_of_ble_eq_true rfl, Nat.le_of_ble_eq_true rfl⟩) (fun hb_3 => ?_)
  refine lv_if_eq (tgt := 21) hx hb dX5_isQuietDrift_4 (by decide) (fun c_4 => ?_) (fun c_4 => ?_)
  ·
    replace hF := ip c_4 hF
    refine lv_aload_n hx hb dX5_isQuietDrift_21 rfl (lv_at hl 0 rfl) ?_
    refine lv_aload_n hx hb dX5_isQuietDrift_22 rfl (lv_at hl 0 rfl) ?_
    refine gt_X5_0 (v := .ref a_row) hx hb hts i_f_X5_isQuietDrift_X5 hown hK hP 0 rfl (hts (.fieldLink RX5 11 "HushWatch$State" "row" "[I") (List.mem_of_getElem? (i := 1) rfl)) rfl dX5_isQuietDrift_23 ?_
    refine lv_iconst (v := 4) hx hb dX5_isQuietDrift_26 (by decide) ?_
    refine va_iald hx hb hK hP 1 0 rfl rfl (vin rfl) dX5_isQuietDrift_27 ?_
    refine W.eq (g2 := F0 m 28 ls [.int (c_row 4), .ref a_]) rfl ?_
    refine lv_aload_n hx hb dX5_isQuietDrift_28 rfl (lv_at hl 0 rfl) ?_
    refine gt_X5_0 (v := .ref a_row) hx hb hts i_f_X5_isQuietDrift_X5 hown hK hP 0 rfl (hts (.fieldLink RX5 11 "HushWatch$State" "row" "[I") (List.mem_of_getElem? (i := 1) rfl)) rfl dX5_isQuietDrift_29 ?_
    refine lv_iconst (v := 3) hx hb dX5_isQuietDrift_32 (by decide) ?_
    refine va_iald hx hb hK hP 1 0 rfl rfl (vin rfl) dX5_isQuietDrift_33 ?_
    refine W.eq (g2 := F0 m 34 ls [.int (c_row 3), .int (c_row 4), .ref a_]) rfl ?_
    refine lv_iload_n hx hb dX5_isQuietDrift_34 rfl (lv_at hl 1 rfl) ?_
    refine lv_imul hx hb dX5_isQuietDrift_35 ?_
    refine lv_iadd hx hb dX5_isQuietDrift_36 ?_
    refine lv_i2l (v := ((c_row 4) + ((c_row 3) * p1)).toInt64) hx hb dX5_isQuietDrift_37 rfl ?_
    refine lv_aload_n hx hb dX5_isQuietDrift_38 rfl (lv_at hl 0 rfl) ?_
    refine gt_X5_0 (v := .ref a_row) hx hb hts i_f_X5_isQuietDrift_X5 hown hK hP 0 rfl (hts (.fieldLink RX5 11 "HushWatch$State" "row" "[I") (List.mem_of_getElem? (i := 1) rfl)) rfl dX5_isQuietDrift_39 ?_
    refine lv_iconst (v := 5) hx hb dX5_isQuietDrift_42 (by decide) ?_
    refine va_iald hx hb hK hP 1 0 rfl rfl (vin rfl) dX5_isQuietDrift_43 ?_
    refine W.eq (g2 := F0 m 44 ls [.int (c_row 5), .long (((c_row 4) + ((c_row 3) * p1)).toInt64), .ref a_]) rfl ?_
    refine lv_aload_n hx hb dX5_isQuietDrift_44 rfl (lv_at hl 0 rfl) ?_
    refine gt_X5_0 (v := .ref a_row) hx hb hts i_f_X5_isQuietDrift_X5 hown hK hP 0 rfl (hts (.fieldLink RX5 11 "HushWatch$State" "row" "[I") (List.mem_of_getElem? (i := 1) rfl)) rfl dX5_isQuietDrift_45 ?_
    refine lv_iconst (v := 3) hx hb dX5_isQuietDrift_48 (by decide) ?_
    refine va_iald hx hb hK hP 1 0 rfl rfl (vin rfl) dX5_isQuietDrift_49 ?_
    refine W.eq (g2 := F0 m 50 ls [.int (c_row 3), .int (c_row 5), .long (((c_row 4) + ((c_row 3) * p1)).toInt64), .ref a_]) rfl ?_
    refine lv_iload_n hx hb dX5_isQuietDrift_50 rfl (lv_at hl 2 rfl) ?_
    refine lv_imul hx hb dX5_isQuietDrift_51 ?_
    refine lv_iadd hx hb dX5_isQuietDrift_52 ?_
    refine lv_i2l (v := ((c_row 5) + ((c_row 3) * p2)).toInt64) hx hb dX5_isQuietDrift_53 rfl ?_
    replace hF := bd1_s hF
    obtain ⟨r_5, hc_6, hF⟩ := hF
    have hPc : va_P E.1 vwCl (w_X5_valueOf E a_ a_row a_partners a_share a_leftOver c_askedCount c_outcome c_row) s.heap := hP.sub (ws' := [(a_, .inr (6, [.ref a_row, .ref a_partners, .int c_askedCount, .int c_outcome, .ref a_share, .ref a_leftOver])), (a_row, .inl (E.2.1, 81, .inl c_row))]) [0, 1] rfl
    have hrc := va_recv hK hPc (ci := 6) (q0 := 0) rfl rfl
    refine pE_l (va_runV (As := [.long (((c_row 4) + ((c_row 3) * p1)).toInt64), .long (((c_row 5) + ((c_row 3) * p2)).toInt64)]) (rest := [])  ⟨hx, hb, hml, hown, hts⟩ (f_X5_valueOf l E (a_ := a_) (a_row := a_row) (a_partners := a_partners) (a_share := a_share) (a_leftOver := a_leftOver) (p1 := ((c_row 4) + ((c_row 3) * p1)).toInt64) (p2 := ((c_row 5) + ((c_row 3) * p2)).toInt64) (c_askedCount := c_askedCount) (c_outcome := c_outcome) (c_row := c_row) hc_6) (cwV 2 hts g_f_X5_isQuietDrift_f_X5_valueOf_75 rfl rfl rfl hd_X5_valueOf ⟨Nat.le_of_ble_eq_true rfl, Nat.le_of_ble_eq_true rfl⟩) ⟨pP.blind, hrc, (pP.pre ⟨hK, hN⟩ hPc)⟩ rfl rfl hl.1 rfl (lv_room (Nat.le_of_ble_eq_true rfl)) dX5_isQuietDrift_54 ⟨Nat.le_of_ble_eq_true rfl, Nat.le_of_ble_eq_true rfl⟩) ?_
    refine lv_aload_n hx hb dX5_isQuietDrift_57 rfl (lv_at hl 0 rfl) ?_
    refine gt_X5_0 (v := .ref a_row) hx hb hts i_f_X5_isQuietDrift_X5 hown hK hP 0 rfl (hts (.fieldLink RX5 11 "HushWatch$State" "row" "[I") (List.mem_of_getElem? (i := 1) rfl)) rfl dX5_isQuietDrift_58 ?_
    refine lv_iconst (v := 1) hx hb dX5_isQuietDrift_61 (by decide) ?_
    refine va_iald hx hb hK hP 1 0 rfl rfl (vin rfl) dX5_isQuietDrift_62 ?_
    refine W.eq (g2 := F0 m 63 ls [.int (c_row 1), .long r_5]) rfl ?_
    refine lv_i2l (v := (c_row 1).toInt64) hx hb dX5_isQuietDrift_63 rfl ?_
    refine W.lcmp hx hb dX5_isQuietDrift_64 ?_
    refine lv_if_ge (tgt := 72) hx hb dX5_isQuietDrift_65 (by decide) (fun c_7 => ?_) (fun c_7 => ?_)
    ·
      replace hF := ip c_7 hF
      refine lv_iconst (v := 0) hx hb dX5_isQuietDrift_72 (by decide) ?_
      rw [hQ]
      obtain e9_0 := inj1 hF
      exact W.zret (v := (0 : Int32)) hx hb hr rfl (fun tt ht hW => ⟨_, rfl, ⟨e9_0, Or.inl rfl⟩, ht⟩) (fun _ h => by cases h) dX5_isQuietDrift_73
    ·
      replace hF := inn c_7 hF
      refine lv_iconst (v := 1) hx hb dX5_isQuietDrift_68 (by decide) ?_
      refine lv_goto (tgt := 73) hx hb dX5_isQuietDrift_69 (by decide) ?_
      rw [hQ]
      obtain e9_0 := inj1 hF
      exact W.zret (v := (1 : Int32)) hx hb hr rfl (fun tt ht hW => ⟨_, rfl, ⟨e9_0, Or.inr rfl⟩, ht⟩) (fun _ h => by cases h) dX5_isQuietDrift_73
  ·
    replace hF := inn c_4 hF
    refine lv_iload_n hx hb dX5_isQuietDrift_7 rfl (lv_at hl 1 rfl) ?_
    refine lv_if_ne (tgt := 19) hx hb dX5_isQuietDrift_8 (by decide) (fun c_8 => ?_) (fun c_8 => ?_)
    ·
      replace hF := inn c_8 hF
      refine lv_iconst (v := 0) hx hb dX5_isQuietDrift_19 (by decide) ?_
      rw [hQ]
      obtain e9_0 := inj1 hF
      exact W.zret (v := (0 : Int32)) hx hb hr rfl (fun tt ht hW => ⟨_, rfl, ⟨e9_0, Or.inl rfl⟩, ht⟩) (fun _ h => by cases h) dX5_isQuietDrift_20
    ·
      replace hF := ip c_8 hF
      refine lv_iload_n hx hb dX5_isQuietDrift_11 rfl (lv_at hl 2 rfl) ?_
      refine lv_if_ne (tgt := 19) hx hb dX5_isQuietDrift_12 (by decide) (fun c_9 => ?_) (fun c_9 => ?_)
      ·
        replace hF := inn c_9 hF
        refine lv_iconst (v := 0) hx hb dX5_isQuietDrift_19 (by decide) ?_
        rw [hQ]
        obtain e9_0 := inj1 hF
        exact W.zret (v := (0 : Int32)) hx hb hr rfl (fun tt ht hW => ⟨_, rfl, ⟨e9_0, Or.inl rfl⟩, ht⟩) (fun _ h => by cases h) dX5_isQuietDrift_20
      ·
        replace hF := ip c_9 hF
        refine lv_iconst (v := 1) hx hb dX5_isQuietDrift_15 (by decide) ?_
        refine lv_goto (tgt := 20) hx hb dX5_isQuietDrift_16 (by decide) ?_
        rw [hQ]
        obtain e9_0 := inj1 hF
        exact W.zret (v := (1 : Int32)) hx hb hr rfl (fun tt ht hW => ⟨_, rfl, ⟨e9_0, Or.inr rfl⟩, ht⟩) (fun _ h => by cases h) dX5_isQuietDrift_20
