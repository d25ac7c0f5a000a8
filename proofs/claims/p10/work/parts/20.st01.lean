-- 20.st01
section
def dl_X5_aloneToGoal_20_st01_0 : List (Nat × Instr × Nat) := [(50, .iload 10, 2), (52, .sipush 9999, 3), (55, .if_icmp .ge 81, 3), (58, .iload 9, 2), (60, .ifCond .le 76, 3), (63, .aload_n 0, 1), (64, .getfield 11, 3), (67, .iconst 3, 1), (68, .iaload, 1), (69, .iload 6, 2), (71, .isub, 1), (72, .istore 11, 2), (74, .iload 11, 2), (76, .iload 9, 2), (78, .imul, 1), (79, .iload 5, 2), (81, .isub, 1), (82, .istore 12, 2), (84, .iload 7, 2), (86, .iload 12, 2), (88, .iadd, 1), (89, .istore 7, 2), (91, .iload 4, 2), (93, .iload 12, 2), (95, .iadd, 1), (96, .istore 4, 2), (98, .iload 8, 2), (100, .iload 11, 2), (102, .iconst 2, 1), (103, .aload_n 0, 1), (104, .getfield 11, 3), (107, .iconst 3, 1), (108, .iaload, 1), (109, .imul, 1), (110, .iadd, 1), (111, .iadd, 1), (112, .istore 8, 2), (114, .iload 4, 2), (116, .istore_n 3, 1), (117, .iconst 0, 1), (118, .istore 5, 2), (120, .iconst 0, 1), (121, .istore 6, 2), (123, .aload_n 0, 1), (124, .iload_n 3, 1), (125, .invokevirtual 182, 3), (128, .istore 9, 2), (130, .iinc 10 1, 3), (133, .goto (-83), 3), (136, .aload_n 0, 1)]
set_option maxRecDepth 100000 in
theorem dall_X5_aloneToGoal_20_st01_0 : dchk cX5_aloneToGoal dl_X5_aloneToGoal_20_st01_0 = true := by decide +kernel
theorem dX5_aloneToGoal_50 : decode cX5_aloneToGoal 50 = .ok (.iload 10, 2) := dchk_at dall_X5_aloneToGoal_20_st01_0 (k := 0) rfl
theorem dX5_aloneToGoal_52 : decode cX5_aloneToGoal 52 = .ok (.sipush 9999, 3) := dchk_at dall_X5_aloneToGoal_20_st01_0 (k := 1) rfl
theorem dX5_aloneToGoal_55 : decode cX5_aloneToGoal 55 = .ok (.if_icmp .ge 81, 3) := dchk_at dall_X5_aloneToGoal_20_st01_0 (k := 2) rfl
theorem dX5_aloneToGoal_58 : decode cX5_aloneToGoal 58 = .ok (.iload 9, 2) := dchk_at dall_X5_aloneToGoal_20_st01_0 (k := 3) rfl
theorem dX5_aloneToGoal_60 : decode cX5_aloneToGoal 60 = .ok (.ifCond .le 76, 3) := dchk_at dall_X5_aloneToGoal_20_st01_0 (k := 4) rfl
theorem dX5_aloneToGoal_63 : decode cX5_aloneToGoal 63 = .ok (.aload_n 0, 1) := dchk_at dall_X5_aloneToGoal_20_st01_0 (k := 5) rfl
theorem dX5_aloneToGoal_64 : decode cX5_aloneToGoal 64 = .ok (.getfield 11, 3) := dchk_at dall_X5_aloneToGoal_20_st01_0 (k := 6) rfl
theorem dX5_aloneToGoal_67 : decode cX5_aloneToGoal 67 = .ok (.iconst 3, 1) := dchk_at dall_X5_aloneToGoal_20_st01_0 (k := 7) rfl
theorem dX5_aloneToGoal_68 : decode cX5_aloneToGoal 68 = .ok (.iaload, 1) := dchk_at dall_X5_aloneToGoal_20_st01_0 (k := 8) rfl
theorem dX5_aloneToGoal_69 : decode cX5_aloneToGoal 69 = .ok (.iload 6, 2) := dchk_at dall_X5_aloneToGoal_20_st01_0 (k := 9) rfl
theorem dX5_aloneToGoal_71 : decode cX5_aloneToGoal 71 = .ok (.isub, 1) := dchk_at dall_X5_aloneToGoal_20_st01_0 (k := 10) rfl
theorem dX5_aloneToGoal_72 : decode cX5_aloneToGoal 72 = .ok (.istore 11, 2) := dchk_at dall_X5_aloneToGoal_20_st01_0 (k := 11) rfl
theorem dX5_aloneToGoal_74 : decode cX5_aloneToGoal 74 = .ok (.iload 11, 2) := dchk_at dall_X5_aloneToGoal_20_st01_0 (k := 12) rfl
theorem dX5_aloneToGoal_76 : decode cX5_aloneToGoal 76 = .ok (.iload 9, 2) := dchk_at dall_X5_aloneToGoal_20_st01_0 (k := 13) rfl
theorem dX5_aloneToGoal_78 : decode cX5_aloneToGoal 78 = .ok (.imul, 1) := dchk_at dall_X5_aloneToGoal_20_st01_0 (k := 14) rfl
theorem dX5_aloneToGoal_79 : decode cX5_aloneToGoal 79 = .ok (.iload 5, 2) := dchk_at dall_X5_aloneToGoal_20_st01_0 (k := 15) rfl
theorem dX5_aloneToGoal_81 : decode cX5_aloneToGoal 81 = .ok (.isub, 1) := dchk_at dall_X5_aloneToGoal_20_st01_0 (k := 16) rfl
theorem dX5_aloneToGoal_82 : decode cX5_aloneToGoal 82 = .ok (.istore 12, 2) := dchk_at dall_X5_aloneToGoal_20_st01_0 (k := 17) rfl
theorem dX5_aloneToGoal_84 : decode cX5_aloneToGoal 84 = .ok (.iload 7, 2) := dchk_at dall_X5_aloneToGoal_20_st01_0 (k := 18) rfl
theorem dX5_aloneToGoal_86 : decode cX5_aloneToGoal 86 = .ok (.iload 12, 2) := dchk_at dall_X5_aloneToGoal_20_st01_0 (k := 19) rfl
theorem dX5_aloneToGoal_88 : decode cX5_aloneToGoal 88 = .ok (.iadd, 1) := dchk_at dall_X5_aloneToGoal_20_st01_0 (k := 20) rfl
theorem dX5_aloneToGoal_89 : decode cX5_aloneToGoal 89 = .ok (.istore 7, 2) := dchk_at dall_X5_aloneToGoal_20_st01_0 (k := 21) rfl
theorem dX5_aloneToGoal_91 : decode cX5_aloneToGoal 91 = .ok (.iload 4, 2) := dchk_at dall_X5_aloneToGoal_20_st01_0 (k := 22) rfl
theorem dX5_aloneToGoal_93 : decode cX5_aloneToGoal 93 = .ok (.iload 12, 2) := dchk_at dall_X5_aloneToGoal_20_st01_0 (k := 23) rfl
theorem dX5_aloneToGoal_95 : decode cX5_aloneToGoal 95 = .ok (.iadd, 1) := dchk_at dall_X5_aloneToGoal_20_st01_0 (k := 24) rfl
theorem dX5_aloneToGoal_96 : decode cX5_aloneToGoal 96 = .ok (.istore 4, 2) := dchk_at dall_X5_aloneToGoal_20_st01_0 (k := 25) rfl
theorem dX5_aloneToGoal_98 : decode cX5_aloneToGoal 98 = .ok (.iload 8, 2) := dchk_at dall_X5_aloneToGoal_20_st01_0 (k := 26) rfl
theorem dX5_aloneToGoal_100 : decode cX5_aloneToGoal 100 = .ok (.iload 11, 2) := dchk_at dall_X5_aloneToGoal_20_st01_0 (k := 27) rfl
theorem dX5_aloneToGoal_102 : decode cX5_aloneToGoal 102 = .ok (.iconst 2, 1) := dchk_at dall_X5_aloneToGoal_20_st01_0 (k := 28) rfl
theorem dX5_aloneToGoal_103 : decode cX5_aloneToGoal 103 = .ok (.aload_n 0, 1) := dchk_at dall_X5_aloneToGoal_20_st01_0 (k := 29) rfl
theorem dX5_aloneToGoal_104 : decode cX5_aloneToGoal 104 = .ok (.getfield 11, 3) := dchk_at dall_X5_aloneToGoal_20_st01_0 (k := 30) rfl
theorem dX5_aloneToGoal_107 : decode cX5_aloneToGoal 107 = .ok (.iconst 3, 1) := dchk_at dall_X5_aloneToGoal_20_st01_0 (k := 31) rfl
theorem dX5_aloneToGoal_108 : decode cX5_aloneToGoal 108 = .ok (.iaload, 1) := dchk_at dall_X5_aloneToGoal_20_st01_0 (k := 32) rfl
theorem dX5_aloneToGoal_109 : decode cX5_aloneToGoal 109 = .ok (.imul, 1) := dchk_at dall_X5_aloneToGoal_20_st01_0 (k := 33) rfl
theorem dX5_aloneToGoal_110 : decode cX5_aloneToGoal 110 = .ok (.iadd, 1) := dchk_at dall_X5_aloneToGoal_20_st01_0 (k := 34) rfl
theorem dX5_aloneToGoal_111 : decode cX5_aloneToGoal 111 = .ok (.iadd, 1) := dchk_at dall_X5_aloneToGoal_20_st01_0 (k := 35) rfl
theorem dX5_aloneToGoal_112 : decode cX5_aloneToGoal 112 = .ok (.istore 8, 2) := dchk_at dall_X5_aloneToGoal_20_st01_0 (k := 36) rfl
theorem dX5_aloneToGoal_114 : decode cX5_aloneToGoal 114 = .ok (.iload 4, 2) := dchk_at dall_X5_aloneToGoal_20_st01_0 (k := 37) rfl
theorem dX5_aloneToGoal_116 : decode cX5_aloneToGoal 116 = .ok (.istore_n 3, 1) := dchk_at dall_X5_aloneToGoal_20_st01_0 (k := 38) rfl
theorem dX5_aloneToGoal_117 : decode cX5_aloneToGoal 117 = .ok (.iconst 0, 1) := dchk_at dall_X5_aloneToGoal_20_st01_0 (k := 39) rfl
theorem dX5_aloneToGoal_118 : decode cX5_aloneToGoal 118 = .ok (.istore 5, 2) := dchk_at dall_X5_aloneToGoal_20_st01_0 (k := 40) rfl
theorem dX5_aloneToGoal_120 : decode cX5_aloneToGoal 120 = .ok (.iconst 0, 1) := dchk_at dall_X5_aloneToGoal_20_st01_0 (k := 41) rfl
theorem dX5_aloneToGoal_121 : decode cX5_aloneToGoal 121 = .ok (.istore 6, 2) := dchk_at dall_X5_aloneToGoal_20_st01_0 (k := 42) rfl
theorem dX5_aloneToGoal_123 : decode cX5_aloneToGoal 123 = .ok (.aload_n 0, 1) := dchk_at dall_X5_aloneToGoal_20_st01_0 (k := 43) rfl
theorem dX5_aloneToGoal_124 : decode cX5_aloneToGoal 124 = .ok (.iload_n 3, 1) := dchk_at dall_X5_aloneToGoal_20_st01_0 (k := 44) rfl
theorem dX5_aloneToGoal_125 : decode cX5_aloneToGoal 125 = .ok (.invokevirtual 182, 3) := dchk_at dall_X5_aloneToGoal_20_st01_0 (k := 45) rfl
theorem dX5_aloneToGoal_128 : decode cX5_aloneToGoal 128 = .ok (.istore 9, 2) := dchk_at dall_X5_aloneToGoal_20_st01_0 (k := 46) rfl
theorem dX5_aloneToGoal_130 : decode cX5_aloneToGoal 130 = .ok (.iinc 10 1, 3) := dchk_at dall_X5_aloneToGoal_20_st01_0 (k := 47) rfl
theorem dX5_aloneToGoal_133 : decode cX5_aloneToGoal 133 = .ok (.goto (-83), 3) := dchk_at dall_X5_aloneToGoal_20_st01_0 (k := 48) rfl
theorem dX5_aloneToGoal_136 : decode cX5_aloneToGoal 136 = .ok (.aload_n 0, 1) := dchk_at dall_X5_aloneToGoal_20_st01_0 (k := 49) rfl
def dl_X5_aloneToGoal_20_st01_1 : List (Nat × Instr × Nat) := [(137, .getfield 11, 3), (140, .iconst 2, 1), (141, .iaload, 1), (142, .iload_n 3, 1), (143, .isub, 1), (144, .iconst 0, 1), (145, .invokestatic 191, 3), (148, .istore 10, 2), (150, .iload_n 2, 1), (151, .ifCond .eq 8, 3), (159, .iload 7, 2), (161, .iload 10, 2), (163, .iadd, 1), (164, .ireturn, 1), (154, .iload 8, 2), (156, .goto 5, 3), (0, .aload_n 0, 1), (1, .getfield 11, 3), (4, .bipush 8, 2), (6, .iaload, 1), (7, .istore_n 3, 1), (8, .aload_n 0, 1), (9, .bipush 6, 2), (11, .invokevirtual 188, 3), (14, .istore 4, 2), (16, .aload_n 0, 1), (17, .iload_n 1, 1), (18, .bipush 7, 2), (20, .invokevirtual 69, 3), (23, .istore 5, 2), (25, .aload_n 0, 1), (26, .getfield 11, 3), (29, .bipush 9, 2), (31, .iaload, 1), (32, .istore 6, 2), (34, .iconst 0, 1), (35, .istore 7, 2), (37, .iconst 0, 1), (38, .istore 8, 2), (40, .aload_n 0, 1), (41, .iload_n 3, 1), (42, .invokevirtual 182, 3), (45, .istore 9, 2), (47, .iconst 0, 1), (48, .istore 10, 2)]
set_option maxRecDepth 100000 in
theorem dall_X5_aloneToGoal_20_st01_1 : dchk cX5_aloneToGoal dl_X5_aloneToGoal_20_st01_1 = true := by decide +kernel
theorem dX5_aloneToGoal_137 : decode cX5_aloneToGoal 137 = .ok (.getfield 11, 3) := dchk_at dall_X5_aloneToGoal_20_st01_1 (k := 0) rfl
theorem dX5_aloneToGoal_140 : decode cX5_aloneToGoal 140 = .ok (.iconst 2, 1) := dchk_at dall_X5_aloneToGoal_20_st01_1 (k := 1) rfl
theorem dX5_aloneToGoal_141 : decode cX5_aloneToGoal 141 = .ok (.iaload, 1) := dchk_at dall_X5_aloneToGoal_20_st01_1 (k := 2) rfl
theorem dX5_aloneToGoal_142 : decode cX5_aloneToGoal 142 = .ok (.iload_n 3, 1) := dchk_at dall_X5_aloneToGoal_20_st01_1 (k := 3) rfl
theorem dX5_aloneToGoal_143 : decode cX5_aloneToGoal 143 = .ok (.isub, 1) := dchk_at dall_X5_aloneToGoal_20_st01_1 (k := 4) rfl
theorem dX5_aloneToGoal_144 : decode cX5_aloneToGoal 144 = .ok (.iconst 0, 1) := dchk_at dall_X5_aloneToGoal_20_st01_1 (k := 5) rfl
theorem dX5_aloneToGoal_145 : decode cX5_aloneToGoal 145 = .ok (.invokestatic 191, 3) := dchk_at dall_X5_aloneToGoal_20_st01_1 (k := 6) rfl
theorem dX5_aloneToGoal_148 : decode cX5_aloneToGoal 148 = .ok (.istore 10, 2) := dchk_at dall_X5_aloneToGoal_20_st01_1 (k := 7) rfl
theorem dX5_aloneToGoal_150 : decode cX5_aloneToGoal 150 = .ok (.iload_n 2, 1) := dchk_at dall_X5_aloneToGoal_20_st01_1 (k := 8) rfl
theorem dX5_aloneToGoal_151 : decode cX5_aloneToGoal 151 = .ok (.ifCond .eq 8, 3) := dchk_at dall_X5_aloneToGoal_20_st01_1 (k := 9) rfl
theorem dX5_aloneToGoal_159 : decode cX5_aloneToGoal 159 = .ok (.iload 7, 2) := dchk_at dall_X5_aloneToGoal_20_st01_1 (k := 10) rfl
theorem dX5_aloneToGoal_161 : decode cX5_aloneToGoal 161 = .ok (.iload 10, 2) := dchk_at dall_X5_aloneToGoal_20_st01_1 (k := 11) rfl
theorem dX5_aloneToGoal_163 : decode cX5_aloneToGoal 163 = .ok (.iadd, 1) := dchk_at dall_X5_aloneToGoal_20_st01_1 (k := 12) rfl
theorem dX5_aloneToGoal_164 : decode cX5_aloneToGoal 164 = .ok (.ireturn, 1) := dchk_at dall_X5_aloneToGoal_20_st01_1 (k := 13) rfl
theorem dX5_aloneToGoal_154 : decode cX5_aloneToGoal 154 = .ok (.iload 8, 2) := dchk_at dall_X5_aloneToGoal_20_st01_1 (k := 14) rfl
theorem dX5_aloneToGoal_156 : decode cX5_aloneToGoal 156 = .ok (.goto 5, 3) := dchk_at dall_X5_aloneToGoal_20_st01_1 (k := 15) rfl
theorem dX5_aloneToGoal_0 : decode cX5_aloneToGoal 0 = .ok (.aload_n 0, 1) := dchk_at dall_X5_aloneToGoal_20_st01_1 (k := 16) rfl
theorem dX5_aloneToGoal_1 : decode cX5_aloneToGoal 1 = .ok (.getfield 11, 3) := dchk_at dall_X5_aloneToGoal_20_st01_1 (k := 17) rfl
theorem dX5_aloneToGoal_4 : decode cX5_aloneToGoal 4 = .ok (.bipush 8, 2) := dchk_at dall_X5_aloneToGoal_20_st01_1 (k := 18) rfl
theorem dX5_aloneToGoal_6 : decode cX5_aloneToGoal 6 = .ok (.iaload, 1) := dchk_at dall_X5_aloneToGoal_20_st01_1 (k := 19) rfl
theorem dX5_aloneToGoal_7 : decode cX5_aloneToGoal 7 = .ok (.istore_n 3, 1) := dchk_at dall_X5_aloneToGoal_20_st01_1 (k := 20) rfl
theorem dX5_aloneToGoal_8 : decode cX5_aloneToGoal 8 = .ok (.aload_n 0, 1) := dchk_at dall_X5_aloneToGoal_20_st01_1 (k := 21) rfl
theorem dX5_aloneToGoal_9 : decode cX5_aloneToGoal 9 = .ok (.bipush 6, 2) := dchk_at dall_X5_aloneToGoal_20_st01_1 (k := 22) rfl
theorem dX5_aloneToGoal_11 : decode cX5_aloneToGoal 11 = .ok (.invokevirtual 188, 3) := dchk_at dall_X5_aloneToGoal_20_st01_1 (k := 23) rfl
theorem dX5_aloneToGoal_14 : decode cX5_aloneToGoal 14 = .ok (.istore 4, 2) := dchk_at dall_X5_aloneToGoal_20_st01_1 (k := 24) rfl
theorem dX5_aloneToGoal_16 : decode cX5_aloneToGoal 16 = .ok (.aload_n 0, 1) := dchk_at dall_X5_aloneToGoal_20_st01_1 (k := 25) rfl
theorem dX5_aloneToGoal_17 : decode cX5_aloneToGoal 17 = .ok (.iload_n 1, 1) := dchk_at dall_X5_aloneToGoal_20_st01_1 (k := 26) rfl
theorem dX5_aloneToGoal_18 : decode cX5_aloneToGoal 18 = .ok (.bipush 7, 2) := dchk_at dall_X5_aloneToGoal_20_st01_1 (k := 27) rfl
theorem dX5_aloneToGoal_20 : decode cX5_aloneToGoal 20 = .ok (.invokevirtual 69, 3) := dchk_at dall_X5_aloneToGoal_20_st01_1 (k := 28) rfl
theorem dX5_aloneToGoal_23 : decode cX5_aloneToGoal 23 = .ok (.istore 5, 2) := dchk_at dall_X5_aloneToGoal_20_st01_1 (k := 29) rfl
theorem dX5_aloneToGoal_25 : decode cX5_aloneToGoal 25 = .ok (.aload_n 0, 1) := dchk_at dall_X5_aloneToGoal_20_st01_1 (k := 30) rfl
theorem dX5_aloneToGoal_26 : decode cX5_aloneToGoal 26 = .ok (.getfield 11, 3) := dchk_at dall_X5_aloneToGoal_20_st01_1 (k := 31) rfl
theorem dX5_aloneToGoal_29 : decode cX5_aloneToGoal 29 = .ok (.bipush 9, 2) := dchk_at dall_X5_aloneToGoal_20_st01_1 (k := 32) rfl
theorem dX5_aloneToGoal_31 : decode cX5_aloneToGoal 31 = .ok (.iaload, 1) := dchk_at dall_X5_aloneToGoal_20_st01_1 (k := 33) rfl
theorem dX5_aloneToGoal_32 : decode cX5_aloneToGoal 32 = .ok (.istore 6, 2) := dchk_at dall_X5_aloneToGoal_20_st01_1 (k := 34) rfl
theorem dX5_aloneToGoal_34 : decode cX5_aloneToGoal 34 = .ok (.iconst 0, 1) := dchk_at dall_X5_aloneToGoal_20_st01_1 (k := 35) rfl
theorem dX5_aloneToGoal_35 : decode cX5_aloneToGoal 35 = .ok (.istore 7, 2) := dchk_at dall_X5_aloneToGoal_20_st01_1 (k := 36) rfl
theorem dX5_aloneToGoal_37 : decode cX5_aloneToGoal 37 = .ok (.iconst 0, 1) := dchk_at dall_X5_aloneToGoal_20_st01_1 (k := 37) rfl
theorem dX5_aloneToGoal_38 : decode cX5_aloneToGoal 38 = .ok (.istore 8, 2) := dchk_at dall_X5_aloneToGoal_20_st01_1 (k := 38) rfl
theorem dX5_aloneToGoal_40 : decode cX5_aloneToGoal 40 = .ok (.aload_n 0, 1) := dchk_at dall_X5_aloneToGoal_20_st01_1 (k := 39) rfl
theorem dX5_aloneToGoal_41 : decode cX5_aloneToGoal 41 = .ok (.iload_n 3, 1) := dchk_at dall_X5_aloneToGoal_20_st01_1 (k := 40) rfl
theorem dX5_aloneToGoal_42 : decode cX5_aloneToGoal 42 = .ok (.invokevirtual 182, 3) := dchk_at dall_X5_aloneToGoal_20_st01_1 (k := 41) rfl
theorem dX5_aloneToGoal_45 : decode cX5_aloneToGoal 45 = .ok (.istore 9, 2) := dchk_at dall_X5_aloneToGoal_20_st01_1 (k := 42) rfl
theorem dX5_aloneToGoal_47 : decode cX5_aloneToGoal 47 = .ok (.iconst 0, 1) := dchk_at dall_X5_aloneToGoal_20_st01_1 (k := 43) rfl
theorem dX5_aloneToGoal_48 : decode cX5_aloneToGoal 48 = .ok (.istore 10, 2) := dchk_at dall_X5_aloneToGoal_20_st01_1 (k := 44) rfl
def dl_X5_shareOf_20_st01_0 : List (Nat × Instr × Nat) := [(0, .iload_n 2, 1), (1, .ifCond .lt 8, 3), (9, .iconst 0, 1), (10, .ireturn, 1), (4, .iload_n 2, 1), (5, .iconst 1, 1), (6, .if_icmp .le 5, 3), (11, .iload_n 1, 1), (12, .aload_n 0, 1), (13, .getfield 28, 3), (16, .iload_n 2, 1), (17, .iaload, 1), (18, .if_icmp .ge 14, 3), (32, .aload_n 0, 1), (33, .getfield 25, 3), (36, .iload_n 2, 1), (37, .iaload, 1), (38, .ireturn, 1), (21, .aload_n 0, 1), (22, .getfield 25, 3), (25, .iload_n 2, 1), (26, .iaload, 1), (27, .iconst 1, 1), (28, .iadd, 1), (29, .goto 9, 3)]
set_option maxRecDepth 100000 in
theorem dall_X5_shareOf_20_st01_0 : dchk cX5_shareOf dl_X5_shareOf_20_st01_0 = true := by decide +kernel
theorem dX5_shareOf_0 : decode cX5_shareOf 0 = .ok (.iload_n 2, 1) := dchk_at dall_X5_shareOf_20_st01_0 (k := 0) rfl
theorem dX5_shareOf_1 : decode cX5_shareOf 1 = .ok (.ifCond .lt 8, 3) := dchk_at dall_X5_shareOf_20_st01_0 (k := 1) rfl
theorem dX5_shareOf_9 : decode cX5_shareOf 9 = .ok (.iconst 0, 1) := dchk_at dall_X5_shareOf_20_st01_0 (k := 2) rfl
theorem dX5_shareOf_10 : decode cX5_shareOf 10 = .ok (.ireturn, 1) := dchk_at dall_X5_shareOf_20_st01_0 (k := 3) rfl
theorem dX5_shareOf_4 : decode cX5_shareOf 4 = .ok (.iload_n 2, 1) := dchk_at dall_X5_shareOf_20_st01_0 (k := 4) rfl
theorem dX5_shareOf_5 : decode cX5_shareOf 5 = .ok (.iconst 1, 1) := dchk_at dall_X5_shareOf_20_st01_0 (k := 5) rfl
theorem dX5_shareOf_6 : decode cX5_shareOf 6 = .ok (.if_icmp .le 5, 3) := dchk_at dall_X5_shareOf_20_st01_0 (k := 6) rfl
theorem dX5_shareOf_11 : decode cX5_shareOf 11 = .ok (.iload_n 1, 1) := dchk_at dall_X5_shareOf_20_st01_0 (k := 7) rfl
theorem dX5_shareOf_12 : decode cX5_shareOf 12 = .ok (.aload_n 0, 1) := dchk_at dall_X5_shareOf_20_st01_0 (k := 8) rfl
theorem dX5_shareOf_13 : decode cX5_shareOf 13 = .ok (.getfield 28, 3) := dchk_at dall_X5_shareOf_20_st01_0 (k := 9) rfl
theorem dX5_shareOf_16 : decode cX5_shareOf 16 = .ok (.iload_n 2, 1) := dchk_at dall_X5_shareOf_20_st01_0 (k := 10) rfl
theorem dX5_shareOf_17 : decode cX5_shareOf 17 = .ok (.iaload, 1) := dchk_at dall_X5_shareOf_20_st01_0 (k := 11) rfl
theorem dX5_shareOf_18 : decode cX5_shareOf 18 = .ok (.if_icmp .ge 14, 3) := dchk_at dall_X5_shareOf_20_st01_0 (k := 12) rfl
theorem dX5_shareOf_32 : decode cX5_shareOf 32 = .ok (.aload_n 0, 1) := dchk_at dall_X5_shareOf_20_st01_0 (k := 13) rfl
theorem dX5_shareOf_33 : decode cX5_shareOf 33 = .ok (.getfield 25, 3) := dchk_at dall_X5_shareOf_20_st01_0 (k := 14) rfl
theorem dX5_shareOf_36 : decode cX5_shareOf 36 = .ok (.iload_n 2, 1) := dchk_at dall_X5_shareOf_20_st01_0 (k := 15) rfl
theorem dX5_shareOf_37 : decode cX5_shareOf 37 = .ok (.iaload, 1) := dchk_at dall_X5_shareOf_20_st01_0 (k := 16) rfl
theorem dX5_shareOf_38 : decode cX5_shareOf 38 = .ok (.ireturn, 1) := dchk_at dall_X5_shareOf_20_st01_0 (k := 17) rfl
theorem dX5_shareOf_21 : decode cX5_shareOf 21 = .ok (.aload_n 0, 1) := dchk_at dall_X5_shareOf_20_st01_0 (k := 18) rfl
theorem dX5_shareOf_22 : decode cX5_shareOf 22 = .ok (.getfield 25, 3) := dchk_at dall_X5_shareOf_20_st01_0 (k := 19) rfl
theorem dX5_shareOf_25 : decode cX5_shareOf 25 = .ok (.iload_n 2, 1) := dchk_at dall_X5_shareOf_20_st01_0 (k := 20) rfl
theorem dX5_shareOf_26 : decode cX5_shareOf 26 = .ok (.iaload, 1) := dchk_at dall_X5_shareOf_20_st01_0 (k := 21) rfl
theorem dX5_shareOf_27 : decode cX5_shareOf 27 = .ok (.iconst 1, 1) := dchk_at dall_X5_shareOf_20_st01_0 (k := 22) rfl
theorem dX5_shareOf_28 : decode cX5_shareOf 28 = .ok (.iadd, 1) := dchk_at dall_X5_shareOf_20_st01_0 (k := 23) rfl
theorem dX5_shareOf_29 : decode cX5_shareOf 29 = .ok (.goto 9, 3) := dchk_at dall_X5_shareOf_20_st01_0 (k := 24) rfl
def dl_X5_drift_20_st01_0 : List (Nat × Instr × Nat) := [(0, .iload_n 1, 1), (1, .ifCond .lt 18, 3), (19, .iconst 0, 1), (20, .ireturn, 1), (4, .iload_n 1, 1), (5, .bipush 8, 2), (7, .if_icmp .ge 12, 3), (10, .iload_n 2, 1), (11, .ifCond .lt 8, 3), (14, .iload_n 2, 1), (15, .iconst 1, 1), (16, .if_icmp .le 5, 3), (21, .bipush 17, 2), (23, .iload_n 1, 1), (24, .bipush 8, 2), (26, .imul, 1), (27, .iadd, 1), (28, .iload_n 2, 1), (29, .iadd, 1), (30, .istore_n 3, 1), (31, .aload_n 0, 1), (32, .getfield 11, 3), (35, .iload_n 3, 1), (36, .iconst 0, 1), (37, .iadd, 1), (38, .iaload, 1), (39, .aload_n 0, 1), (40, .getfield 11, 3), (43, .iload_n 3, 1), (44, .iconst 2, 1), (45, .iadd, 1), (46, .iaload, 1), (47, .isub, 1), (48, .aload_n 0, 1), (49, .getfield 11, 3), (52, .iload_n 3, 1), (53, .iconst 4, 1), (54, .iadd, 1), (55, .iaload, 1), (56, .iadd, 1), (57, .ireturn, 1)]
set_option maxRecDepth 100000 in
theorem dall_X5_drift_20_st01_0 : dchk cX5_drift dl_X5_drift_20_st01_0 = true := by decide +kernel
theorem dX5_drift_0 : decode cX5_drift 0 = .ok (.iload_n 1, 1) := dchk_at dall_X5_drift_20_st01_0 (k := 0) rfl
theorem dX5_drift_1 : decode cX5_drift 1 = .ok (.ifCond .lt 18, 3) := dchk_at dall_X5_drift_20_st01_0 (k := 1) rfl
theorem dX5_drift_19 : decode cX5_drift 19 = .ok (.iconst 0, 1) := dchk_at dall_X5_drift_20_st01_0 (k := 2) rfl
theorem dX5_drift_20 : decode cX5_drift 20 = .ok (.ireturn, 1) := dchk_at dall_X5_drift_20_st01_0 (k := 3) rfl
theorem dX5_drift_4 : decode cX5_drift 4 = .ok (.iload_n 1, 1) := dchk_at dall_X5_drift_20_st01_0 (k := 4) rfl
theorem dX5_drift_5 : decode cX5_drift 5 = .ok (.bipush 8, 2) := dchk_at dall_X5_drift_20_st01_0 (k := 5) rfl
theorem dX5_drift_7 : decode cX5_drift 7 = .ok (.if_icmp .ge 12, 3) := dchk_at dall_X5_drift_20_st01_0 (k := 6) rfl
theorem dX5_drift_10 : decode cX5_drift 10 = .ok (.iload_n 2, 1) := dchk_at dall_X5_drift_20_st01_0 (k := 7) rfl
theorem dX5_drift_11 : decode cX5_drift 11 = .ok (.ifCond .lt 8, 3) := dchk_at dall_X5_drift_20_st01_0 (k := 8) rfl
theorem dX5_drift_14 : decode cX5_drift 14 = .ok (.iload_n 2, 1) := dchk_at dall_X5_drift_20_st01_0 (k := 9) rfl
theorem dX5_drift_15 : decode cX5_drift 15 = .ok (.iconst 1, 1) := dchk_at dall_X5_drift_20_st01_0 (k := 10) rfl
theorem dX5_drift_16 : decode cX5_drift 16 = .ok (.if_icmp .le 5, 3) := dchk_at dall_X5_drift_20_st01_0 (k := 11) rfl
theorem dX5_drift_21 : decode cX5_drift 21 = .ok (.bipush 17, 2) := dchk_at dall_X5_drift_20_st01_0 (k := 12) rfl
theorem dX5_drift_23 : decode cX5_drift 23 = .ok (.iload_n 1, 1) := dchk_at dall_X5_drift_20_st01_0 (k := 13) rfl
theorem dX5_drift_24 : decode cX5_drift 24 = .ok (.bipush 8, 2) := dchk_at dall_X5_drift_20_st01_0 (k := 14) rfl
theorem dX5_drift_26 : decode cX5_drift 26 = .ok (.imul, 1) := dchk_at dall_X5_drift_20_st01_0 (k := 15) rfl
theorem dX5_drift_27 : decode cX5_drift 27 = .ok (.iadd, 1) := dchk_at dall_X5_drift_20_st01_0 (k := 16) rfl
theorem dX5_drift_28 : decode cX5_drift 28 = .ok (.iload_n 2, 1) := dchk_at dall_X5_drift_20_st01_0 (k := 17) rfl
theorem dX5_drift_29 : decode cX5_drift 29 = .ok (.iadd, 1) := dchk_at dall_X5_drift_20_st01_0 (k := 18) rfl
theorem dX5_drift_30 : decode cX5_drift 30 = .ok (.istore_n 3, 1) := dchk_at dall_X5_drift_20_st01_0 (k := 19) rfl
theorem dX5_drift_31 : decode cX5_drift 31 = .ok (.aload_n 0, 1) := dchk_at dall_X5_drift_20_st01_0 (k := 20) rfl
theorem dX5_drift_32 : decode cX5_drift 32 = .ok (.getfield 11, 3) := dchk_at dall_X5_drift_20_st01_0 (k := 21) rfl
theorem dX5_drift_35 : decode cX5_drift 35 = .ok (.iload_n 3, 1) := dchk_at dall_X5_drift_20_st01_0 (k := 22) rfl
theorem dX5_drift_36 : decode cX5_drift 36 = .ok (.iconst 0, 1) := dchk_at dall_X5_drift_20_st01_0 (k := 23) rfl
theorem dX5_drift_37 : decode cX5_drift 37 = .ok (.iadd, 1) := dchk_at dall_X5_drift_20_st01_0 (k := 24) rfl
theorem dX5_drift_38 : decode cX5_drift 38 = .ok (.iaload, 1) := dchk_at dall_X5_drift_20_st01_0 (k := 25) rfl
theorem dX5_drift_39 : decode cX5_drift 39 = .ok (.aload_n 0, 1) := dchk_at dall_X5_drift_20_st01_0 (k := 26) rfl
theorem dX5_drift_40 : decode cX5_drift 40 = .ok (.getfield 11, 3) := dchk_at dall_X5_drift_20_st01_0 (k := 27) rfl
theorem dX5_drift_43 : decode cX5_drift 43 = .ok (.iload_n 3, 1) := dchk_at dall_X5_drift_20_st01_0 (k := 28) rfl
theorem dX5_drift_44 : decode cX5_drift 44 = .ok (.iconst 2, 1) := dchk_at dall_X5_drift_20_st01_0 (k := 29) rfl
theorem dX5_drift_45 : decode cX5_drift 45 = .ok (.iadd, 1) := dchk_at dall_X5_drift_20_st01_0 (k := 30) rfl
theorem dX5_drift_46 : decode cX5_drift 46 = .ok (.iaload, 1) := dchk_at dall_X5_drift_20_st01_0 (k := 31) rfl
theorem dX5_drift_47 : decode cX5_drift 47 = .ok (.isub, 1) := dchk_at dall_X5_drift_20_st01_0 (k := 32) rfl
theorem dX5_drift_48 : decode cX5_drift 48 = .ok (.aload_n 0, 1) := dchk_at dall_X5_drift_20_st01_0 (k := 33) rfl
theorem dX5_drift_49 : decode cX5_drift 49 = .ok (.getfield 11, 3) := dchk_at dall_X5_drift_20_st01_0 (k := 34) rfl
theorem dX5_drift_52 : decode cX5_drift 52 = .ok (.iload_n 3, 1) := dchk_at dall_X5_drift_20_st01_0 (k := 35) rfl
theorem dX5_drift_53 : decode cX5_drift 53 = .ok (.iconst 4, 1) := dchk_at dall_X5_drift_20_st01_0 (k := 36) rfl
theorem dX5_drift_54 : decode cX5_drift 54 = .ok (.iadd, 1) := dchk_at dall_X5_drift_20_st01_0 (k := 37) rfl
theorem dX5_drift_55 : decode cX5_drift 55 = .ok (.iaload, 1) := dchk_at dall_X5_drift_20_st01_0 (k := 38) rfl
theorem dX5_drift_56 : decode cX5_drift 56 = .ok (.iadd, 1) := dchk_at dall_X5_drift_20_st01_0 (k := 39) rfl
theorem dX5_drift_57 : decode cX5_drift 57 = .ok (.ireturn, 1) := dchk_at dall_X5_drift_20_st01_0 (k := 40) rfl
def dl_X5_balance_20_st01_0 : List (Nat × Instr × Nat) := [(42, .iload 4, 2), (44, .iconst 2, 1), (45, .if_icmp .ge 47, 3), (48, .aload_n 0, 1), (49, .iload_n 2, 1), (50, .iload 4, 2), (52, .invokevirtual 168, 3), (55, .aload_n 0, 1), (56, .iload_n 3, 1), (57, .iload 4, 2), (59, .invokevirtual 72, 3), (62, .isub, 1), (63, .istore 5, 2), (65, .aload_n 0, 1), (66, .iload_n 3, 1), (67, .iconst 4, 1), (68, .iload 4, 2), (70, .iadd, 1), (71, .aload_n 0, 1), (72, .iload_n 3, 1), (73, .iconst 4, 1), (74, .iload 4, 2), (76, .iadd, 1), (77, .invokevirtual 69, 3), (80, .iload 5, 2), (82, .iadd, 1), (83, .invokevirtual 52, 3), (86, .iinc 4 1, 3), (89, .goto (-47), 3), (20, .iload_n 3, 1), (21, .aload_n 0, 1), (22, .invokevirtual 45, 3), (25, .if_icmp .ge 76, 3), (28, .iload_n 1, 1), (29, .iload_n 3, 1), (30, .ishr, 1), (31, .iconst 1, 1), (32, .iand, 1), (33, .ifCond .ne 6, 3), (39, .iconst 0, 1), (40, .istore 4, 2), (92, .iinc 2 1, 3), (95, .iinc 3 1, 3), (98, .goto (-78), 3), (36, .goto 59, 3), (0, .aload_n 0, 1), (1, .getfield 11, 3), (4, .bipush 13, 2), (6, .dup2, 1), (7, .iaload, 1)]
set_option maxRecDepth 100000 in
theorem dall_X5_balance_20_st01_0 : dchk cX5_balance dl_X5_balance_20_st01_0 = true := by decide +kernel
theorem dX5_balance_42 : decode cX5_balance 42 = .ok (.iload 4, 2) := dchk_at dall_X5_balance_20_st01_0 (k := 0) rfl
theorem dX5_balance_44 : decode cX5_balance 44 = .ok (.iconst 2, 1) := dchk_at dall_X5_balance_20_st01_0 (k := 1) rfl
theorem dX5_balance_45 : decode cX5_balance 45 = .ok (.if_icmp .ge 47, 3) := dchk_at dall_X5_balance_20_st01_0 (k := 2) rfl
theorem dX5_balance_48 : decode cX5_balance 48 = .ok (.aload_n 0, 1) := dchk_at dall_X5_balance_20_st01_0 (k := 3) rfl
theorem dX5_balance_49 : decode cX5_balance 49 = .ok (.iload_n 2, 1) := dchk_at dall_X5_balance_20_st01_0 (k := 4) rfl
theorem dX5_balance_50 : decode cX5_balance 50 = .ok (.iload 4, 2) := dchk_at dall_X5_balance_20_st01_0 (k := 5) rfl
theorem dX5_balance_52 : decode cX5_balance 52 = .ok (.invokevirtual 168, 3) := dchk_at dall_X5_balance_20_st01_0 (k := 6) rfl
theorem dX5_balance_55 : decode cX5_balance 55 = .ok (.aload_n 0, 1) := dchk_at dall_X5_balance_20_st01_0 (k := 7) rfl
theorem dX5_balance_56 : decode cX5_balance 56 = .ok (.iload_n 3, 1) := dchk_at dall_X5_balance_20_st01_0 (k := 8) rfl
theorem dX5_balance_57 : decode cX5_balance 57 = .ok (.iload 4, 2) := dchk_at dall_X5_balance_20_st01_0 (k := 9) rfl
theorem dX5_balance_59 : decode cX5_balance 59 = .ok (.invokevirtual 72, 3) := dchk_at dall_X5_balance_20_st01_0 (k := 10) rfl
theorem dX5_balance_62 : decode cX5_balance 62 = .ok (.isub, 1) := dchk_at dall_X5_balance_20_st01_0 (k := 11) rfl
theorem dX5_balance_63 : decode cX5_balance 63 = .ok (.istore 5, 2) := dchk_at dall_X5_balance_20_st01_0 (k := 12) rfl
theorem dX5_balance_65 : decode cX5_balance 65 = .ok (.aload_n 0, 1) := dchk_at dall_X5_balance_20_st01_0 (k := 13) rfl
theorem dX5_balance_66 : decode cX5_balance 66 = .ok (.iload_n 3, 1) := dchk_at dall_X5_balance_20_st01_0 (k := 14) rfl
theorem dX5_balance_67 : decode cX5_balance 67 = .ok (.iconst 4, 1) := dchk_at dall_X5_balance_20_st01_0 (k := 15) rfl
theorem dX5_balance_68 : decode cX5_balance 68 = .ok (.iload 4, 2) := dchk_at dall_X5_balance_20_st01_0 (k := 16) rfl
theorem dX5_balance_70 : decode cX5_balance 70 = .ok (.iadd, 1) := dchk_at dall_X5_balance_20_st01_0 (k := 17) rfl
theorem dX5_balance_71 : decode cX5_balance 71 = .ok (.aload_n 0, 1) := dchk_at dall_X5_balance_20_st01_0 (k := 18) rfl
theorem dX5_balance_72 : decode cX5_balance 72 = .ok (.iload_n 3, 1) := dchk_at dall_X5_balance_20_st01_0 (k := 19) rfl
theorem dX5_balance_73 : decode cX5_balance 73 = .ok (.iconst 4, 1) := dchk_at dall_X5_balance_20_st01_0 (k := 20) rfl
theorem dX5_balance_74 : decode cX5_balance 74 = .ok (.iload 4, 2) := dchk_at dall_X5_balance_20_st01_0 (k := 21) rfl
theorem dX5_balance_76 : decode cX5_balance 76 = .ok (.iadd, 1) := dchk_at dall_X5_balance_20_st01_0 (k := 22) rfl
theorem dX5_balance_77 : decode cX5_balance 77 = .ok (.invokevirtual 69, 3) := dchk_at dall_X5_balance_20_st01_0 (k := 23) rfl
theorem dX5_balance_80 : decode cX5_balance 80 = .ok (.iload 5, 2) := dchk_at dall_X5_balance_20_st01_0 (k := 24) rfl
theorem dX5_balance_82 : decode cX5_balance 82 = .ok (.iadd, 1) := dchk_at dall_X5_balance_20_st01_0 (k := 25) rfl
theorem dX5_balance_83 : decode cX5_balance 83 = .ok (.invokevirtual 52, 3) := dchk_at dall_X5_balance_20_st01_0 (k := 26) rfl
theorem dX5_balance_86 : decode cX5_balance 86 = .ok (.iinc 4 1, 3) := dchk_at dall_X5_balance_20_st01_0 (k := 27) rfl
theorem dX5_balance_89 : decode cX5_balance 89 = .ok (.goto (-47), 3) := dchk_at dall_X5_balance_20_st01_0 (k := 28) rfl
theorem dX5_balance_20 : decode cX5_balance 20 = .ok (.iload_n 3, 1) := dchk_at dall_X5_balance_20_st01_0 (k := 29) rfl
theorem dX5_balance_21 : decode cX5_balance 21 = .ok (.aload_n 0, 1) := dchk_at dall_X5_balance_20_st01_0 (k := 30) rfl
theorem dX5_balance_22 : decode cX5_balance 22 = .ok (.invokevirtual 45, 3) := dchk_at dall_X5_balance_20_st01_0 (k := 31) rfl
theorem dX5_balance_25 : decode cX5_balance 25 = .ok (.if_icmp .ge 76, 3) := dchk_at dall_X5_balance_20_st01_0 (k := 32) rfl
theorem dX5_balance_28 : decode cX5_balance 28 = .ok (.iload_n 1, 1) := dchk_at dall_X5_balance_20_st01_0 (k := 33) rfl
theorem dX5_balance_29 : decode cX5_balance 29 = .ok (.iload_n 3, 1) := dchk_at dall_X5_balance_20_st01_0 (k := 34) rfl
theorem dX5_balance_30 : decode cX5_balance 30 = .ok (.ishr, 1) := dchk_at dall_X5_balance_20_st01_0 (k := 35) rfl
theorem dX5_balance_31 : decode cX5_balance 31 = .ok (.iconst 1, 1) := dchk_at dall_X5_balance_20_st01_0 (k := 36) rfl
theorem dX5_balance_32 : decode cX5_balance 32 = .ok (.iand, 1) := dchk_at dall_X5_balance_20_st01_0 (k := 37) rfl
theorem dX5_balance_33 : decode cX5_balance 33 = .ok (.ifCond .ne 6, 3) := dchk_at dall_X5_balance_20_st01_0 (k := 38) rfl
theorem dX5_balance_39 : decode cX5_balance 39 = .ok (.iconst 0, 1) := dchk_at dall_X5_balance_20_st01_0 (k := 39) rfl
theorem dX5_balance_40 : decode cX5_balance 40 = .ok (.istore 4, 2) := dchk_at dall_X5_balance_20_st01_0 (k := 40) rfl
theorem dX5_balance_92 : decode cX5_balance 92 = .ok (.iinc 2 1, 3) := dchk_at dall_X5_balance_20_st01_0 (k := 41) rfl
theorem dX5_balance_95 : decode cX5_balance 95 = .ok (.iinc 3 1, 3) := dchk_at dall_X5_balance_20_st01_0 (k := 42) rfl
theorem dX5_balance_98 : decode cX5_balance 98 = .ok (.goto (-78), 3) := dchk_at dall_X5_balance_20_st01_0 (k := 43) rfl
theorem dX5_balance_36 : decode cX5_balance 36 = .ok (.goto 59, 3) := dchk_at dall_X5_balance_20_st01_0 (k := 44) rfl
theorem dX5_balance_0 : decode cX5_balance 0 = .ok (.aload_n 0, 1) := dchk_at dall_X5_balance_20_st01_0 (k := 45) rfl
theorem dX5_balance_1 : decode cX5_balance 1 = .ok (.getfield 11, 3) := dchk_at dall_X5_balance_20_st01_0 (k := 46) rfl
theorem dX5_balance_4 : decode cX5_balance 4 = .ok (.bipush 13, 2) := dchk_at dall_X5_balance_20_st01_0 (k := 47) rfl
theorem dX5_balance_6 : decode cX5_balance 6 = .ok (.dup2, 1) := dchk_at dall_X5_balance_20_st01_0 (k := 48) rfl
theorem dX5_balance_7 : decode cX5_balance 7 = .ok (.iaload, 1) := dchk_at dall_X5_balance_20_st01_0 (k := 49) rfl
def dl_X5_balance_20_st01_1 : List (Nat × Instr × Nat) := [(8, .iconst 1, 1), (9, .iadd, 1), (10, .iastore, 1), (11, .aload_n 0, 1), (12, .iconst 1, 1), (13, .putfield 22, 3), (16, .iconst 0, 1), (17, .istore_n 2, 1), (18, .iconst 0, 1), (19, .istore_n 3, 1), (101, .iconst 1, 1), (102, .iconst 2, 1), (103, .aload_n 0, 1), (104, .getfield 18, 3), (107, .imul, 1), (108, .iadd, 1), (109, .iload_n 2, 1), (110, .iadd, 1), (111, .ireturn, 1)]
set_option maxRecDepth 100000 in
theorem dall_X5_balance_20_st01_1 : dchk cX5_balance dl_X5_balance_20_st01_1 = true := by decide +kernel
theorem dX5_balance_8 : decode cX5_balance 8 = .ok (.iconst 1, 1) := dchk_at dall_X5_balance_20_st01_1 (k := 0) rfl
theorem dX5_balance_9 : decode cX5_balance 9 = .ok (.iadd, 1) := dchk_at dall_X5_balance_20_st01_1 (k := 1) rfl
theorem dX5_balance_10 : decode cX5_balance 10 = .ok (.iastore, 1) := dchk_at dall_X5_balance_20_st01_1 (k := 2) rfl
theorem dX5_balance_11 : decode cX5_balance 11 = .ok (.aload_n 0, 1) := dchk_at dall_X5_balance_20_st01_1 (k := 3) rfl
theorem dX5_balance_12 : decode cX5_balance 12 = .ok (.iconst 1, 1) := dchk_at dall_X5_balance_20_st01_1 (k := 4) rfl
theorem dX5_balance_13 : decode cX5_balance 13 = .ok (.putfield 22, 3) := dchk_at dall_X5_balance_20_st01_1 (k := 5) rfl
theorem dX5_balance_16 : decode cX5_balance 16 = .ok (.iconst 0, 1) := dchk_at dall_X5_balance_20_st01_1 (k := 6) rfl
theorem dX5_balance_17 : decode cX5_balance 17 = .ok (.istore_n 2, 1) := dchk_at dall_X5_balance_20_st01_1 (k := 7) rfl
theorem dX5_balance_18 : decode cX5_balance 18 = .ok (.iconst 0, 1) := dchk_at dall_X5_balance_20_st01_1 (k := 8) rfl
theorem dX5_balance_19 : decode cX5_balance 19 = .ok (.istore_n 3, 1) := dchk_at dall_X5_balance_20_st01_1 (k := 9) rfl
theorem dX5_balance_101 : decode cX5_balance 101 = .ok (.iconst 1, 1) := dchk_at dall_X5_balance_20_st01_1 (k := 10) rfl
theorem dX5_balance_102 : decode cX5_balance 102 = .ok (.iconst 2, 1) := dchk_at dall_X5_balance_20_st01_1 (k := 11) rfl
theorem dX5_balance_103 : decode cX5_balance 103 = .ok (.aload_n 0, 1) := dchk_at dall_X5_balance_20_st01_1 (k := 12) rfl
theorem dX5_balance_104 : decode cX5_balance 104 = .ok (.getfield 18, 3) := dchk_at dall_X5_balance_20_st01_1 (k := 13) rfl
theorem dX5_balance_107 : decode cX5_balance 107 = .ok (.imul, 1) := dchk_at dall_X5_balance_20_st01_1 (k := 14) rfl
theorem dX5_balance_108 : decode cX5_balance 108 = .ok (.iadd, 1) := dchk_at dall_X5_balance_20_st01_1 (k := 15) rfl
theorem dX5_balance_109 : decode cX5_balance 109 = .ok (.iload_n 2, 1) := dchk_at dall_X5_balance_20_st01_1 (k := 16) rfl
theorem dX5_balance_110 : decode cX5_balance 110 = .ok (.iadd, 1) := dchk_at dall_X5_balance_20_st01_1 (k := 17) rfl
theorem dX5_balance_111 : decode cX5_balance 111 = .ok (.ireturn, 1) := dchk_at dall_X5_balance_20_st01_1 (k := 18) rfl
def dl_X5_hearPlaces_20_st01_0 : List (Nat × Instr × Nat) := [(16, .iload_n 1, 1), (17, .aload_n 0, 1), (18, .invokevirtual 45, 3), (21, .if_icmp .ge 77, 3), (24, .aload_n 0, 1), (25, .iload_n 1, 1), (26, .iconst 2, 1), (27, .aload_n 0, 1), (28, .iload_n 1, 1), (29, .iconst 0, 1), (30, .invokevirtual 69, 3), (33, .invokevirtual 52, 3), (36, .aload_n 0, 1), (37, .iload_n 1, 1), (38, .iconst 3, 1), (39, .aload_n 0, 1), (40, .iload_n 1, 1), (41, .iconst 1, 1), (42, .invokevirtual 69, 3), (45, .invokevirtual 52, 3), (48, .aload_n 0, 1), (49, .iload_n 1, 1), (50, .iconst 4, 1), (51, .iconst 0, 1), (52, .invokevirtual 52, 3), (55, .aload_n 0, 1), (56, .iload_n 1, 1), (57, .iconst 5, 1), (58, .iconst 0, 1), (59, .invokevirtual 52, 3), (62, .aload_n 0, 1), (63, .getfield 11, 3), (66, .iconst 4, 1), (67, .dup2, 1), (68, .iaload, 1), (69, .aload_n 0, 1), (70, .iload_n 1, 1), (71, .iconst 0, 1), (72, .invokevirtual 69, 3), (75, .iadd, 1), (76, .iastore, 1), (77, .aload_n 0, 1), (78, .getfield 11, 3), (81, .iconst 5, 1), (82, .dup2, 1), (83, .iaload, 1), (84, .aload_n 0, 1), (85, .iload_n 1, 1), (86, .iconst 1, 1), (87, .invokevirtual 69, 3)]
set_option maxRecDepth 100000 in
theorem dall_X5_hearPlaces_20_st01_0 : dchk cX5_hearPlaces dl_X5_hearPlaces_20_st01_0 = true := by decide +kernel
theorem dX5_hearPlaces_16 : decode cX5_hearPlaces 16 = .ok (.iload_n 1, 1) := dchk_at dall_X5_hearPlaces_20_st01_0 (k := 0) rfl
theorem dX5_hearPlaces_17 : decode cX5_hearPlaces 17 = .ok (.aload_n 0, 1) := dchk_at dall_X5_hearPlaces_20_st01_0 (k := 1) rfl
theorem dX5_hearPlaces_18 : decode cX5_hearPlaces 18 = .ok (.invokevirtual 45, 3) := dchk_at dall_X5_hearPlaces_20_st01_0 (k := 2) rfl
theorem dX5_hearPlaces_21 : decode cX5_hearPlaces 21 = .ok (.if_icmp .ge 77, 3) := dchk_at dall_X5_hearPlaces_20_st01_0 (k := 3) rfl
theorem dX5_hearPlaces_24 : decode cX5_hearPlaces 24 = .ok (.aload_n 0, 1) := dchk_at dall_X5_hearPlaces_20_st01_0 (k := 4) rfl
theorem dX5_hearPlaces_25 : decode cX5_hearPlaces 25 = .ok (.iload_n 1, 1) := dchk_at dall_X5_hearPlaces_20_st01_0 (k := 5) rfl
theorem dX5_hearPlaces_26 : decode cX5_hearPlaces 26 = .ok (.iconst 2, 1) := dchk_at dall_X5_hearPlaces_20_st01_0 (k := 6) rfl
theorem dX5_hearPlaces_27 : decode cX5_hearPlaces 27 = .ok (.aload_n 0, 1) := dchk_at dall_X5_hearPlaces_20_st01_0 (k := 7) rfl
theorem dX5_hearPlaces_28 : decode cX5_hearPlaces 28 = .ok (.iload_n 1, 1) := dchk_at dall_X5_hearPlaces_20_st01_0 (k := 8) rfl
theorem dX5_hearPlaces_29 : decode cX5_hearPlaces 29 = .ok (.iconst 0, 1) := dchk_at dall_X5_hearPlaces_20_st01_0 (k := 9) rfl
theorem dX5_hearPlaces_30 : decode cX5_hearPlaces 30 = .ok (.invokevirtual 69, 3) := dchk_at dall_X5_hearPlaces_20_st01_0 (k := 10) rfl
theorem dX5_hearPlaces_33 : decode cX5_hearPlaces 33 = .ok (.invokevirtual 52, 3) := dchk_at dall_X5_hearPlaces_20_st01_0 (k := 11) rfl
theorem dX5_hearPlaces_36 : decode cX5_hearPlaces 36 = .ok (.aload_n 0, 1) := dchk_at dall_X5_hearPlaces_20_st01_0 (k := 12) rfl
theorem dX5_hearPlaces_37 : decode cX5_hearPlaces 37 = .ok (.iload_n 1, 1) := dchk_at dall_X5_hearPlaces_20_st01_0 (k := 13) rfl
theorem dX5_hearPlaces_38 : decode cX5_hearPlaces 38 = .ok (.iconst 3, 1) := dchk_at dall_X5_hearPlaces_20_st01_0 (k := 14) rfl
theorem dX5_hearPlaces_39 : decode cX5_hearPlaces 39 = .ok (.aload_n 0, 1) := dchk_at dall_X5_hearPlaces_20_st01_0 (k := 15) rfl
theorem dX5_hearPlaces_40 : decode cX5_hearPlaces 40 = .ok (.iload_n 1, 1) := dchk_at dall_X5_hearPlaces_20_st01_0 (k := 16) rfl
theorem dX5_hearPlaces_41 : decode cX5_hearPlaces 41 = .ok (.iconst 1, 1) := dchk_at dall_X5_hearPlaces_20_st01_0 (k := 17) rfl
theorem dX5_hearPlaces_42 : decode cX5_hearPlaces 42 = .ok (.invokevirtual 69, 3) := dchk_at dall_X5_hearPlaces_20_st01_0 (k := 18) rfl
theorem dX5_hearPlaces_45 : decode cX5_hearPlaces 45 = .ok (.invokevirtual 52, 3) := dchk_at dall_X5_hearPlaces_20_st01_0 (k := 19) rfl
theorem dX5_hearPlaces_48 : decode cX5_hearPlaces 48 = .ok (.aload_n 0, 1) := dchk_at dall_X5_hearPlaces_20_st01_0 (k := 20) rfl
theorem dX5_hearPlaces_49 : decode cX5_hearPlaces 49 = .ok (.iload_n 1, 1) := dchk_at dall_X5_hearPlaces_20_st01_0 (k := 21) rfl
theorem dX5_hearPlaces_50 : decode cX5_hearPlaces 50 = .ok (.iconst 4, 1) := dchk_at dall_X5_hearPlaces_20_st01_0 (k := 22) rfl
theorem dX5_hearPlaces_51 : decode cX5_hearPlaces 51 = .ok (.iconst 0, 1) := dchk_at dall_X5_hearPlaces_20_st01_0 (k := 23) rfl
theorem dX5_hearPlaces_52 : decode cX5_hearPlaces 52 = .ok (.invokevirtual 52, 3) := dchk_at dall_X5_hearPlaces_20_st01_0 (k := 24) rfl
theorem dX5_hearPlaces_55 : decode cX5_hearPlaces 55 = .ok (.aload_n 0, 1) := dchk_at dall_X5_hearPlaces_20_st01_0 (k := 25) rfl
theorem dX5_hearPlaces_56 : decode cX5_hearPlaces 56 = .ok (.iload_n 1, 1) := dchk_at dall_X5_hearPlaces_20_st01_0 (k := 26) rfl
theorem dX5_hearPlaces_57 : decode cX5_hearPlaces 57 = .ok (.iconst 5, 1) := dchk_at dall_X5_hearPlaces_20_st01_0 (k := 27) rfl
theorem dX5_hearPlaces_58 : decode cX5_hearPlaces 58 = .ok (.iconst 0, 1) := dchk_at dall_X5_hearPlaces_20_st01_0 (k := 28) rfl
theorem dX5_hearPlaces_59 : decode cX5_hearPlaces 59 = .ok (.invokevirtual 52, 3) := dchk_at dall_X5_hearPlaces_20_st01_0 (k := 29) rfl
theorem dX5_hearPlaces_62 : decode cX5_hearPlaces 62 = .ok (.aload_n 0, 1) := dchk_at dall_X5_hearPlaces_20_st01_0 (k := 30) rfl
theorem dX5_hearPlaces_63 : decode cX5_hearPlaces 63 = .ok (.getfield 11, 3) := dchk_at dall_X5_hearPlaces_20_st01_0 (k := 31) rfl
theorem dX5_hearPlaces_66 : decode cX5_hearPlaces 66 = .ok (.iconst 4, 1) := dchk_at dall_X5_hearPlaces_20_st01_0 (k := 32) rfl
theorem dX5_hearPlaces_67 : decode cX5_hearPlaces 67 = .ok (.dup2, 1) := dchk_at dall_X5_hearPlaces_20_st01_0 (k := 33) rfl
theorem dX5_hearPlaces_68 : decode cX5_hearPlaces 68 = .ok (.iaload, 1) := dchk_at dall_X5_hearPlaces_20_st01_0 (k := 34) rfl
theorem dX5_hearPlaces_69 : decode cX5_hearPlaces 69 = .ok (.aload_n 0, 1) := dchk_at dall_X5_hearPlaces_20_st01_0 (k := 35) rfl
theorem dX5_hearPlaces_70 : decode cX5_hearPlaces 70 = .ok (.iload_n 1, 1) := dchk_at dall_X5_hearPlaces_20_st01_0 (k := 36) rfl
theorem dX5_hearPlaces_71 : decode cX5_hearPlaces 71 = .ok (.iconst 0, 1) := dchk_at dall_X5_hearPlaces_20_st01_0 (k := 37) rfl
theorem dX5_hearPlaces_72 : decode cX5_hearPlaces 72 = .ok (.invokevirtual 69, 3) := dchk_at dall_X5_hearPlaces_20_st01_0 (k := 38) rfl
theorem dX5_hearPlaces_75 : decode cX5_hearPlaces 75 = .ok (.iadd, 1) := dchk_at dall_X5_hearPlaces_20_st01_0 (k := 39) rfl
theorem dX5_hearPlaces_76 : decode cX5_hearPlaces 76 = .ok (.iastore, 1) := dchk_at dall_X5_hearPlaces_20_st01_0 (k := 40) rfl
theorem dX5_hearPlaces_77 : decode cX5_hearPlaces 77 = .ok (.aload_n 0, 1) := dchk_at dall_X5_hearPlaces_20_st01_0 (k := 41) rfl
theorem dX5_hearPlaces_78 : decode cX5_hearPlaces 78 = .ok (.getfield 11, 3) := dchk_at dall_X5_hearPlaces_20_st01_0 (k := 42) rfl
theorem dX5_hearPlaces_81 : decode cX5_hearPlaces 81 = .ok (.iconst 5, 1) := dchk_at dall_X5_hearPlaces_20_st01_0 (k := 43) rfl
theorem dX5_hearPlaces_82 : decode cX5_hearPlaces 82 = .ok (.dup2, 1) := dchk_at dall_X5_hearPlaces_20_st01_0 (k := 44) rfl
theorem dX5_hearPlaces_83 : decode cX5_hearPlaces 83 = .ok (.iaload, 1) := dchk_at dall_X5_hearPlaces_20_st01_0 (k := 45) rfl
theorem dX5_hearPlaces_84 : decode cX5_hearPlaces 84 = .ok (.aload_n 0, 1) := dchk_at dall_X5_hearPlaces_20_st01_0 (k := 46) rfl
theorem dX5_hearPlaces_85 : decode cX5_hearPlaces 85 = .ok (.iload_n 1, 1) := dchk_at dall_X5_hearPlaces_20_st01_0 (k := 47) rfl
theorem dX5_hearPlaces_86 : decode cX5_hearPlaces 86 = .ok (.iconst 1, 1) := dchk_at dall_X5_hearPlaces_20_st01_0 (k := 48) rfl
theorem dX5_hearPlaces_87 : decode cX5_hearPlaces 87 = .ok (.invokevirtual 69, 3) := dchk_at dall_X5_hearPlaces_20_st01_0 (k := 49) rfl
def dl_X5_hearPlaces_20_st01_1 : List (Nat × Instr × Nat) := [(90, .iadd, 1), (91, .iastore, 1), (92, .iinc 1 1, 3), (95, .goto (-79), 3), (0, .aload_n 0, 1), (1, .getfield 11, 3), (4, .iconst 4, 1), (5, .iconst 0, 1), (6, .iastore, 1), (7, .aload_n 0, 1), (8, .getfield 11, 3), (11, .iconst 5, 1), (12, .iconst 0, 1), (13, .iastore, 1), (14, .iconst 0, 1), (15, .istore_n 1, 1), (98, .return_, 1)]
set_option maxRecDepth 100000 in
theorem dall_X5_hearPlaces_20_st01_1 : dchk cX5_hearPlaces dl_X5_hearPlaces_20_st01_1 = true := by decide +kernel
theorem dX5_hearPlaces_90 : decode cX5_hearPlaces 90 = .ok (.iadd, 1) := dchk_at dall_X5_hearPlaces_20_st01_1 (k := 0) rfl
theorem dX5_hearPlaces_91 : decode cX5_hearPlaces 91 = .ok (.iastore, 1) := dchk_at dall_X5_hearPlaces_20_st01_1 (k := 1) rfl
theorem dX5_hearPlaces_92 : decode cX5_hearPlaces 92 = .ok (.iinc 1 1, 3) := dchk_at dall_X5_hearPlaces_20_st01_1 (k := 2) rfl
theorem dX5_hearPlaces_95 : decode cX5_hearPlaces 95 = .ok (.goto (-79), 3) := dchk_at dall_X5_hearPlaces_20_st01_1 (k := 3) rfl
theorem dX5_hearPlaces_0 : decode cX5_hearPlaces 0 = .ok (.aload_n 0, 1) := dchk_at dall_X5_hearPlaces_20_st01_1 (k := 4) rfl
theorem dX5_hearPlaces_1 : decode cX5_hearPlaces 1 = .ok (.getfield 11, 3) := dchk_at dall_X5_hearPlaces_20_st01_1 (k := 5) rfl
theorem dX5_hearPlaces_4 : decode cX5_hearPlaces 4 = .ok (.iconst 4, 1) := dchk_at dall_X5_hearPlaces_20_st01_1 (k := 6) rfl
theorem dX5_hearPlaces_5 : decode cX5_hearPlaces 5 = .ok (.iconst 0, 1) := dchk_at dall_X5_hearPlaces_20_st01_1 (k := 7) rfl
theorem dX5_hearPlaces_6 : decode cX5_hearPlaces 6 = .ok (.iastore, 1) := dchk_at dall_X5_hearPlaces_20_st01_1 (k := 8) rfl
theorem dX5_hearPlaces_7 : decode cX5_hearPlaces 7 = .ok (.aload_n 0, 1) := dchk_at dall_X5_hearPlaces_20_st01_1 (k := 9) rfl
theorem dX5_hearPlaces_8 : decode cX5_hearPlaces 8 = .ok (.getfield 11, 3) := dchk_at dall_X5_hearPlaces_20_st01_1 (k := 10) rfl
theorem dX5_hearPlaces_11 : decode cX5_hearPlaces 11 = .ok (.iconst 5, 1) := dchk_at dall_X5_hearPlaces_20_st01_1 (k := 11) rfl
theorem dX5_hearPlaces_12 : decode cX5_hearPlaces 12 = .ok (.iconst 0, 1) := dchk_at dall_X5_hearPlaces_20_st01_1 (k := 12) rfl
theorem dX5_hearPlaces_13 : decode cX5_hearPlaces 13 = .ok (.iastore, 1) := dchk_at dall_X5_hearPlaces_20_st01_1 (k := 13) rfl
theorem dX5_hearPlaces_14 : decode cX5_hearPlaces 14 = .ok (.iconst 0, 1) := dchk_at dall_X5_hearPlaces_20_st01_1 (k := 14) rfl
theorem dX5_hearPlaces_15 : decode cX5_hearPlaces 15 = .ok (.istore_n 1, 1) := dchk_at dall_X5_hearPlaces_20_st01_1 (k := 15) rfl
theorem dX5_hearPlaces_98 : decode cX5_hearPlaces 98 = .ok (.return_, 1) := dchk_at dall_X5_hearPlaces_20_st01_1 (k := 16) rfl
def B_X5_aloneToGoal_50 (c_row : Nat → Int32) (x3 : Int32) (x4 : Int32) (x5 : Int32) (x6 : Int32) (x7 : Int32) (x8 : Int32) (x9 : Int32) (x10 : Int32) : Option ((Int32 × Int32 × Int32 × Int32 × Int32 × Int32 × Int32 × Int32) ⊕ (Int32 × Int32 × Int32)) :=
  if (9999 : Int32) ≤ x10 then some (.inr (x3, x7, x8)) else if x9 ≤ (0 : Int32) then some (.inr (x3, x7, x8)) else bd1 (F_X5_stepFrom (x4 + ((((c_row 3) - x6) * x9) - x5)) c_row) (fun r_9 => some (.inl (x4 + ((((c_row 3) - x6) * x9) - x5), x4 + ((((c_row 3) - x6) * x9) - x5), (0 : Int32), (0 : Int32), x7 + ((((c_row 3) - x6) * x9) - x5), x8 + (((c_row 3) - x6) + ((2 : Int32) * (c_row 3))), r_9, x10 + (1 : Int32))))
def J_X5_aloneToGoal_136 (p2 : Int32) (c_row : Nat → Int32) (x3 : Int32) (x7 : Int32) (x8 : Int32) : Option (Int32) :=
  if p2 = (0 : Int32) then some (x7 + (maxF ((c_row 2) - x3) (0 : Int32))) else some (x8 + (maxF ((c_row 2) - x3) (0 : Int32)))
def F_X5_aloneToGoal (K : Nat) (p1 : Int32) (p2 : Int32) (c_row : Nat → Int32) : Option (Int32) :=
  bd1 (F_X5_total K (6 : Int32) c_row) (fun r_1 => bd1 (F_X5_of p1 (7 : Int32) c_row) (fun r_3 => bd1 (F_X5_stepFrom (c_row 8) c_row) (fun r_5 => bd3 (lpF (fun u9 : Int32 × Int32 × Int32 × Int32 × Int32 × Int32 × Int32 × Int32 => B_X5_aloneToGoal_50 c_row u9.1 u9.2.1 u9.2.2.1 u9.2.2.2.1 u9.2.2.2.2.1 u9.2.2.2.2.2.1 u9.2.2.2.2.2.2.1 u9.2.2.2.2.2.2.2) K (c_row 8, r_1, r_3, c_row 9, (0 : Int32), (0 : Int32), r_5, (0 : Int32))) (fun x3_11 x7_12 x8_13 => J_X5_aloneToGoal_136 p2 c_row x3_11 x7_12 x8_13))))
abbrev w_X5_aloneToGoal (E : EE) (a_ a_row a_partners a_share a_leftOver : Nat) (c_askedCount : Int32) (c_outcome : Int32) (c_row : Nat → Int32) : va_W := [(a_, .inr (6, [.ref a_row, .ref a_partners, .int c_askedCount, .int c_outcome, .ref a_share, .ref a_leftOver])), (a_row, .inl (E.2.1, 81, .inl c_row))]
def v_f_X5_aloneToGoal : List Cond := .code yX5_aloneToGoal cX5_aloneToGoal 13 (some .int) :: ([.fieldLink RX5 11 "HushWatch$State" "row" "[I", .methodLink RX5 191 Lib.Math.max.name, .static Lib.Math.max.name, .initialized "java/lang/Math", .code Lib.Math.max.name Lib.Math.max.code 2 (some .int), .methodLink RX5 188 yX5_total, .instanceMethod yX5_total, .selects RX5 yX5_total yX5_total, .initialized RX5, .methodLink RX5 69 yX5_of, .instanceMethod yX5_of, .selects RX5 yX5_of yX5_of, .methodLink RX5 182 yX5_stepFrom, .instanceMethod yX5_stepFrom, .selects RX5 yX5_stepFrom yX5_stepFrom] ++ (wsX50 ++ (v_f_X5_total ++ (v_f_X5_of ++ (v_f_X5_stepFrom ++ ([]))))))
theorem gw_f_X5_aloneToGoal : v_f_X5_aloneToGoal.all goodWord = true := by decide +kernel
theorem i_f_X5_aloneToGoal_X5 : ∀ w ∈ wsX50, w ∈ v_f_X5_aloneToGoal := fun _ h => List.mem_cons_of_mem _ (List.mem_append_right _ (List.mem_append_left _ h))
theorem g_f_X5_aloneToGoal_f_X5_total_188 : GoodIn v_f_X5_aloneToGoal (wsV RX5 188 RX5 yX5_total v_f_X5_total) := goodIn_app (goodIn_of _ (by decide +kernel)) (goodIn_sub (fun _ h => List.mem_cons_of_mem _ (List.mem_append_right _ (List.mem_append_right _ (List.mem_append_left _ h)))) gw_f_X5_total)
theorem g_f_X5_aloneToGoal_f_X5_of_69 : GoodIn v_f_X5_aloneToGoal (wsV RX5 69 RX5 yX5_of v_f_X5_of) := goodIn_app (goodIn_of _ (by decide +kernel)) (goodIn_sub (fun _ h => List.mem_cons_of_mem _ (List.mem_append_right _ (List.mem_append_right _ (List.mem_append_right _ (List.mem_append_left _ h))))) gw_f_X5_of)
theorem g_f_X5_aloneToGoal_f_X5_stepFrom_182 : GoodIn v_f_X5_aloneToGoal (wsV RX5 182 RX5 yX5_stepFrom v_f_X5_stepFrom) := goodIn_app (goodIn_of _ (by decide +kernel)) (goodIn_sub (fun _ h => List.mem_cons_of_mem _ (List.mem_append_right _ (List.mem_append_right _ (List.mem_append_right _ (List.mem_append_right _ (List.mem_append_left _ h)))))) gw_f_X5_stepFrom)
theorem hd_X5_aloneToGoal : yX5_aloneToGoal.cls = RX5 ∧ yX5_aloneToGoal.cls ≠ "java/lang/invoke/MethodHandle" ∧ yX5_aloneToGoal.cls ≠ "java/lang/invoke/VarHandle" ∧ (parseMethodDescriptor yX5_aloneToGoal.desc).map (fun d => d.parameters.length) = some 2 := by decide +kernel
set_option maxHeartbeats 4000000 in
set_option maxRecDepth 100000 in
theorem wb_X5_aloneToGoal_50 {p : Program} (l : Launch) {e : Env} {s : State} {m : MethodId} {below : List Frame} {meth : Method} {c : Code} {Q : State → Prop} (E : EE) (K : Nat) {a_ a_row a_partners a_share a_leftOver : Nat} {p1 : Int32} {p2 : Int32} {c_askedCount : Int32} {c_outcome : Int32} {c_row : Nat → Int32} {x3 : Int32} {x4 : Int32} {x5 : Int32} {x6 : Int32} {x7 : Int32} {x8 : Int32} {x9 : Int32} {x10 : Int32} (hx : p.tables.exec = Jvm.exec) (hb : c.code = cX5_aloneToGoal) (hml : c.maxLocals = 13) (hown : s.vm.findClass RX5 = some m.cls) (hts : ∀ w ∈ v_f_X5_aloneToGoal, w.before #[Value.ref a_, Value.int p1, Value.int p2] s = true) (hK : va_K E.1 vwCl (TY E) s) (hN : NX s) {xx : (Int32 × Int32 × Int32 × Int32 × Int32 × Int32 × Int32 × Int32) ⊕ (Int32 × Int32 × Int32)} (hC : ∀ (x3 : Int32), ∀ (x4 : Int32), ∀ (x5 : Int32), ∀ (x6 : Int32), ∀ (x7 : Int32), ∀ (x8 : Int32), ∀ (x9 : Int32), ∀ (x10 : Int32), xx = .inl (x3, x4, x5, x6, x7, x8, x9, x10) → ∀ (ls : Array Slot), lv_has ls 13 [(0, .ref a_), (2, .int p2), (3, .int x3), (4, .int x4), (5, .int x5), (6, .int x6), (7, .int x7), (8, .int x8), (9, .int x9), (10, .int x10)] → W p l e ({ frames := 2, cells := 0, slots := 0, locals := 45 } : Room) s m #[Value.ref a_, Value.int p1, Value.int p2] below meth c s.heap [] 0 0 Q (F0 m 50 ls [])) (hE : ∀ (x3 : Int32), ∀ (x7 : Int32), ∀ (x8 : Int32), xx = .inr (x3, x7, x8) → ((∀ (ls : Array Slot), lv_has ls 13 [(0, .ref a_), (2, .int p2), (3, .int x3), (7, .int x7), (8, .int x8)] → W p l e ({ frames := 2, cells := 0, slots := 0, locals := 45 } : Room) s m #[Value.ref a_, Value.int p1, Value.int p2] below meth c s.heap [] 0 0 Q (F0 m 136 ls [])))) (hF : B_X5_aloneToGoal_50 c_row x3 x4 x5 x6 x7 x8 x9 x10 = some xx) (hP : va_P E.1 vwCl (w_X5_aloneToGoal E a_ a_row a_partners a_share a_leftOver c_askedCount c_outcome c_row) s.heap) : ∀ (ls : Array Slot), lv_has ls 13 [(0, .ref a_), (2, .int p2), (3, .int x3), (4, .int x4), (5, .int x5), (6, .int x6), (7, .int x7), (8, .int x8), (9, .int x9), (10, .int x10)] → W p l e ({ frames := 2, cells := 0, slots := 0, locals := 45 } : Room) s m #[Value.ref a_, Value.int p1, Value.int p2] below meth c s.heap [] 0 0 Q (F0 m 50 ls []) := by
  unfold B_X5_aloneToGoal_50 at hF
  replace hP : va_P E.1 vwCl [(a_, .inr (6, [.ref a_row, .ref a_partners, .int c_askedCount, .int c_outcome, .ref a_share, .ref a_leftOver])), (a_row, .inl (E.2.1, 81, .inl c_row))] s.heap := hP
  intro ls hl
  refine lv_iload hx hb dX5_aloneToGoal_50 (lv_at hl 9 rfl) ?_
  refine lv_sipush (v := 9999) hx hb dX5_aloneToGoal_52 (by decide) ?_
  refine lv_icmp_ge (tgt := 136) hx hb dX5_aloneToGoal_55 (by decide) (fun c_7 => ?_) (fun c_7 => ?_)
  ·
    replace hF := ip c_7 hF
    cases hF
    exact hE x3 x7 x8 rfl ls (lv_sub hl [0, 1, 2, 6, 7] rfl)
  ·
    replace hF := inn c_7 hF
    refine lv_iload hx hb dX5_aloneToGoal_58 (lv_at hl 8 rfl) ?_
    refine lv_if_le (tgt := 136) hx hb dX5_aloneToGoal_60 (by decide) (fun c_8 => ?_) (fun c_8 => ?_)
    ·
      replace hF := ip c_8 hF
      cases hF
      exact hE x3 x7 x8 rfl ls (lv_sub hl [0, 1, 2, 6, 7] rfl)
    ·
      replace hF := inn c_8 hF
      refine lv_aload_n hx hb dX5_aloneToGoal_63 rfl (lv_at hl 0 rfl) ?_
      refine gt_X5_0 (v := .ref a_row) hx hb hts i_f_X5_aloneToGoal_X5 hown hK hP 0 rfl (hts (.fieldLink RX5 11 "HushWatch$State" "row" "[I") (List.mem_of_getElem? (i := 1) rfl)) rfl dX5_aloneToGoal_64 ?_
      refine lv_iconst (v := 3) hx hb dX5_aloneToGoal_67 (by decide) ?_
      refine va_iald hx hb hK hP 1 0 rfl rfl (vin rfl) dX5_aloneToGoal_68 ?_
      refine W.eq (g2 := F0 m 69 ls [.int (c_row 3)]) rfl ?_
      refine lv_iload hx hb dX5_aloneToGoal_69 (lv_at hl 5 rfl) ?_
      refine lv_isub hx hb dX5_aloneToGoal_71 ?_
      refine lv_istore (lv' := [(11, .int ((c_row 3) - x6)), (0, .ref a_), (2, .int p2), (3, .int x3), (4, .int x4), (5, .int x5), (6, .int x6), (7, .int x7), (8, .int x8), (9, .int x9), (10, .int x10)]) hx hb dX5_aloneToGoal_72 hl (by decide) rfl (fun ls hl => ?_)
      refine lv_iload hx hb dX5_aloneToGoal_74 (lv_at hl 0 rfl) ?_
      refine lv_iload hx hb dX5_aloneToGoal_76 (lv_at hl 9 rfl) ?_
      refine lv_imul hx hb dX5_aloneToGoal_78 ?_
      refine lv_iload hx hb dX5_aloneToGoal_79 (lv_at hl 5 rfl) ?_
      refine lv_isub hx hb dX5_aloneToGoal_81 ?_
      refine lv_istore (lv' := [(12, .int ((((c_row 3) - x6) * x9) - x5)), (11, .int ((c_row 3) - x6)), (0, .ref a_), (2, .int p2), (3, .int x3), (4, .int x4), (5, .int x5), (6, .int x6), (7, .int x7), (8, .int x8), (9, .int x9), (10, .int x10)]) hx hb dX5_aloneToGoal_82 hl (by decide) rfl (fun ls hl => ?_)
      refine lv_iload hx hb dX5_aloneToGoal_84 (lv_at hl 8 rfl) ?_
      refine lv_iload hx hb dX5_aloneToGoal_86 (lv_at hl 0 rfl) ?_
      refine lv_iadd hx hb dX5_aloneToGoal_88 ?_
      refine lv_istore (lv' := [(7, .int (x7 + ((((c_row 3) - x6) * x9) - x5))), (12, .int ((((c_row 3) - x6) * x9) - x5)), (11, .int ((c_row 3) - x6)), (0, .ref a_), (2, .int p2), (3, .int x3), (4, .int x4), (5, .int x5), (6, .int x6), (8, .int x8), (9, .int x9), (10, .int x10)]) hx hb dX5_aloneToGoal_89 hl (by decide) rfl (fun ls hl => ?_)
      refine lv_iload hx hb dX5_aloneToGoal_91 (lv_at hl 6 rfl) ?_
      refine lv_iload hx hb dX5_aloneToGoal_93 (lv_at hl 1 rfl) ?_
      refine lv_iadd hx hb dX5_aloneToGoal_95 ?_
      refine lv_istore (lv' := [(4, .int (x4 + ((((c_row 3) - x6) * x9) - x5))), (7, .int (x7 + ((((c_row 3) - x6) * x9) - x5))), (12, .int ((((c_row 3) - x6) * x9) - x5)), (11, .int ((c_row 3) - x6)), (0, .ref a_), (2, .int p2), (3, .int x3), (5, .int x5), (6, .int x6), (8, .int x8), (9, .int x9), (10, .int x10)]) hx hb dX5_aloneToGoal_96 hl (by decide) rfl (fun ls hl => ?_)
      refine lv_iload hx hb dX5_aloneToGoal_98 (lv_at hl 9 rfl) ?_
      refine lv_iload hx hb dX5_aloneToGoal_100 (lv_at hl 3 rfl) ?_
      refine lv_iconst (v := 2) hx hb dX5_aloneToGoal_102 (by decide) ?_
      refine lv_aload_n hx hb dX5_aloneToGoal_103 rfl (lv_at hl 4 rfl) ?_
      refine gt_X5_0 (v := .ref a_row) hx hb hts i_f_X5_aloneToGoal_X5 hown hK hP 0 rfl (hts (.fieldLink RX5 11 "HushWatch$State" "row" "[I") (List.mem_of_getElem? (i := 1) rfl)) rfl dX5_aloneToGoal_104 ?_
      refine lv_iconst (v := 3) hx hb dX5_aloneToGoal_107 (by decide) ?_
      refine va_iald hx hb hK hP 1 0 rfl rfl (vin rfl) dX5_aloneToGoal_108 ?_
      refine W.eq (g2 := F0 m 109 ls [.int (c_row 3), .int (2 : Int32), .int ((c_row 3) - x6), .int x8]) rfl ?_
      refine lv_imul hx hb dX5_aloneToGoal_109 ?_
      refine lv_iadd hx hb dX5_aloneToGoal_110 ?_
      refine lv_iadd hx hb dX5_aloneToGoal_111 ?_
      refine lv_istore (lv' := [(8, .int (x8 + (((c_row 3) - x6) + ((2 : Int32) * (c_row 3))))), (4, .int (x4 + ((((c_row 3) - x6) * x9) - x5))), (7, .int (x7 + ((((c_row 3) - x6) * x9) - x5))), (12, .int ((((c_row 3) - x6) * x9) - x5)), (11, .int ((c_row 3) - x6)), (0, .ref a_), (2, .int p2), (3, .int x3), (5, .int x5), (6, .int x6), (9, .int x9), (10, .int x10)]) hx hb dX5_aloneToGoal_112 hl (by decide) rfl (fun ls hl => ?_)
      refine lv_iload hx hb dX5_aloneToGoal_114 (lv_at hl 1 rfl) ?_
      refine lv_istore_n (lv' := [(3, .int (x4 + ((((c_row 3) - x6) * x9) - x5))), (8, .int (x8 + (((c_row 3) - x6) + ((2 : Int32) * (c_row 3))))), (4, .int (x4 + ((((c_row 3) - x6) * x9) - x5))), (7, .int (x7 + ((((c_row 3) - x6) * x9) - x5))), (12, .int ((((c_row 3) - x6) * x9) - x5)), (11, .int ((c_row 3) - x6)), (0, .ref a_), (2, .int p2), (5, .int x5), (6, .int x6), (9, .int x9), (10, .int x10)]) hx hb dX5_aloneToGoal_116 rfl hl (by decide) rfl (fun ls hl => ?_)
      refine lv_iconst (v := 0) hx hb dX5_aloneToGoal_117 (by decide) ?_
      refine lv_istore (lv' := [(5, .int (0 : Int32)), (3, .int (x4 + ((((c_row 3) - x6) * x9) - x5))), (8, .int (x8 + (((c_row 3) - x6) + ((2 : Int32) * (c_row 3))))), (4, .int (x4 + ((((c_row 3) - x6) * x9) - x5))), (7, .int (x7 + ((((c_row 3) - x6) * x9) - x5))), (12, .int ((((c_row 3) - x6) * x9) - x5)), (11, .int ((c_row 3) - x6)), (0, .ref a_), (2, .int p2), (6, .int x6), (9, .int x9), (10, .int x10)]) hx hb dX5_aloneToGoal_118 hl (by decide) rfl (fun ls hl => ?_)
      refine lv_iconst (v := 0) hx hb dX5_aloneToGoal_120 (by decide) ?_
      refine lv_istore (lv' := [(6, .int (0 : Int32)), (5, .int (0 : Int32)), (3, .int (x4 + ((((c_row 3) - x6) * x9) - x5))), (8, .int (x8 + (((c_row 3) - x6) + ((2 : Int32) * (c_row 3))))), (4, .int (x4 + ((((c_row 3) - x6) * x9) - x5))), (7, .int (x7 + ((((c_row 3) - x6) * x9) - x5))), (12, .int ((((c_row 3) - x6) * x9) - x5)), (11, .int ((c_row 3) - x6)), (0, .ref a_), (2, .int p2), (9, .int x9), (10, .int x10)]) hx hb dX5_aloneToGoal_121 hl (by decide) rfl (fun ls hl => ?_)
      refine lv_aload_n hx hb dX5_aloneToGoal_123 rfl (lv_at hl 8 rfl) ?_
      refine lv_iload_n hx hb dX5_aloneToGoal_124 rfl (lv_at hl 2 rfl) ?_
      replace hF := bd1_s hF
      obtain ⟨r_9, hc_10, hF⟩ := hF
      have hPc : va_P E.1 vwCl (w_X5_stepFrom E a_ a_row a_partners a_share a_leftOver c_askedCount c_outcome c_row) s.heap := hP.sub (ws' := [(a_, .inr (6, [.ref a_row, .ref a_partners, .int c_askedCount, .int c_outcome, .ref a_share, .ref a_leftOver])), (a_row, .inl (E.2.1, 81, .inl c_row))]) [0, 1] rfl
      have hrc := va_recv hK hPc (ci := 6) (q0 := 0) rfl rfl
      refine pE_i (va_runV (As := [.int (x4 + ((((c_row 3) - x6) * x9) - x5))]) (rest := [])  ⟨hx, hb, hml, hown, hts⟩ (f_X5_stepFrom l E (a_ := a_) (a_row := a_row) (a_partners := a_partners) (a_share := a_share) (a_leftOver := a_leftOver) (p1 := x4 + ((((c_row 3) - x6) * x9) - x5)) (c_askedCount := c_askedCount) (c_outcome := c_outcome) (c_row := c_row) hc_10) (cwV 1 hts g_f_X5_aloneToGoal_f_X5_stepFrom_182 rfl rfl rfl hd_X5_stepFrom ⟨Nat.le_of_ble_eq_true rfl, Nat.le_of_ble_eq_true rfl⟩) ⟨pP.blind, hrc, (pP.pre ⟨hK, hN⟩ hPc)⟩ rfl rfl hl.1 rfl (lv_room (Nat.le_of_ble_eq_true rfl)) dX5_aloneToGoal_125 ⟨Nat.le_of_ble_eq_true rfl, Nat.le_of_ble_eq_true rfl⟩) ?_
      refine lv_istore (lv' := [(9, .int r_9), (6, .int (0 : Int32)), (5, .int (0 : Int32)), (3, .int (x4 + ((((c_row 3) - x6) * x9) - x5))), (8, .int (x8 + (((c_row 3) - x6) + ((2 : Int32) * (c_row 3))))), (4, .int (x4 + ((((c_row 3) - x6) * x9) - x5))), (7, .int (x7 + ((((c_row 3) - x6) * x9) - x5))), (12, .int ((((c_row 3) - x6) * x9) - x5)), (11, .int ((c_row 3) - x6)), (0, .ref a_), (2, .int p2), (10, .int x10)]) hx hb dX5_aloneToGoal_128 hl (by decide) rfl (fun ls hl => ?_)
      refine lv_iinc (v := x10 + (1 : Int32)) (lv' := [(10, .int (x10 + (1 : Int32))), (9, .int r_9), (6, .int (0 : Int32)), (5, .int (0 : Int32)), (3, .int (x4 + ((((c_row 3) - x6) * x9) - x5))), (8, .int (x8 + (((c_row 3) - x6) + ((2 : Int32) * (c_row 3))))), (4, .int (x4 + ((((c_row 3) - x6) * x9) - x5))), (7, .int (x7 + ((((c_row 3) - x6) * x9) - x5))), (12, .int ((((c_row 3) - x6) * x9) - x5)), (11, .int ((c_row 3) - x6)), (0, .ref a_), (2, .int p2)]) hx hb dX5_aloneToGoal_130 hl (k := 11) rfl (rfl) (by decide) rfl (fun ls hl => ?_)
      refine lv_goto (tgt := 50) hx hb dX5_aloneToGoal_133 (by decide) ?_
      cases hF
      exact hC (x4 + ((((c_row 3) - x6) * x9) - x5)) (x4 + ((((c_row 3) - x6) * x9) - x5)) (0 : Int32) (0 : Int32) (x7 + ((((c_row 3) - x6) * x9) - x5)) (x8 + (((c_row 3) - x6) + ((2 : Int32) * (c_row 3)))) r_9 (x10 + (1 : Int32)) rfl ls (lv_sub hl [10, 11, 4, 6, 3, 2, 7, 5, 1, 0] rfl)

set_option maxHeartbeats 4000000 in
set_option maxRecDepth 100000 in
theorem lw_X5_aloneToGoal_50 {p : Program} (l : Launch) {e : Env} {s : State} {m : MethodId} {below : List Frame} {meth : Method} {c : Code} {Q : State → Prop} (E : EE) (K : Nat) {a_ a_row a_partners a_share a_leftOver : Nat} {p1 : Int32} {p2 : Int32} {c_askedCount : Int32} {c_outcome : Int32} {c_row : Nat → Int32} (hx : p.tables.exec = Jvm.exec) (hb : c.code = cX5_aloneToGoal) (hml : c.maxLocals = 13) (hown : s.vm.findClass RX5 = some m.cls) (hts : ∀ w ∈ v_f_X5_aloneToGoal, w.before #[Value.ref a_, Value.int p1, Value.int p2] s = true) (hK : va_K E.1 vwCl (TY E) s) (hN : NX s) (hP : va_P E.1 vwCl (w_X5_aloneToGoal E a_ a_row a_partners a_share a_leftOver c_askedCount c_outcome c_row) s.heap) (j9 : Nat) (x3 : Int32) (x4 : Int32) (x5 : Int32) (x6 : Int32) (x7 : Int32) (x8 : Int32) (x9 : Int32) (x10 : Int32) (x3' : Int32) (x7' : Int32) (x8' : Int32) (hL : lpF (fun u9 : Int32 × Int32 × Int32 × Int32 × Int32 × Int32 × Int32 × Int32 => B_X5_aloneToGoal_50 c_row u9.1 u9.2.1 u9.2.2.1 u9.2.2.2.1 u9.2.2.2.2.1 u9.2.2.2.2.2.1 u9.2.2.2.2.2.2.1 u9.2.2.2.2.2.2.2) j9 (x3, x4, x5, x6, x7, x8, x9, x10) = some (x3', x7', x8')) (hX : (∀ (ls : Array Slot), lv_has ls 13 [(0, .ref a_), (2, .int p2), (3, .int x3'), (7, .int x7'), (8, .int x8')] → W p l e ({ frames := 2, cells := 0, slots := 0, locals := 45 } : Room) s m #[Value.ref a_, Value.int p1, Value.int p2] below meth c s.heap [] 0 0 Q (F0 m 136 ls []))) : ∀ (ls : Array Slot), lv_has ls 13 [(0, .ref a_), (2, .int p2), (3, .int x3), (4, .int x4), (5, .int x5), (6, .int x6), (7, .int x7), (8, .int x8), (9, .int x9), (10, .int x10)] → W p l e ({ frames := 2, cells := 0, slots := 0, locals := 45 } : Room) s m #[Value.ref a_, Value.int p1, Value.int p2] below meth c s.heap [] 0 0 Q (F0 m 50 ls []) := by
  exact lp_rule (P := (fun u9 : Int32 × Int32 × Int32 × Int32 × Int32 × Int32 × Int32 × Int32 => ∀ (ls : Array Slot), lv_has ls 13 [(0, .ref a_), (2, .int p2), (3, .int u9.1), (4, .int u9.2.1), (5, .int u9.2.2.1), (6, .int u9.2.2.2.1), (7, .int u9.2.2.2.2.1), (8, .int u9.2.2.2.2.2.1), (9, .int u9.2.2.2.2.2.2.1), (10, .int u9.2.2.2.2.2.2.2)] → W p l e ({ frames := 2, cells := 0, slots := 0, locals := 45 } : Room) s m #[Value.ref a_, Value.int p1, Value.int p2] below meth c s.heap [] 0 0 Q (F0 m 50 ls []))) (R := (fun r9 : Int32 × Int32 × Int32 => (∀ (ls : Array Slot), lv_has ls 13 [(0, .ref a_), (2, .int p2), (3, .int r9.1), (7, .int r9.2.1), (8, .int r9.2.2)] → W p l e ({ frames := 2, cells := 0, slots := 0, locals := 45 } : Room) s m #[Value.ref a_, Value.int p1, Value.int p2] below meth c s.heap [] 0 0 Q (F0 m 136 ls [])))) (fun u9 xx hF hC hE => wb_X5_aloneToGoal_50 l E K (p1 := p1) (p2 := p2) (c_askedCount := c_askedCount) (c_outcome := c_outcome) (c_row := c_row) (x3 := u9.1) (x4 := u9.2.1) (x5 := u9.2.2.1) (x6 := u9.2.2.2.1) (x7 := u9.2.2.2.2.1) (x8 := u9.2.2.2.2.2.1) (x9 := u9.2.2.2.2.2.2.1) (x10 := u9.2.2.2.2.2.2.2) hx hb hml hown hts hK hN (fun x3 x4 x5 x6 x7 x8 x9 x10 q9 => hC _ q9) (fun x3 x7 x8 q9 => hE _ q9) hF hP) j9 (x3, x4, x5, x6, x7, x8, x9, x10) (x3', x7', x8') hL hX

set_option maxHeartbeats 4000000 in
set_option maxRecDepth 100000 in
theorem j_X5_aloneToGoal_136 {p : Program} (l : Launch) {e : Env} {s : State} {m : MethodId} {below : List Frame} {meth : Method} {c : Code} {Q : State → Prop} (E : EE) (K : Nat) {a_ a_row a_partners a_share a_leftOver : Nat} {p1 : Int32} {p2 : Int32} {c_askedCount : Int32} {c_outcome : Int32} {c_row : Nat → Int32} {x3 : Int32} {x7 : Int32} {x8 : Int32} (hx : p.tables.exec = Jvm.exec) (hb : c.code = cX5_aloneToGoal) (hml : c.maxLocals = 13) (hown : s.vm.findClass RX5 = some m.cls) (hts : ∀ w ∈ v_f_X5_aloneToGoal, w.before #[Value.ref a_, Value.int p1, Value.int p2] s = true) (hK : va_K E.1 vwCl (TY E) s) (hN : NX s) {rr : Int32} (hr : meth.sig.returnType = (some .int)) (hlocks : meth.locks = false) (hQ : Q = MQ below (vp_Si (fun q : Int32 => q = rr)) #[Value.ref a_, Value.int p1, Value.int p2] s 0 0 (fun _ => False)) (hF : J_X5_aloneToGoal_136 p2 c_row x3 x7 x8 = some rr) (hP : va_P E.1 vwCl (w_X5_aloneToGoal E a_ a_row a_partners a_share a_leftOver c_askedCount c_outcome c_row) s.heap) : ∀ (ls : Array Slot), lv_has ls 13 [(0, .ref a_), (2, .int p2), (3, .int x3), (7, .int x7), (8, .int x8)] → W p l e ({ frames := 2, cells := 0, slots := 0, locals := 45 } : Room) s m #[Value.ref a_, Value.int p1, Value.int p2] below meth c s.heap [] 0 0 Q (F0 m 136 ls []) := by
  unfold J_X5_aloneToGoal_136 at hF
  replace hP : va_P E.1 vwCl [(a_, .inr (6, [.ref a_row, .ref a_partners, .int c_askedCount, .int c_outcome, .ref a_share, .ref a_leftOver])), (a_row, .inl (E.2.1, 81, .inl c_row))] s.heap := hP
  intro ls hl
  refine lv_aload_n hx hb dX5_aloneToGoal_136 rfl (lv_at hl 0 rfl) ?_
  refine gt_X5_0 (v := .ref a_row) hx hb hts i_f_X5_aloneToGoal_X5 hown hK hP 0 rfl (hts (.fieldLink RX5 11 "HushWatch$State" "row" "[I") (List.mem_of_getElem? (i := 1) rfl)) rfl dX5_aloneToGoal_137 ?_
  refine lv_iconst (v := 2) hx hb dX5_aloneToGoal_140 (by decide) ?_
  refine va_iald hx hb hK hP 1 0 rfl rfl (vin rfl) dX5_aloneToGoal_141 ?_
  refine W.eq (g2 := F0 m 142 ls [.int (c_row 2)]) rfl ?_
  refine lv_iload_n hx hb dX5_aloneToGoal_142 rfl (lv_at hl 2 rfl) ?_
  refine lv_isub hx hb dX5_aloneToGoal_143 ?_
  refine lv_iconst (v := 0) hx hb dX5_aloneToGoal_144 (by decide) ?_
  refine va_mmax hx hb (hml.trans hl.1.symm) hown (hts (.methodLink RX5 191 Lib.Math.max.name) (List.mem_of_getElem? (i := 2) rfl)) (hts (.static Lib.Math.max.name) (List.mem_of_getElem? (i := 3) rfl)) (hts (.initialized "java/lang/Math") (List.mem_of_getElem? (i := 4) rfl)) (hts (.code Lib.Math.max.name Lib.Math.max.code 2 (some .int)) (List.mem_of_getElem? (i := 5) rfl)) (Nat.le_of_ble_eq_true rfl) (Nat.le_of_ble_eq_true rfl) (Nat.le_of_ble_eq_true rfl) (Nat.le_of_ble_eq_true rfl) dX5_aloneToGoal_145 ?_
  refine W.eq (g2 := F0 m 148 ls [.int (maxF ((c_row 2) - x3) (0 : Int32))]) rfl ?_
  refine lv_istore (lv' := [(10, .int (maxF ((c_row 2) - x3) (0 : Int32))), (0, .ref a_), (2, .int p2), (3, .int x3), (7, .int x7), (8, .int x8)]) hx hb dX5_aloneToGoal_148 hl (by decide) rfl (fun ls hl => ?_)
  refine lv_iload_n hx hb dX5_aloneToGoal_150 rfl (lv_at hl 2 rfl) ?_
  refine lv_if_eq (tgt := 159) hx hb dX5_aloneToGoal_151 (by decide) (fun c_15 => ?_) (fun c_15 => ?_)
  ·
    replace hF := ip c_15 hF
    refine lv_iload hx hb dX5_aloneToGoal_159 (lv_at hl 4 rfl) ?_
    refine lv_iload hx hb dX5_aloneToGoal_161 (lv_at hl 0 rfl) ?_
    refine lv_iadd hx hb dX5_aloneToGoal_163 ?_
    rw [hQ]
    obtain e9_0 := inj1 hF
    exact W.iret (v := x7 + (maxF ((c_row 2) - x3) (0 : Int32))) hx hb hr (fun tt ht hW => ⟨_, rfl, e9_0, ht⟩) (fun _ h => by cases h) dX5_aloneToGoal_164
  ·
    replace hF := inn c_15 hF
    refine lv_iload hx hb dX5_aloneToGoal_154 (lv_at hl 5 rfl) ?_
    refine lv_goto (tgt := 161) hx hb dX5_aloneToGoal_156 (by decide) ?_
    refine lv_iload hx hb dX5_aloneToGoal_161 (lv_at hl 0 rfl) ?_
    refine lv_iadd hx hb dX5_aloneToGoal_163 ?_
    rw [hQ]
    obtain e9_0 := inj1 hF
    exact W.iret (v := x8 + (maxF ((c_row 2) - x3) (0 : Int32))) hx hb hr (fun tt ht hW => ⟨_, rfl, e9_0, ht⟩) (fun _ h => by cases h) dX5_aloneToGoal_164

set_option maxHeartbeats 4000000 in
set_option maxRecDepth 100000 in
theorem f_X5_aloneToGoal (l : Launch) (E : EE) (K : Nat) {a_ a_row a_partners a_share a_leftOver : Nat} {p1 : Int32} {p2 : Int32} {c_askedCount : Int32} {c_outcome : Int32} {c_row : Nat → Int32} {rr : Int32} (hF : F_X5_aloneToGoal K p1 p2 c_row = some rr) : Met l yX5_aloneToGoal v_f_X5_aloneToGoal (({ frames := 2, cells := 0, slots := 0, locals := 45 } : Room)) (va_Pc [.ref a_, .int p1, .int p2] (pP E (w_X5_aloneToGoal E a_ a_row a_partners a_share a_leftOver c_askedCount c_outcome c_row))) (vp_Si (fun q : Int32 => q = rr)) 0 0 (fun _ => False) := by
  refine Met.ofW (cc := cX5_aloneToGoal) (maxL := 13) (ret := (some .int)) (by decide) rfl ?_
  intro p e s m args below meth c s₁ B hml hv
  obtain ⟨rfl, ⟨hK, hN⟩, hP⟩ := hv
  have hx := B.exec
  have hb := B.bytes
  have hr := B.returns
  have hts := atoms_spec (ws := v_f_X5_aloneToGoal) B.pre
  have hown : s.vm.findClass RX5 = some m.cls := own_of hd_X5_aloneToGoal.1 (findClass_of_methodNamed B.named)
  have hlocks : meth.locks = false := B.notSynchronized
  replace hP : va_P E.1 vwCl [(a_, .inr (6, [.ref a_row, .ref a_partners, .int c_askedCount, .int c_outcome, .ref a_share, .ref a_leftOver])), (a_row, .inl (E.2.1, 81, .inl c_row))] s.heap := hP
  have hl := lv_entry ([.ref a_, .int p1, .int p2]) (n := 13) (Nat.le_of_ble_eq_true rfl)
  rw [lg_entry_eq]
  generalize (lg_sl ([.ref a_, .int p1, .int p2]) ++ List.replicate (13 - (lg_sl ([.ref a_, .int p1, .int p2])).length) Slot.unset).toArray = ls at hl ⊢
  have hl : lv_has ls 13 [(0, .ref a_), (1, .int p1), (2, .int p2)] := hl
  obtain ⟨Q, hQ⟩ : ∃ Q : State → Prop, Q = MQ below (vp_Si (fun q : Int32 => q = rr)) #[Value.ref a_, Value.int p1, Value.int p2] s 0 0 (fun _ => False) := ⟨_, rfl⟩
  rw [← hQ]
  change W p l e ({ frames := 2, cells := 0, slots := 0, locals := 45 } : Room) s m #[Value.ref a_, Value.int p1, Value.int p2] below meth c s.heap [] 0 0 Q (F0 m 0 ls [])
  unfold F_X5_aloneToGoal at hF
  refine lv_aload_n hx hb dX5_aloneToGoal_0 rfl (lv_at hl 0 rfl) ?_
  refine gt_X5_0 (v := .ref a_row) hx hb hts i_f_X5_aloneToGoal_X5 hown hK hP 0 rfl (hts (.fieldLink RX5 11 "HushWatch$State" "row" "[I") (List.mem_of_getElem? (i := 1) rfl)) rfl dX5_aloneToGoal_1 ?_
  refine lv_bipush (v := 8) hx hb dX5_aloneToGoal_4 (by decide) ?_
  refine va_iald hx hb hK hP 1 0 rfl rfl (vin rfl) dX5_aloneToGoal_6 ?_
  refine W.eq (g2 := F0 m 7 ls [.int (c_row 8)]) rfl ?_
  refine lv_istore_n (lv' := [(3, .int (c_row 8)), (0, .ref a_), (1, .int p1), (2, .int p2)]) hx hb dX5_aloneToGoal_7 rfl hl (by decide) rfl (fun ls hl => ?_)
  refine lv_aload_n hx hb dX5_aloneToGoal_8 rfl (lv_at hl 1 rfl) ?_
  refine lv_bipush (v := 6) hx hb dX5_aloneToGoal_9 (by decide) ?_
  replace hF := bd1_s hF
  obtain ⟨r_1, hc_2, hF⟩ := hF
  have hPc : va_P E.1 vwCl (w_X5_total E a_ a_row a_partners a_share a_leftOver c_askedCount c_outcome c_row) s.heap := hP.sub (ws' := [(a_, .inr (6, [.ref a_row, .ref a_partners, .int c_askedCount, .int c_outcome, .ref a_share, .ref a_leftOver])), (a_row, .inl (E.2.1, 81, .inl c_row))]) [0, 1] rfl
  have hrc := va_recv hK hPc (ci := 6) (q0 := 0) rfl rfl
  refine pE_i (va_runV (As := [.int (6 : Int32)]) (rest := [])  ⟨hx, hb, hml, hown, hts⟩ (f_X5_total l E K (a_ := a_) (a_row := a_row) (a_partners := a_partners) (a_share := a_share) (a_leftOver := a_leftOver) (p1 := (6 : Int32)) (c_askedCount := c_askedCount) (c_outcome := c_outcome) (c_row := c_row) hc_2) (cwV 1 hts g_f_X5_aloneToGoal_f_X5_total_188 rfl rfl rfl hd_X5_total ⟨Nat.le_of_ble_eq_true rfl, Nat.le_of_ble_eq_true rfl⟩) ⟨pP.blind, hrc, (pP.pre ⟨hK, hN⟩ hPc)⟩ rfl rfl hl.1 rfl (lv_room (Nat.le_of_ble_eq_true rfl)) dX5_aloneToGoal_11 ⟨Nat.le_of_ble_eq_true rfl, Nat.le_of_ble_eq_true rfl⟩) ?_
  refine lv_istore (lv' := [(4, .int r_1), (3, .int (c_row 8)), (0, .ref a_), (1, .int p1), (2, .int p2)]) hx hb dX5_aloneToGoal_14 hl (by decide) rfl (fun ls hl => ?_)
  refine lv_aload_n hx hb dX5_aloneToGoal_16 rfl (lv_at hl 2 rfl) ?_
  refine lv_iload_n hx hb dX5_aloneToGoal_17 rfl (lv_at hl 3 rfl) ?_
  refine lv_bipush (v := 7) hx hb dX5_aloneToGoal_18 (by decide) ?_
  replace hF := bd1_s hF
  obtain ⟨r_3, hc_4, hF⟩ := hF
  have hPc : va_P E.1 vwCl (w_X5_of E a_ a_row a_partners a_share a_leftOver c_askedCount c_outcome c_row) s.heap := hP.sub (ws' := [(a_, .inr (6, [.ref a_row, .ref a_partners, .int c_askedCount, .int c_outcome, .ref a_share, .ref a_leftOver])), (a_row, .inl (E.2.1, 81, .inl c_row))]) [0, 1] rfl
  have hrc := va_recv hK hPc (ci := 6) (q0 := 0) rfl rfl
  refine pE_i (va_runV (As := [.int p1, .int (7 : Int32)]) (rest := [])  ⟨hx, hb, hml, hown, hts⟩ (f_X5_of l E (a_ := a_) (a_row := a_row) (a_partners := a_partners) (a_share := a_share) (a_leftOver := a_leftOver) (p1 := p1) (p2 := (7 : Int32)) (c_askedCount := c_askedCount) (c_outcome := c_outcome) (c_row := c_row) hc_4) (cwV 2 hts g_f_X5_aloneToGoal_f_X5_of_69 rfl rfl rfl hd_X5_of ⟨Nat.le_of_ble_eq_true rfl, Nat.le_of_ble_eq_true rfl⟩) ⟨pP.blind, hrc, (pP.pre ⟨hK, hN⟩ hPc)⟩ rfl rfl hl.1 rfl (lv_room (Nat.le_of_ble_eq_true rfl)) dX5_aloneToGoal_20 ⟨Nat.le_of_ble_eq_true rfl, Nat.le_of_ble_eq_true rfl⟩) ?_
  refine lv_istore (lv' := [(5, .int r_3), (4, .int r_1), (3, .int (c_row 8)), (0, .ref a_), (1, .int p1), (2, .int p2)]) hx hb dX5_aloneToGoal_23 hl (by decide) rfl (fun ls hl => ?_)
  refine lv_aload_n hx hb dX5_aloneToGoal_25 rfl (lv_at hl 3 rfl) ?_
  refine gt_X5_0 (v := .ref a_row) hx hb hts i_f_X5_aloneToGoal_X5 hown hK hP 0 rfl (hts (.fieldLink RX5 11 "HushWatch$State" "row" "[I") (List.mem_of_getElem? (i := 1) rfl)) rfl dX5_aloneToGoal_26 ?_
  refine lv_bipush (v := 9) hx hb dX5_aloneToGoal_29 (by decide) ?_
  refine va_iald hx hb hK hP 1 0 rfl rfl (vin rfl) dX5_aloneToGoal_31 ?_
  refine W.eq (g2 := F0 m 32 ls [.int (c_row 9)]) rfl ?_
  refine lv_istore (lv' := [(6, .int (c_row 9)), (5, .int r_3), (4, .int r_1), (3, .int (c_row 8)), (0, .ref a_), (1, .int p1), (2, .int p2)]) hx hb dX5_aloneToGoal_32 hl (by decide) rfl (fun ls hl => ?_)
  refine lv_iconst (v := 0) hx hb dX5_aloneToGoal_34 (by decide) ?_
  refine lv_istore (lv' := [(7, .int (0 : Int32)), (6, .int (c_row 9)), (5, .int r_3), (4, .int r_1), (3, .int (c_row 8)), (0, .ref a_), (1, .int p1), (2, .int p2)]) hx hb dX5_aloneToGoal_35 hl (by decide) rfl (fun ls hl => ?_)
  refine lv_iconst (v := 0) hx hb dX5_aloneToGoal_37 (by decide) ?_
  refine lv_istore (lv' := [(8, .int (0 : Int32)), (7, .int (0 : Int32)), (6, .int (c_row 9)), (5, .int r_3), (4, .int r_1), (3, .int (c_row 8)), (0, .ref a_), (1, .int p1), (2, .int p2)]) hx hb dX5_aloneToGoal_38 hl (by decide) rfl (fun ls hl => ?_)
  refine lv_aload_n hx hb dX5_aloneToGoal_40 rfl (lv_at hl 6 rfl) ?_
  refine lv_iload_n hx hb dX5_aloneToGoal_41 rfl (lv_at hl 5 rfl) ?_
  replace hF := bd1_s hF
  obtain ⟨r_5, hc_6, hF⟩ := hF
  have hPc : va_P E.1 vwCl (w_X5_stepFrom E a_ a_row a_partners a_share a_leftOver c_askedCount c_outcome c_row) s.heap := hP.sub (ws' := [(a_, .inr (6, [.ref a_row, .ref a_partners, .int c_askedCount, .int c_outcome, .ref a_share, .ref a_leftOver])), (a_row, .inl (E.2.1, 81, .inl c_row))]) [0, 1] rfl
  have hrc := va_recv hK hPc (ci := 6) (q0 := 0) rfl rfl
  refine pE_i (va_runV (As := [.int (c_row 8)]) (rest := [])  ⟨hx, hb, hml, hown, hts⟩ (f_X5_stepFrom l E (a_ := a_) (a_row := a_row) (a_partners := a_partners) (a_share := a_share) (a_leftOver := a_leftOver) (p1 := c_row 8) (c_askedCount := c_askedCount) (c_outcome := c_outcome) (c_row := c_row) hc_6) (cwV 1 hts g_f_X5_aloneToGoal_f_X5_stepFrom_182 rfl rfl rfl hd_X5_stepFrom ⟨Nat.le_of_ble_eq_true rfl, Nat.le_of_ble_eq_true rfl⟩) ⟨pP.blind, hrc, (pP.pre ⟨hK, hN⟩ hPc)⟩ rfl rfl hl.1 rfl (lv_room (Nat.le_of_ble_eq_true rfl)) dX5_aloneToGoal_42 ⟨Nat.le_of_ble_eq_true rfl, Nat.le_of_ble_eq_true rfl⟩) ?_
  refine lv_istore (lv' := [(9, .int r_5), (8, .int (0 : Int32)), (7, .int (0 : Int32)), (6, .int (c_row 9)), (5, .int r_3), (4, .int r_1), (3, .int (c_row 8)), (0, .ref a_), (1, .int p1), (2, .int p2)]) hx hb dX5_aloneToGoal_45 hl (by decide) rfl (fun ls hl => ?_)
  refine lv_iconst (v := 0) hx hb dX5_aloneToGoal_47 (by decide) ?_
  refine lv_istore (lv' := [(10, .int (0 : Int32)), (9, .int r_5), (8, .int (0 : Int32)), (7, .int (0 : Int32)), (6, .int (c_row 9)), (5, .int r_3), (4, .int r_1), (3, .int (c_row 8)), (0, .ref a_), (1, .int p1), (2, .int p2)]) hx hb dX5_aloneToGoal_48 hl (by decide) rfl (fun ls hl => ?_)
  replace hF := bd3_s hF
  obtain ⟨x3_11, x7_12, x8_13, hL_14, hF⟩ := hF
  refine lw_X5_aloneToGoal_50 l E K (p1 := p1) (p2 := p2) (c_askedCount := c_askedCount) (c_outcome := c_outcome) (c_row := c_row) hx hb hml hown hts hK hN hP K (c_row 8) r_1 r_3 (c_row 9) (0 : Int32) (0 : Int32) r_5 (0 : Int32) x3_11 x7_12 x8_13 hL_14 ?_ ls (lv_sub hl [8, 10, 7, 6, 5, 4, 3, 2, 1, 0] rfl)
  ·
    intro ls hl
    exact j_X5_aloneToGoal_136 l E K (p1 := p1) (p2 := p2) (c_askedCount := c_askedCount) (c_outcome := c_outcome) (c_row := c_row) (x3 := x3_11) (x7 := x7_12) (x8 := x8_13) hx hb hml hown hts hK hN hr hlocks hQ hF hP ls (lv_sub hl [0, 1, 2, 3, 4] rfl)

def F_X5_shareOf (p1 : Int32) (p2 : Int32) (c_share : Nat → Int32) (c_leftOver : Nat → Int32) : Option (Int32) :=
  if p2 < (0 : Int32) then some (0 : Int32) else if p2 ≤ (1 : Int32) then ixF p2 2 (if c_leftOver p2.toNatClampNeg ≤ p1 then ixF p2 2 (some (c_share p2.toNatClampNeg)) else ixF p2 2 (some ((c_share p2.toNatClampNeg) + (1 : Int32)))) else some (0 : Int32)
abbrev w_X5_shareOf (E : EE) (a_ a_row a_partners a_share a_leftOver : Nat) (c_askedCount : Int32) (c_outcome : Int32) (c_share : Nat → Int32) (c_leftOver : Nat → Int32) : va_W := [(a_, .inr (6, [.ref a_row, .ref a_partners, .int c_askedCount, .int c_outcome, .ref a_share, .ref a_leftOver])), (a_share, .inl (E.2.1, 2, .inl c_share)), (a_leftOver, .inl (E.2.1, 2, .inl c_leftOver))]
def v_f_X5_shareOf : List Cond := .code yX5_shareOf cX5_shareOf 3 (some .int) :: ([.fieldLink RX5 28 "HushWatch$State" "leftOver" "[I", .fieldLink RX5 25 "HushWatch$State" "share" "[I"] ++ (wsX50 ++ ([])))
theorem gw_f_X5_shareOf : v_f_X5_shareOf.all goodWord = true := by decide +kernel
theorem i_f_X5_shareOf_X5 : ∀ w ∈ wsX50, w ∈ v_f_X5_shareOf := fun _ h => List.mem_cons_of_mem _ (List.mem_append_right _ (List.mem_append_left _ h))
theorem hd_X5_shareOf : yX5_shareOf.cls = RX5 ∧ yX5_shareOf.cls ≠ "java/lang/invoke/MethodHandle" ∧ yX5_shareOf.cls ≠ "java/lang/invoke/VarHandle" ∧ (parseMethodDescriptor yX5_shareOf.desc).map (fun d => d.parameters.length) = some 2 := by decide +kernel
set_option maxHeartbeats 4000000 in
set_option maxRecDepth 100000 in
theorem f_X5_shareOf (l : Launch) (E : EE) {a_ a_row a_partners a_share a_leftOver : Nat} {p1 : Int32} {p2 : Int32} {c_askedCount : Int32} {c_outcome : Int32} {c_share : Nat → Int32} {c_leftOver : Nat → Int32} {rr : Int32} (hF : F_X5_shareOf p1 p2 c_share c_leftOver = some rr) : Met l yX5_shareOf v_f_X5_shareOf (({ frames := 0, cells := 0, slots := 0, locals := 0 } : Room)) (va_Pc [.ref a_, .int p1, .int p2] (pP E (w_X5_shareOf E a_ a_row a_partners a_share a_leftOver c_askedCount c_outcome c_share c_leftOver))) (vp_Si (fun q : Int32 => q = rr)) 0 0 (fun _ => False) := by
  refine Met.ofW (cc := cX5_shareOf) (maxL := 3) (ret := (some .int)) (by decide) rfl ?_
  intro p e s m args below meth c s₁ B hml hv
  obtain ⟨rfl, ⟨hK, hN⟩, hP⟩ := hv
  have hx := B.exec
  have hb := B.bytes
  have hr := B.returns
  have hts := atoms_spec (ws := v_f_X5_shareOf) B.pre
  have hown : s.vm.findClass RX5 = some m.cls := own_of hd_X5_shareOf.1 (findClass_of_methodNamed B.named)
  have hlocks : meth.locks = false := B.notSynchronized
  replace hP : va_P E.1 vwCl [(a_, .inr (6, [.ref a_row, .ref a_partners, .int c_askedCount, .int c_outcome, .ref a_share, .ref a_leftOver])), (a_share, .inl (E.2.1, 2, .inl c_share)), (a_leftOver, .inl (E.2.1, 2, .inl c_leftOver))] s.heap := hP
  have hl := lv_entry ([.ref a_, .int p1, .int p2]) (n := 3) (Nat.le_of_ble_eq_true rfl)
  rw [lg_entry_eq]
  generalize (lg_sl ([.ref a_, .int p1, .int p2]) ++ List.replicate (3 - (lg_sl ([.ref a_, .int p1, .int p2])).length) Slot.unset).toArray = ls at hl ⊢
  have hl : lv_has ls 3 [(0, .ref a_), (1, .int p1), (2, .int p2)] := hl
  obtain ⟨Q, hQ⟩ : ∃ Q : State → Prop, Q = MQ below (vp_Si (fun q : Int32 => q = rr)) #[Value.ref a_, Value.int p1, Value.int p2] s 0 0 (fun _ => False) := ⟨_, rfl⟩
  rw [← hQ]
  change W p l e ({ frames := 0, cells := 0, slots := 0, locals := 0 } : Room) s m #[Value.ref a_, Value.int p1, Value.int p2] below meth c s.heap [] 0 0 Q (F0 m 0 ls [])
  unfold F_X5_shareOf at hF
  refine lv_iload_n hx hb dX5_shareOf_0 rfl (lv_at hl 2 rfl) ?_
  refine lv_if_lt (tgt := 9) hx hb dX5_shareOf_1 (by decide) (fun c_1 => ?_) (fun c_1 => ?_)
  ·
    replace hF := ip c_1 hF
    refine lv_iconst (v := 0) hx hb dX5_shareOf_9 (by decide) ?_
    rw [hQ]
    obtain e9_0 := inj1 hF
    exact W.iret (v := (0 : Int32)) hx hb hr (fun tt ht hW => ⟨_, rfl, e9_0, ht⟩) (fun _ h => by cases h) dX5_shareOf_10
  ·
    replace hF := inn c_1 hF
    refine lv_iload_n hx hb dX5_shareOf_4 rfl (lv_at hl 2 rfl) ?_
    refine lv_iconst (v := 1) hx hb dX5_shareOf_5 (by decide) ?_
    refine lv_icmp_le (tgt := 11) hx hb dX5_shareOf_6 (by decide) (fun c_2 => ?_) (fun c_2 => ?_)
    ·
      replace hF := ip c_2 hF
      refine lv_iload_n hx hb dX5_shareOf_11 rfl (lv_at hl 1 rfl) ?_
      refine lv_aload_n hx hb dX5_shareOf_12 rfl (lv_at hl 0 rfl) ?_
      refine gt_X5_5 (v := .ref a_leftOver) hx hb hts i_f_X5_shareOf_X5 hown hK hP 0 rfl (hts (.fieldLink RX5 28 "HushWatch$State" "leftOver" "[I") (List.mem_of_getElem? (i := 1) rfl)) rfl dX5_shareOf_13 ?_
      refine lv_iload_n hx hb dX5_shareOf_16 rfl (lv_at hl 2 rfl) ?_
      replace hF := ix_s hF
      obtain ⟨hi_3, hF⟩ := hF
      refine va_iald hx hb hK hP 2 0 rfl rfl hi_3 dX5_shareOf_17 ?_
      refine lv_icmp_ge (tgt := 32) hx hb dX5_shareOf_18 (by decide) (fun c_4 => ?_) (fun c_4 => ?_)
      ·
        replace hF := ip c_4 hF
        refine lv_aload_n hx hb dX5_shareOf_32 rfl (lv_at hl 0 rfl) ?_
        refine gt_X5_4 (v := .ref a_share) hx hb hts i_f_X5_shareOf_X5 hown hK hP 0 rfl (hts (.fieldLink RX5 25 "HushWatch$State" "share" "[I") (List.mem_of_getElem? (i := 2) rfl)) rfl dX5_shareOf_33 ?_
        refine lv_iload_n hx hb dX5_shareOf_36 rfl (lv_at hl 2 rfl) ?_
        replace hF := ix_s hF
        obtain ⟨hi_5, hF⟩ := hF
        refine va_iald hx hb hK hP 1 0 rfl rfl hi_5 dX5_shareOf_37 ?_
        rw [hQ]
        obtain e9_0 := inj1 hF
        exact W.iret (v := c_share p2.toNatClampNeg) hx hb hr (fun tt ht hW => ⟨_, rfl, e9_0, ht⟩) (fun _ h => by cases h) dX5_shareOf_38
      ·
        replace hF := inn c_4 hF
        refine lv_aload_n hx hb dX5_shareOf_21 rfl (lv_at hl 0 rfl) ?_
        refine gt_X5_4 (v := .ref a_share) hx hb hts i_f_X5_shareOf_X5 hown hK hP 0 rfl (hts (.fieldLink RX5 25 "HushWatch$State" "share" "[I") (List.mem_of_getElem? (i := 2) rfl)) rfl dX5_shareOf_22 ?_
        refine lv_iload_n hx hb dX5_shareOf_25 rfl (lv_at hl 2 rfl) ?_
        replace hF := ix_s hF
        obtain ⟨hi_6, hF⟩ := hF
        refine va_iald hx hb hK hP 1 0 rfl rfl hi_6 dX5_shareOf_26 ?_
        refine lv_iconst (v := 1) hx hb dX5_shareOf_27 (by decide) ?_
        refine lv_iadd hx hb dX5_shareOf_28 ?_
        refine lv_goto (tgt := 38) hx hb dX5_shareOf_29 (by decide) ?_
        rw [hQ]
        obtain e9_0 := inj1 hF
        exact W.iret (v := (c_share p2.toNatClampNeg) + (1 : Int32)) hx hb hr (fun tt ht hW => ⟨_, rfl, e9_0, ht⟩) (fun _ h => by cases h) dX5_shareOf_38
    ·
      replace hF := inn c_2 hF
      refine lv_iconst (v := 0) hx hb dX5_shareOf_9 (by decide) ?_
      rw [hQ]
      obtain e9_0 := inj1 hF
      exact W.iret (v := (0 : Int32)) hx hb hr (fun tt ht hW => ⟨_, rfl, e9_0, ht⟩) (fun _ h => by cases h) dX5_shareOf_10

def F_X5_drift (p1 : Int32) (p2 : Int32) (c_row : Nat → Int32) : Option (Int32) :=
  if p1 < (0 : Int32) then some (0 : Int32) else if (8 : Int32) ≤ p1 then some (0 : Int32) else if p2 < (0 : Int32) then some (0 : Int32) else if p2 ≤ (1 : Int32) then ixF ((((17 : Int32) + (p1 * (8 : Int32))) + p2) + (0 : Int32)) 81 (ixF ((((17 : Int32) + (p1 * (8 : Int32))) + p2) + (2 : Int32)) 81 (ixF ((((17 : Int32) + (p1 * (8 : Int32))) + p2) + (4 : Int32)) 81 (some (((c_row ((((17 : Int32) + (p1 * (8 : Int32))) + p2) + (0 : Int32)).toNatClampNeg) - (c_row ((((17 : Int32) + (p1 * (8 : Int32))) + p2) + (2 : Int32)).toNatClampNeg)) + (c_row ((((17 : Int32) + (p1 * (8 : Int32))) + p2) + (4 : Int32)).toNatClampNeg))))) else some (0 : Int32)
abbrev w_X5_drift (E : EE) (a_ a_row a_partners a_share a_leftOver : Nat) (c_askedCount : Int32) (c_outcome : Int32) (c_row : Nat → Int32) : va_W := [(a_, .inr (6, [.ref a_row, .ref a_partners, .int c_askedCount, .int c_outcome, .ref a_share, .ref a_leftOver])), (a_row, .inl (E.2.1, 81, .inl c_row))]
def v_f_X5_drift : List Cond := .code yX5_drift cX5_drift 4 (some .int) :: ([.fieldLink RX5 11 "HushWatch$State" "row" "[I"] ++ (wsX50 ++ ([])))
theorem gw_f_X5_drift : v_f_X5_drift.all goodWord = true := by decide +kernel
theorem i_f_X5_drift_X5 : ∀ w ∈ wsX50, w ∈ v_f_X5_drift := fun _ h => List.mem_cons_of_mem _ (List.mem_append_right _ (List.mem_append_left _ h))
theorem hd_X5_drift : yX5_drift.cls = RX5 ∧ yX5_drift.cls ≠ "java/lang/invoke/MethodHandle" ∧ yX5_drift.cls ≠ "java/lang/invoke/VarHandle" ∧ (parseMethodDescriptor yX5_drift.desc).map (fun d => d.parameters.length) = some 2 := by decide +kernel
set_option maxHeartbeats 4000000 in
set_option maxRecDepth 100000 in
theorem f_X5_drift (l : Launch) (E : EE) {a_ a_row a_partners a_share a_leftOver : Nat} {p1 : Int32} {p2 : Int32} {c_askedCount : Int32} {c_outcome : Int32} {c_row : Nat → Int32} {rr : Int32} (hF : F_X5_drift p1 p2 c_row = some rr) : Met l yX5_drift v_f_X5_drift (({ frames := 0, cells := 0, slots := 0, locals := 0 } : Room)) (va_Pc [.ref a_, .int p1, .int p2] (pP E (w_X5_drift E a_ a_row a_partners a_share a_leftOver c_askedCount c_outcome c_row))) (vp_Si (fun q : Int32 => q = rr)) 0 0 (fun _ => False) := by
  refine Met.ofW (cc := cX5_drift) (maxL := 4) (ret := (some .int)) (by decide) rfl ?_
  intro p e s m args below meth c s₁ B hml hv
  obtain ⟨rfl, ⟨hK, hN⟩, hP⟩ := hv
  have hx := B.exec
  have hb := B.bytes
  have hr := B.returns
  have hts := atoms_spec (ws := v_f_X5_drift) B.pre
  have hown : s.vm.findClass RX5 = some m.cls := own_of hd_X5_drift.1 (findClass_of_methodNamed B.named)
  have hlocks : meth.locks = false := B.notSynchronized
  replace hP : va_P E.1 vwCl [(a_, .inr (6, [.ref a_row, .ref a_partners, .int c_askedCount, .int c_outcome, .ref a_share, .ref a_leftOver])), (a_row, .inl (E.2.1, 81, .inl c_row))] s.heap := hP
  have hl := lv_entry ([.ref a_, .int p1, .int p2]) (n := 4) (Nat.le_of_ble_eq_true rfl)
  rw [lg_entry_eq]
  generalize (lg_sl ([.ref a_, .int p1, .int p2]) ++ List.replicate (4 - (lg_sl ([.ref a_, .int p1, .int p2])).length) Slot.unset).toArray = ls at hl ⊢
  have hl : lv_has ls 4 [(0, .ref a_), (1, .int p1), (2, .int p2)] := hl
  obtain ⟨Q, hQ⟩ : ∃ Q : State → Prop, Q = MQ below (vp_Si (fun q : Int32 => q = rr)) #[Value.ref a_, Value.int p1, Value.int p2] s 0 0 (fun _ => False) := ⟨_, rfl⟩
  rw [← hQ]
  change W p l e ({ frames := 0, cells := 0, slots := 0, locals := 0 } : Room) s m #[Value.ref a_, Value.int p1, Value.int p2] below meth c s.heap [] 0 0 Q (F0 m 0 ls [])
  unfold F_X5_drift at hF
  refine lv_iload_n hx hb dX5_drift_0 rfl (lv_at hl 1 rfl) ?_
  refine lv_if_lt (tgt := 19) hx hb dX5_drift_1 (by decide) (fun c_1 => ?_) (fun c_1 => ?_)
  ·
    replace hF := ip c_1 hF
    refine lv_iconst (v := 0) hx hb dX5_drift_19 (by decide) ?_
    rw [hQ]
    obtain e9_0 := inj1 hF
    exact W.iret (v := (0 : Int32)) hx hb hr (fun tt ht hW => ⟨_, rfl, e9_0, ht⟩) (fun _ h => by cases h) dX5_drift_20
  ·
    replace hF := inn c_1 hF
    refine lv_iload_n hx hb dX5_drift_4 rfl (lv_at hl 1 rfl) ?_
    refine lv_bipush (v := 8) hx hb dX5_drift_5 (by decide) ?_
    refine lv_icmp_ge (tgt := 19) hx hb dX5_drift_7 (by decide) (fun c_2 => ?_) (fun c_2 => ?_)
    ·
      replace hF := ip c_2 hF
      refine lv_iconst (v := 0) hx hb dX5_drift_19 (by decide) ?_
      rw [hQ]
      obtain e9_0 := inj1 hF
      exact W.iret (v := (0 : Int32)) hx hb hr (fun tt ht hW => ⟨_, rfl, e9_0, ht⟩) (fun _ h => by cases h) dX5_drift_20
    ·
      replace hF := inn c_2 hF
      refine lv_iload_n hx hb dX5_drift_10 rfl (lv_at hl 2 rfl) ?_
      refine lv_if_lt (tgt := 19) hx hb dX5_drift_11 (by decide) (fun c_3 => ?_) (fun c_3 => ?_)
      ·
        replace hF := ip c_3 hF
        refine lv_iconst (v := 0) hx hb dX5_drift_19 (by decide) ?_
        rw [hQ]
        obtain e9_0 := inj1 hF
        exact W.iret (v := (0 : Int32)) hx hb hr (fun tt ht hW => ⟨_, rfl, e9_0, ht⟩) (fun _ h => by cases h) dX5_drift_20
      ·
        replace hF := inn c_3 hF
        refine lv_iload_n hx hb dX5_drift_14 rfl (lv_at hl 2 rfl) ?_
        refine lv_iconst (v := 1) hx hb dX5_drift_15 (by decide) ?_
        refine lv_icmp_le (tgt := 21) hx hb dX5_drift_16 (by decide) (fun c_4 => ?_) (fun c_4 => ?_)
        ·
          replace hF := ip c_4 hF
          refine lv_bipush (v := 17) hx hb dX5_drift_21 (by decide) ?_
          refine lv_iload_n hx hb dX5_drift_23 rfl (lv_at hl 1 rfl) ?_
          refine lv_bipush (v := 8) hx hb dX5_drift_24 (by decide) ?_
          refine lv_imul hx hb dX5_drift_26 ?_
          refine lv_iadd hx hb dX5_drift_27 ?_
          refine lv_iload_n hx hb dX5_drift_28 rfl (lv_at hl 2 rfl) ?_
          refine lv_iadd hx hb dX5_drift_29 ?_
          refine lv_istore_n (lv' := [(3, .int (((17 : Int32) + (p1 * (8 : Int32))) + p2)), (0, .ref a_), (1, .int p1), (2, .int p2)]) hx hb dX5_drift_30 rfl hl (by decide) rfl (fun ls hl => ?_)
          refine lv_aload_n hx hb dX5_drift_31 rfl (lv_at hl 1 rfl) ?_
          refine gt_X5_0 (v := .ref a_row) hx hb hts i_f_X5_drift_X5 hown hK hP 0 rfl (hts (.fieldLink RX5 11 "HushWatch$State" "row" "[I") (List.mem_of_getElem? (i := 1) rfl)) rfl dX5_drift_32 ?_
          refine lv_iload_n hx hb dX5_drift_35 rfl (lv_at hl 0 rfl) ?_
          refine lv_iconst (v := 0) hx hb dX5_drift_36 (by decide) ?_
          refine lv_iadd hx hb dX5_drift_37 ?_
          replace hF := ix_s hF
          obtain ⟨hi_5, hF⟩ := hF
          refine va_iald hx hb hK hP 1 0 rfl rfl hi_5 dX5_drift_38 ?_
          refine lv_aload_n hx hb dX5_drift_39 rfl (lv_at hl 1 rfl) ?_
          refine gt_X5_0 (v := .ref a_row) hx hb hts i_f_X5_drift_X5 hown hK hP 0 rfl (hts (.fieldLink RX5 11 "HushWatch$State" "row" "[I") (List.mem_of_getElem? (i := 1) rfl)) rfl dX5_drift_40 ?_
          refine lv_iload_n hx hb dX5_drift_43 rfl (lv_at hl 0 rfl) ?_
          refine lv_iconst (v := 2) hx hb dX5_drift_44 (by decide) ?_
          refine lv_iadd hx hb dX5_drift_45 ?_
          replace hF := ix_s hF
          obtain ⟨hi_6, hF⟩ := hF
          refine va_iald hx hb hK hP 1 0 rfl rfl hi_6 dX5_drift_46 ?_
          refine lv_isub hx hb dX5_drift_47 ?_
          refine lv_aload_n hx hb dX5_drift_48 rfl (lv_at hl 1 rfl) ?_
          refine gt_X5_0 (v := .ref a_row) hx hb hts i_f_X5_drift_X5 hown hK hP 0 rfl (hts (.fieldLink RX5 11 "HushWatch$State" "row" "[I") (List.mem_of_getElem? (i := 1) rfl)) rfl dX5_drift_49 ?_
          refine lv_iload_n hx hb dX5_drift_52 rfl (lv_at hl 0 rfl) ?_
          refine lv_iconst (v := 4) hx hb dX5_drift_53 (by decide) ?_
          refine lv_iadd hx hb dX5_drift_54 ?_
          replace hF := ix_s hF
          obtain ⟨hi_7, hF⟩ := hF
          refine va_iald hx hb hK hP 1 0 rfl rfl hi_7 dX5_drift_55 ?_
          refine lv_iadd hx hb dX5_drift_56 ?_
          rw [hQ]
          obtain e9_0 := inj1 hF
          exact W.iret (v := ((c_row ((((17 : Int32) + (p1 * (8 : Int32))) + p2) + (0 : Int32)).toNatClampNeg) - (c_row ((((17 : Int32) + (p1 * (8 : Int32))) + p2) + (2 : Int32)).toNatClampNeg)) + (c_row ((((17 : Int32) + (p1 * (8 : Int32))) + p2) + (4 : Int32)).toNatClampNeg)) hx hb hr (fun tt ht hW => ⟨_, rfl, e9_0, ht⟩) (fun _ h => by cases h) dX5_drift_57
        ·
          replace hF := inn c_4 hF
          refine lv_iconst (v := 0) hx hb dX5_drift_19 (by decide) ?_
          rw [hQ]
          obtain e9_0 := inj1 hF
          exact W.iret (v := (0 : Int32)) hx hb hr (fun tt ht hW => ⟨_, rfl, e9_0, ht⟩) (fun _ h => by cases h) dX5_drift_20

def B_X5_balance_42 (c_share : Nat → Int32) (c_leftOver : Nat → Int32) (x2 : Int32) (x3 : Int32) (x4 : Int32) (c_row : Nat → Int32) : Option ((Int32 × (Nat → Int32)) ⊕ ((Nat → Int32))) :=
  if (2 : Int32) ≤ x4 then some (.inr c_row) else bd1 (F_X5_shareOf x2 x4 c_share c_leftOver) (fun r_7 => bd1 (F_X5_drift x3 x4 c_row) (fun r_9 => bd1 (F_X5_of x3 ((4 : Int32) + x4) c_row) (fun r_11 => bd1 (F_X5_put x3 ((4 : Int32) + x4) (r_11 + (r_7 - r_9)) c_row) (fun w_13 => some (.inl (x4 + (1 : Int32), w_13))))))
def B_X5_balance_20 (K : Nat) (p1 : Int32) (c_share : Nat → Int32) (c_leftOver : Nat → Int32) (x2 : Int32) (x3 : Int32) (c_row : Nat → Int32) : Option ((Int32 × Int32 × (Nat → Int32)) ⊕ (Int32 × (Nat → Int32))) :=
  bd1 (F_X5_sites c_row) (fun r_2 => if r_2 ≤ x3 then some (.inr (x2, c_row)) else if (p1 >>> (x3 &&& (31 : Int32))) &&& (1 : Int32) = (0 : Int32) then some (.inl (x2, x3 + (1 : Int32), c_row)) else bd1 (lpF (fun u9 : Int32 × (Nat → Int32) => B_X5_balance_42 c_share c_leftOver x2 x3 u9.1 u9.2) K ((0 : Int32), c_row)) (fun c_row_15 => some (.inl (x2 + (1 : Int32), x3 + (1 : Int32), c_row_15))))
def F_X5_balance (K : Nat) (p1 : Int32) (c_row : Nat → Int32) (c_askedCount : Int32) (c_outcome : Int32) (c_share : Nat → Int32) (c_leftOver : Nat → Int32) : Option (Int32 × (Nat → Int32) × Int32) :=
  nmF (upd c_row 13 ((c_row 13) + (1 : Int32))) (fun f_1 => bd2 (lpF (fun u9 : Int32 × Int32 × (Nat → Int32) => B_X5_balance_20 K p1 c_share c_leftOver u9.1 u9.2.1 u9.2.2) K ((0 : Int32), (0 : Int32), f_1)) (fun x2_17 c_row_18 => some (((1 : Int32) + ((2 : Int32) * c_askedCount)) + x2_17, c_row_18, (1 : Int32))))
abbrev w_X5_balance (E : EE) (a_ a_row a_partners a_share a_leftOver : Nat) (c_askedCount : Int32) (c_outcome : Int32) (c_row : Nat → Int32) (c_share : Nat → Int32) (c_leftOver : Nat → Int32) : va_W := [(a_, .inr (6, [.ref a_row, .ref a_partners, .int c_askedCount, .int c_outcome, .ref a_share, .ref a_leftOver])), (a_row, .inl (E.2.1, 81, .inl c_row)), (a_share, .inl (E.2.1, 2, .inl c_share)), (a_leftOver, .inl (E.2.1, 2, .inl c_leftOver))]
def v_f_X5_balance : List Cond := .code yX5_balance cX5_balance 6 (some .int) :: ([.fieldLink RX5 11 "HushWatch$State" "row" "[I", .fieldLink RX5 22 "HushWatch$State" "outcome" "I", .fieldLink RX5 18 "HushWatch$State" "askedCount" "I", .methodLink RX5 45 yX5_sites, .instanceMethod yX5_sites, .selects RX5 yX5_sites yX5_sites, .initialized RX5, .methodLink RX5 168 yX5_shareOf, .instanceMethod yX5_shareOf, .selects RX5 yX5_shareOf yX5_shareOf, .methodLink RX5 72 yX5_drift, .instanceMethod yX5_drift, .selects RX5 yX5_drift yX5_drift, .methodLink RX5 69 yX5_of, .instanceMethod yX5_of, .selects RX5 yX5_of yX5_of, .methodLink RX5 52 yX5_put, .instanceMethod yX5_put, .selects RX5 yX5_put yX5_put] ++ (wsX50 ++ (v_f_X5_sites ++ (v_f_X5_shareOf ++ (v_f_X5_drift ++ (v_f_X5_of ++ (v_f_X5_put ++ ([]))))))))
theorem gw_f_X5_balance : v_f_X5_balance.all goodWord = true := by decide +kernel
theorem i_f_X5_balance_X5 : ∀ w ∈ wsX50, w ∈ v_f_X5_balance := fun _ h => List.mem_cons_of_mem _ (List.mem_append_right _ (List.mem_append_left _ h))
theorem g_f_X5_balance_f_X5_sites_45 : GoodIn v_f_X5_balance (wsV RX5 45 RX5 yX5_sites v_f_X5_sites) := goodIn_app (goodIn_of _ (by decide +kernel)) (goodIn_sub (fun _ h => List.mem_cons_of_mem _ (List.mem_append_right _ (List.mem_append_right _ (List.mem_append_left _ h)))) gw_f_X5_sites)
theorem g_f_X5_balance_f_X5_shareOf_168 : GoodIn v_f_X5_balance (wsV RX5 168 RX5 yX5_shareOf v_f_X5_shareOf) := goodIn_app (goodIn_of _ (by decide +kernel)) (goodIn_sub (fun _ h => List.mem_cons_of_mem _ (List.mem_append_right _ (List.mem_append_right _ (List.mem_append_right _ (List.mem_append_left _ h))))) gw_f_X5_shareOf)
theorem g_f_X5_balance_f_X5_drift_72 : GoodIn v_f_X5_balance (wsV RX5 72 RX5 yX5_drift v_f_X5_drift) := goodIn_app (goodIn_of _ (by decide +kernel)) (goodIn_sub (fun _ h => List.mem_cons_of_mem _ (List.mem_append_right _ (List.mem_append_right _ (List.mem_append_right _ (List.mem_append_right _ (List.mem_append_left _ h)))))) gw_f_X5_drift)
theorem g_f_X5_balance_f_X5_of_69 : GoodIn v_f_X5_balance (wsV RX5 69 RX5 yX5_of v_f_X5_of) := goodIn_app (goodIn_of _ (by decide +kernel)) (goodIn_sub (fun _ h => List.mem_cons_of_mem _ (List.mem_append_right _ (List.mem_append_right _ (List.mem_append_right _ (List.mem_append_right _ (List.mem_append_right _ (List.mem_append_left _ h))))))) gw_f_X5_of)
theorem g_f_X5_balance_f_X5_put_52 : GoodIn v_f_X5_balance (wsV RX5 52 RX5 yX5_put v_f_X5_put) := goodIn_app (goodIn_of _ (by decide +kernel)) (goodIn_sub (fun _ h => List.mem_cons_of_mem _ (List.mem_append_right _ (List.mem_append_right _ (List.mem_append_right _ (List.mem_append_right _ (List.mem_append_right _ (List.mem_append_right _ (List.mem_append_left _ h)))))))) gw_f_X5_put)
theorem hd_X5_balance : yX5_balance.cls = RX5 ∧ yX5_balance.cls ≠ "java/lang/invoke/MethodHandle" ∧ yX5_balance.cls ≠ "java/lang/invoke/VarHandle" ∧ (parseMethodDescriptor yX5_balance.desc).map (fun d => d.parameters.length) = some 1 := by decide +kernel
set_option maxHeartbeats 4000000 in
set_option maxRecDepth 100000 in
theorem wb_X5_balance_42 {p : Program} (l : Launch) {e : Env} {s : State} {m : MethodId} {below : List Frame} {meth : Method} {c : Code} {Q : State → Prop} (E : EE) (K : Nat) {a_ a_row a_partners a_share a_leftOver : Nat} {p1 : Int32} {c_askedCount : Int32} {c_share : Nat → Int32} {c_leftOver : Nat → Int32} {x2 : Int32} {x3 : Int32} {x4 : Int32} {c_row : Nat → Int32} {c_outcome : Int32} (hx : p.tables.exec = Jvm.exec) (hb : c.code = cX5_balance) (hml : c.maxLocals = 6) (hown : s.vm.findClass RX5 = some m.cls) (hts : ∀ w ∈ v_f_X5_balance, w.before #[Value.ref a_, Value.int p1] s = true) (hK : va_K E.1 vwCl (TY E) s) (hN : NX s) {A : Nat → Prop} (hA : ∀ q : Nat, s.heap.size ≤ q → A q) {xx : (Int32 × (Nat → Int32)) ⊕ ((Nat → Int32))} (hC : ∀ (x4 : Int32), ∀ (c_row : Nat → Int32), xx = .inl (x4, c_row) → ∀ (H : Heap) (locs : List Loc) (ls : Array Slot), va_P E.1 vwCl (w_X5_balance E a_ a_row a_partners a_share a_leftOver c_askedCount c_outcome c_row c_share c_leftOver) H → va_D A (w_X5_balance E a_ a_row a_partners a_share a_leftOver c_askedCount c_outcome c_row c_share c_leftOver) → va_S A s.heap H locs → lv_has ls 6 [(0, .ref a_), (1, .int p1), (2, .int x2), (3, .int x3), (4, .int x4)] → W p l e ({ frames := 1, cells := 0, slots := 0, locals := 23 } : Room) s m #[Value.ref a_, Value.int p1] below meth c H locs 0 0 Q (F0 m 42 ls [])) (hE : ∀ (c_row : Nat → Int32), xx = .inr c_row → ((∀ (H : Heap) (locs : List Loc) (ls : Array Slot), va_P E.1 vwCl (w_X5_balance E a_ a_row a_partners a_share a_leftOver c_askedCount c_outcome c_row c_share c_leftOver) H → va_D A (w_X5_balance E a_ a_row a_partners a_share a_leftOver c_askedCount c_outcome c_row c_share c_leftOver) → va_S A s.heap H locs → lv_has ls 6 [(0, .ref a_), (1, .int p1), (2, .int x2), (3, .int x3)] → W p l e ({ frames := 1, cells := 0, slots := 0, locals := 23 } : Room) s m #[Value.ref a_, Value.int p1] below meth c H locs 0 0 Q (F0 m 92 ls [])))) (hF : B_X5_balance_42 c_share c_leftOver x2 x3 x4 c_row = some xx) : ∀ (H : Heap) (locs : List Loc) (ls : Array Slot), va_P E.1 vwCl (w_X5_balance E a_ a_row a_partners a_share a_leftOver c_askedCount c_outcome c_row c_share c_leftOver) H → va_D A (w_X5_balance E a_ a_row a_partners a_share a_leftOver c_askedCount c_outcome c_row c_share c_leftOver) → va_S A s.heap H locs → lv_has ls 6 [(0, .ref a_), (1, .int p1), (2, .int x2), (3, .int x3), (4, .int x4)] → W p l e ({ frames := 1, cells := 0, slots := 0, locals := 23 } : Room) s m #[Value.ref a_, Value.int p1] below meth c H locs 0 0 Q (F0 m 42 ls []) := by
  unfold B_X5_balance_42 at hF
  intro H locs ls hP hD hS hl
  replace hP : va_P E.1 vwCl [(a_, .inr (6, [.ref a_row, .ref a_partners, .int c_askedCount, .int c_outcome, .ref a_share, .ref a_leftOver])), (a_row, .inl (E.2.1, 81, .inl c_row)), (a_share, .inl (E.2.1, 2, .inl c_share)), (a_leftOver, .inl (E.2.1, 2, .inl c_leftOver))] H := hP
  replace hD : va_D A [(a_, .inr (6, [.ref a_row, .ref a_partners, .int c_askedCount, .int c_outcome, .ref a_share, .ref a_leftOver])), (a_row, .inl (E.2.1, 81, .inl c_row)), (a_share, .inl (E.2.1, 2, .inl c_share)), (a_leftOver, .inl (E.2.1, 2, .inl c_leftOver))] := hD
  refine lv_iload hx hb dX5_balance_42 (lv_at hl 4 rfl) ?_
  refine lv_iconst (v := 2) hx hb dX5_balance_44 (by decide) ?_
  refine lv_icmp_ge (tgt := 92) hx hb dX5_balance_45 (by decide) (fun c_6 => ?_) (fun c_6 => ?_)
  ·
    replace hF := ip c_6 hF
    cases hF
    exact hE c_row rfl H locs ls (hP.sub [0, 1, 2, 3] rfl) (hD.sub [0, 1, 2, 3] (by decide) rfl) hS (lv_sub hl [0, 1, 2, 3] rfl)
  ·
    replace hF := inn c_6 hF
    refine lv_aload_n hx hb dX5_balance_48 rfl (lv_at hl 0 rfl) ?_
    refine lv_iload_n hx hb dX5_balance_49 rfl (lv_at hl 2 rfl) ?_
    refine lv_iload hx hb dX5_balance_50 (lv_at hl 4 rfl) ?_
    replace hF := bd1_s hF
    obtain ⟨r_7, hc_8, hF⟩ := hF
    have hPc : va_P E.1 vwCl (w_X5_shareOf E a_ a_row a_partners a_share a_leftOver c_askedCount c_outcome c_share c_leftOver) H := hP.sub (ws' := [(a_, .inr (6, [.ref a_row, .ref a_partners, .int c_askedCount, .int c_outcome, .ref a_share, .ref a_leftOver])), (a_share, .inl (E.2.1, 2, .inl c_share)), (a_leftOver, .inl (E.2.1, 2, .inl c_leftOver))]) [0, 2, 3] rfl
    have hrc := va_recv hK hPc (ci := 6) (q0 := 0) rfl rfl
    refine pE_i (va_runV (As := [.int x2, .int x4]) (rest := [])  ⟨hx, hb, hml, hown, hts⟩ (f_X5_shareOf l E (a_ := a_) (a_row := a_row) (a_partners := a_partners) (a_share := a_share) (a_leftOver := a_leftOver) (p1 := x2) (p2 := x4) (c_askedCount := c_askedCount) (c_outcome := c_outcome) (c_share := c_share) (c_leftOver := c_leftOver) hc_8) (cwV 2 hts g_f_X5_balance_f_X5_shareOf_168 rfl rfl rfl hd_X5_shareOf ⟨Nat.le_of_ble_eq_true rfl, Nat.le_of_ble_eq_true rfl⟩) ⟨pP.blind, hrc, (pP.pre ⟨hK, hN⟩ hPc)⟩ rfl rfl hl.1 rfl (lv_room (Nat.le_of_ble_eq_true rfl)) dX5_balance_52 ⟨Nat.le_of_ble_eq_true rfl, Nat.le_of_ble_eq_true rfl⟩) ?_
    refine lv_aload_n hx hb dX5_balance_55 rfl (lv_at hl 0 rfl) ?_
    refine lv_iload_n hx hb dX5_balance_56 rfl (lv_at hl 3 rfl) ?_
    refine lv_iload hx hb dX5_balance_57 (lv_at hl 4 rfl) ?_
    replace hF := bd1_s hF
    obtain ⟨r_9, hc_10, hF⟩ := hF
    have hPc : va_P E.1 vwCl (w_X5_drift E a_ a_row a_partners a_share a_leftOver c_askedCount c_outcome c_row) H := hP.sub (ws' := [(a_, .inr (6, [.ref a_row, .ref a_partners, .int c_askedCount, .int c_outcome, .ref a_share, .ref a_leftOver])), (a_row, .inl (E.2.1, 81, .inl c_row))]) [0, 1] rfl
    have hrc := va_recv hK hPc (ci := 6) (q0 := 0) rfl rfl
    refine pE_i (va_runV (As := [.int x3, .int x4]) (rest := [.int r_7])  ⟨hx, hb, hml, hown, hts⟩ (f_X5_drift l E (a_ := a_) (a_row := a_row) (a_partners := a_partners) (a_share := a_share) (a_leftOver := a_leftOver) (p1 := x3) (p2 := x4) (c_askedCount := c_askedCount) (c_outcome := c_outcome) (c_row := c_row) hc_10) (cwV 2 hts g_f_X5_balance_f_X5_drift_72 rfl rfl rfl hd_X5_drift ⟨Nat.le_of_ble_eq_true rfl, Nat.le_of_ble_eq_true rfl⟩) ⟨pP.blind, hrc, (pP.pre ⟨hK, hN⟩ hPc)⟩ rfl rfl hl.1 rfl (lv_room (Nat.le_of_ble_eq_true rfl)) dX5_balance_59 ⟨Nat.le_of_ble_eq_true rfl, Nat.le_of_ble_eq_true rfl⟩) ?_
    refine lv_isub hx hb dX5_balance_62 ?_
    refine lv_istore (lv' := [(5, .int (r_7 - r_9)), (0, .ref a_), (1, .int p1), (2, .int x2), (3, .int x3), (4, .int x4)]) hx hb dX5_balance_63 hl (by decide) rfl (fun ls hl => ?_)
    refine lv_aload_n hx hb dX5_balance_65 rfl (lv_at hl 1 rfl) ?_
    refine lv_iload_n hx hb dX5_balance_66 rfl (lv_at hl 4 rfl) ?_
    refine lv_iconst (v := 4) hx hb dX5_balance_67 (by decide) ?_
    refine lv_iload hx hb dX5_balance_68 (lv_at hl 5 rfl) ?_
    refine lv_iadd hx hb dX5_balance_70 ?_
    refine lv_aload_n hx hb dX5_balance_71 rfl (lv_at hl 1 rfl) ?_
    refine lv_iload_n hx hb dX5_balance_72 rfl (lv_at hl 4 rfl) ?_
    refine lv_iconst (v := 4) hx hb dX5_balance_73 (by decide) ?_
    refine lv_iload hx hb dX5_balance_74 (lv_at hl 5 rfl) ?_
    refine lv_iadd hx hb dX5_balance_76 ?_
    replace hF := bd1_s hF
    obtain ⟨r_11, hc_12, hF⟩ := hF
    have hPc : va_P E.1 vwCl (w_X5_of E a_ a_row a_partners a_share a_leftOver c_askedCount c_outcome c_row) H := hP.sub (ws' := [(a_, .inr (6, [.ref a_row, .ref a_partners, .int c_askedCount, .int c_outcome, .ref a_share, .ref a_leftOver])), (a_row, .inl (E.2.1, 81, .inl c_row))]) [0, 1] rfl
    have hrc := va_recv hK hPc (ci := 6) (q0 := 0) rfl rfl
    refine pE_i (va_runV (As := [.int x3, .int ((4 : Int32) + x4)]) (rest := [.int ((4 : Int32) + x4), .int x3, .ref a_])  ⟨hx, hb, hml, hown, hts⟩ (f_X5_of l E (a_ := a_) (a_row := a_row) (a_partners := a_partners) (a_share := a_share) (a_leftOver := a_leftOver) (p1 := x3) (p2 := (4 : Int32) + x4) (c_askedCount := c_askedCount) (c_outcome := c_outcome) (c_row := c_row) hc_12) (cwV 2 hts g_f_X5_balance_f_X5_of_69 rfl rfl rfl hd_X5_of ⟨Nat.le_of_ble_eq_true rfl, Nat.le_of_ble_eq_true rfl⟩) ⟨pP.blind, hrc, (pP.pre ⟨hK, hN⟩ hPc)⟩ rfl rfl hl.1 rfl (lv_room (Nat.le_of_ble_eq_true rfl)) dX5_balance_77 ⟨Nat.le_of_ble_eq_true rfl, Nat.le_of_ble_eq_true rfl⟩) ?_
    refine lv_iload hx hb dX5_balance_80 (lv_at hl 0 rfl) ?_
    refine lv_iadd hx hb dX5_balance_82 ?_
    replace hF := bd1_s hF
    obtain ⟨w_13, hc_14, hF⟩ := hF
    obtain ⟨hPc, hDc, hFc⟩ := wcut (wc := (w_X5_put E a_ a_row a_partners a_share a_leftOver c_askedCount c_outcome c_row)) hP hD hS hA [0, 1] (by decide) rfl
    have hrc := va_recv hK hPc (ci := 6) (q0 := 0) rfl rfl
    refine cE_v (wc := (w_X5_put E a_ a_row a_partners a_share a_leftOver c_askedCount c_outcome c_row)) (wr := [(a_share, .inl (E.2.1, 2, .inl c_share)), (a_leftOver, .inl (E.2.1, 2, .inl c_leftOver))]) (w1 := (w_X5_put E a_ a_row a_partners a_share a_leftOver c_askedCount c_outcome w_13)) (va_runV (As := [.int x3, .int ((4 : Int32) + x4), .int (r_11 + (r_7 - r_9))]) (rest := [])  ⟨hx, hb, hml, hown, hts⟩ (f_X5_put l E H.size (a_ := a_) (a_row := a_row) (a_partners := a_partners) (a_share := a_share) (a_leftOver := a_leftOver) (p1 := x3) (p2 := (4 : Int32) + x4) (p3 := r_11 + (r_7 - r_9)) (c_askedCount := c_askedCount) (c_outcome := c_outcome) (c_row := c_row) hc_14) (cwV 3 hts g_f_X5_balance_f_X5_put_52 rfl rfl rfl hd_X5_put ⟨Nat.le_of_ble_eq_true rfl, Nat.le_of_ble_eq_true rfl⟩) ⟨pW.blind, hrc, (pW.pre ⟨hK, hN⟩ hPc hDc)⟩ rfl rfl hl.1 rfl (lv_room (Nat.le_of_ble_eq_true rfl)) dX5_balance_83 ⟨Nat.le_of_ble_eq_true rfl, Nat.le_of_ble_eq_true rfl⟩) hS hFc hP hD [0, 1] [2, 3] rfl rfl (by decide) (by decide) (fun H locs hP hD hS => ?_)
    replace hP : va_P E.1 vwCl [(a_share, .inl (E.2.1, 2, .inl c_share)), (a_leftOver, .inl (E.2.1, 2, .inl c_leftOver)), (a_, .inr (6, [.ref a_row, .ref a_partners, .int c_askedCount, .int c_outcome, .ref a_share, .ref a_leftOver])), (a_row, .inl (E.2.1, 81, .inl w_13))] H := hP
    replace hD : va_D A [(a_share, .inl (E.2.1, 2, .inl c_share)), (a_leftOver, .inl (E.2.1, 2, .inl c_leftOver)), (a_, .inr (6, [.ref a_row, .ref a_partners, .int c_askedCount, .int c_outcome, .ref a_share, .ref a_leftOver])), (a_row, .inl (E.2.1, 81, .inl w_13))] := hD
    refine lv_iinc (v := x4 + (1 : Int32)) (lv' := [(4, .int (x4 + (1 : Int32))), (5, .int (r_7 - r_9)), (0, .ref a_), (1, .int p1), (2, .int x2), (3, .int x3)]) hx hb dX5_balance_86 hl (k := 5) rfl (rfl) (by decide) rfl (fun ls hl => ?_)
    refine lv_goto (tgt := 42) hx hb dX5_balance_89 (by decide) ?_
    cases hF
    exact hC (x4 + (1 : Int32)) w_13 rfl H locs ls (hP.sub [2, 3, 0, 1] rfl) (hD.sub [2, 3, 0, 1] (by decide) rfl) hS (lv_sub hl [2, 3, 4, 5, 0] rfl)

set_option maxHeartbeats 4000000 in
set_option maxRecDepth 100000 in
theorem lw_X5_balance_42 {p : Program} (l : Launch) {e : Env} {s : State} {m : MethodId} {below : List Frame} {meth : Method} {c : Code} {Q : State → Prop} (E : EE) (K : Nat) {a_ a_row a_partners a_share a_leftOver : Nat} {p1 : Int32} {c_askedCount : Int32} {c_share : Nat → Int32} {c_leftOver : Nat → Int32} {x2 : Int32} {x3 : Int32} {c_outcome : Int32} (hx : p.tables.exec = Jvm.exec) (hb : c.code = cX5_balance) (hml : c.maxLocals = 6) (hown : s.vm.findClass RX5 = some m.cls) (hts : ∀ w ∈ v_f_X5_balance, w.before #[Value.ref a_, Value.int p1] s = true) (hK : va_K E.1 vwCl (TY E) s) (hN : NX s) {A : Nat → Prop} (hA : ∀ q : Nat, s.heap.size ≤ q → A q) (j9 : Nat) (x4 : Int32) (c_row : Nat → Int32) (c_row' : Nat → Int32) (hL : lpF (fun u9 : Int32 × (Nat → Int32) => B_X5_balance_42 c_share c_leftOver x2 x3 u9.1 u9.2) j9 (x4, c_row) = some c_row') (hX : (∀ (H : Heap) (locs : List Loc) (ls : Array Slot), va_P E.1 vwCl (w_X5_balance E a_ a_row a_partners a_share a_leftOver c_askedCount c_outcome c_row' c_share c_leftOver) H → va_D A (w_X5_balance E a_ a_row a_partners a_share a_leftOver c_askedCount c_outcome c_row' c_share c_leftOver) → va_S A s.heap H locs → lv_has ls 6 [(0, .ref a_), (1, .int p1), (2, .int x2), (3, .int x3)] → W p l e ({ frames := 1, cells := 0, slots := 0, locals := 23 } : Room) s m #[Value.ref a_, Value.int p1] below meth c H locs 0 0 Q (F0 m 92 ls []))) : ∀ (H : Heap) (locs : List Loc) (ls : Array Slot), va_P E.1 vwCl (w_X5_balance E a_ a_row a_partners a_share a_leftOver c_askedCount c_outcome c_row c_share c_leftOver) H → va_D A (w_X5_balance E a_ a_row a_partners a_share a_leftOver c_askedCount c_outcome c_row c_share c_leftOver) → va_S A s.heap H locs → lv_has ls 6 [(0, .ref a_), (1, .int p1), (2, .int x2), (3, .int x3), (4, .int x4)] → W p l e ({ frames := 1, cells := 0, slots := 0, locals := 23 } : Room) s m #[Value.ref a_, Value.int p1] below meth c H locs 0 0 Q (F0 m 42 ls []) := by
  exact lp_rule (P := (fun u9 : Int32 × (Nat → Int32) => ∀ (H : Heap) (locs : List Loc) (ls : Array Slot), va_P E.1 vwCl (w_X5_balance E a_ a_row a_partners a_share a_leftOver c_askedCount c_outcome u9.2 c_share c_leftOver) H → va_D A (w_X5_balance E a_ a_row a_partners a_share a_leftOver c_askedCount c_outcome u9.2 c_share c_leftOver) → va_S A s.heap H locs → lv_has ls 6 [(0, .ref a_), (1, .int p1), (2, .int x2), (3, .int x3), (4, .int u9.1)] → W p l e ({ frames := 1, cells := 0, slots := 0, locals := 23 } : Room) s m #[Value.ref a_, Value.int p1] below meth c H locs 0 0 Q (F0 m 42 ls []))) (R := (fun r9 : (Nat → Int32) => (∀ (H : Heap) (locs : List Loc) (ls : Array Slot), va_P E.1 vwCl (w_X5_balance E a_ a_row a_partners a_share a_leftOver c_askedCount c_outcome r9 c_share c_leftOver) H → va_D A (w_X5_balance E a_ a_row a_partners a_share a_leftOver c_askedCount c_outcome r9 c_share c_leftOver) → va_S A s.heap H locs → lv_has ls 6 [(0, .ref a_), (1, .int p1), (2, .int x2), (3, .int x3)] → W p l e ({ frames := 1, cells := 0, slots := 0, locals := 23 } : Room) s m #[Value.ref a_, Value.int p1] below meth c H locs 0 0 Q (F0 m 92 ls [])))) (fun u9 xx hF hC hE => wb_X5_balance_42 l E K (p1 := p1) (c_askedCount := c_askedCount) (c_share := c_share) (c_leftOver := c_leftOver) (x2 := x2) (x3 := x3) (x4 := u9.1) (c_row := u9.2) (c_outcome := c_outcome) hx hb hml hown hts hK hN hA (fun x4 c_row q9 => hC _ q9) (fun c_row q9 => hE _ q9) hF) j9 (x4, c_row) c_row' hL hX

set_option maxHeartbeats 4000000 in
set_option maxRecDepth 100000 in
theorem wb_X5_balance_20 {p : Program} (l : Launch) {e : Env} {s : State} {m : MethodId} {below : List Frame} {meth : Method} {c : Code} {Q : State → Prop} (E : EE) (K : Nat) {a_ a_row a_partners a_share a_leftOver : Nat} {p1 : Int32} {c_askedCount : Int32} {c_share : Nat → Int32} {c_leftOver : Nat → Int32} {x2 : Int32} {x3 : Int32} {c_row : Nat → Int32} {c_outcome : Int32} (hx : p.tables.exec = Jvm.exec) (hb : c.code = cX5_balance) (hml : c.maxLocals = 6) (hown : s.vm.findClass RX5 = some m.cls) (hts : ∀ w ∈ v_f_X5_balance, w.before #[Value.ref a_, Value.int p1] s = true) (hK : va_K E.1 vwCl (TY E) s) (hN : NX s) {A : Nat → Prop} (hA : ∀ q : Nat, s.heap.size ≤ q → A q) {xx : (Int32 × Int32 × (Nat → Int32)) ⊕ (Int32 × (Nat → Int32))} (hC : ∀ (x2 : Int32), ∀ (x3 : Int32), ∀ (c_row : Nat → Int32), xx = .inl (x2, x3, c_row) → ∀ (H : Heap) (locs : List Loc) (ls : Array Slot), va_P E.1 vwCl (w_X5_balance E a_ a_row a_partners a_share a_leftOver c_askedCount c_outcome c_row c_share c_leftOver) H → va_D A (w_X5_balance E a_ a_row a_partners a_share a_leftOver c_askedCount c_outcome c_row c_share c_leftOver) → va_S A s.heap H locs → lv_has ls 6 [(0, .ref a_), (1, .int p1), (2, .int x2), (3, .int x3)] → W p l e ({ frames := 1, cells := 0, slots := 0, locals := 23 } : Room) s m #[Value.ref a_, Value.int p1] below meth c H locs 0 0 Q (F0 m 20 ls [])) (hE : ∀ (x2 : Int32), ∀ (c_row : Nat → Int32), xx = .inr (x2, c_row) → ((∀ (H : Heap) (locs : List Loc) (ls : Array Slot), va_P E.1 vwCl (w_X5_balance E a_ a_row a_partners a_share a_leftOver c_askedCount c_outcome c_row c_share c_leftOver) H → va_D A (w_X5_balance E a_ a_row a_partners a_share a_leftOver c_askedCount c_outcome c_row c_share c_leftOver) → va_S A s.heap H locs → lv_has ls 6 [(0, .ref a_), (2, .int x2)] → W p l e ({ frames := 1, cells := 0, slots := 0, locals := 23 } : Room) s m #[Value.ref a_, Value.int p1] below meth c H locs 0 0 Q (F0 m 101 ls [])))) (hF : B_X5_balance_20 K p1 c_share c_leftOver x2 x3 c_row = some xx) : ∀ (H : Heap) (locs : List Loc) (ls : Array Slot), va_P E.1 vwCl (w_X5_balance E a_ a_row a_partners a_share a_leftOver c_askedCount c_outcome c_row c_share c_leftOver) H → va_D A (w_X5_balance E a_ a_row a_partners a_share a_leftOver c_askedCount c_outcome c_row c_share c_leftOver) → va_S A s.heap H locs → lv_has ls 6 [(0, .ref a_), (1, .int p1), (2, .int x2), (3, .int x3)] → W p l e ({ frames := 1, cells := 0, slots := 0, locals := 23 } : Room) s m #[Value.ref a_, Value.int p1] below meth c H locs 0 0 Q (F0 m 20 ls []) := by
  unfold B_X5_balance_20 at hF
  intro H locs ls hP hD hS hl
  replace hP : va_P E.1 vwCl [(a_, .inr (6, [.ref a_row, .ref a_partners, .int c_askedCount, .int c_outcome, .ref a_share, .ref a_leftOver])), (a_row, .inl (E.2.1, 81, .inl c_row)), (a_share, .inl (E.2.1, 2, .inl c_share)), (a_leftOver, .inl (E.2.1, 2, .inl c_leftOver))] H := hP
  replace hD : va_D A [(a_, .inr (6, [.ref a_row, .ref a_partners, .int c_askedCount, .int c_outcome, .ref a_share, .ref a_leftOver])), (a_row, .inl (E.2.1, 81, .inl c_row)), (a_share, .inl (E.2.1, 2, .inl c_share)), (a_leftOver, .inl (E.2.1, 2, .inl c_leftOver))] := hD
  refine lv_iload_n hx hb dX5_balance_20 rfl (lv_at hl 3 rfl) ?_
  refine lv_aload_n hx hb dX5_balance_21 rfl (lv_at hl 0 rfl) ?_
  replace hF := bd1_s hF
  obtain ⟨r_2, hc_3, hF⟩ := hF
  have hPc : va_P E.1 vwCl (w_X5_sites E a_ a_row a_partners a_share a_leftOver c_askedCount c_outcome c_row) H := hP.sub (ws' := [(a_, .inr (6, [.ref a_row, .ref a_partners, .int c_askedCount, .int c_outcome, .ref a_share, .ref a_leftOver])), (a_row, .inl (E.2.1, 81, .inl c_row))]) [0, 1] rfl
  have hrc := va_recv hK hPc (ci := 6) (q0 := 0) rfl rfl
  refine pE_i (va_runV (As := []) (rest := [.int x3])  ⟨hx, hb, hml, hown, hts⟩ (f_X5_sites l E (a_ := a_) (a_row := a_row) (a_partners := a_partners) (a_share := a_share) (a_leftOver := a_leftOver) (c_askedCount := c_askedCount) (c_outcome := c_outcome) (c_row := c_row) hc_3) (cwV 0 hts g_f_X5_balance_f_X5_sites_45 rfl rfl rfl hd_X5_sites ⟨Nat.le_of_ble_eq_true rfl, Nat.le_of_ble_eq_true rfl⟩) ⟨pP.blind, hrc, (pP.pre ⟨hK, hN⟩ hPc)⟩ rfl rfl hl.1 rfl (lv_room (Nat.le_of_ble_eq_true rfl)) dX5_balance_22 ⟨Nat.le_of_ble_eq_true rfl, Nat.le_of_ble_eq_true rfl⟩) ?_
  refine lv_icmp_ge (tgt := 101) hx hb dX5_balance_25 (by decide) (fun c_4 => ?_) (fun c_4 => ?_)
  ·
    replace hF := ip c_4 hF
    cases hF
    exact hE x2 c_row rfl H locs ls (hP.sub [0, 1, 2, 3] rfl) (hD.sub [0, 1, 2, 3] (by decide) rfl) hS (lv_sub hl [0, 2] rfl)
  ·
    replace hF := inn c_4 hF
    refine lv_iload_n hx hb dX5_balance_28 rfl (lv_at hl 1 rfl) ?_
    refine lv_iload_n hx hb dX5_balance_29 rfl (lv_at hl 3 rfl) ?_
    refine lv_ishr hx hb dX5_balance_30 ?_
    refine lv_iconst (v := 1) hx hb dX5_balance_31 (by decide) ?_
    refine lv_iand hx hb dX5_balance_32 ?_
    refine lv_if_ne (tgt := 39) hx hb dX5_balance_33 (by decide) (fun c_5 => ?_) (fun c_5 => ?_)
    ·
      replace hF := inn c_5 hF
      refine lv_iconst (v := 0) hx hb dX5_balance_39 (by decide) ?_
      refine lv_istore (lv' := [(4, .int (0 : Int32)), (0, .ref a_), (1, .int p1), (2, .int x2), (3, .int x3)]) hx hb dX5_balance_40 hl (by decide) rfl (fun ls hl => ?_)
      replace hF := bd1_s hF
      obtain ⟨c_row_15, hL_16, hF⟩ := hF
      refine lw_X5_balance_42 l E K (p1 := p1) (c_askedCount := c_askedCount) (c_share := c_share) (c_leftOver := c_leftOver) (x2 := x2) (x3 := x3) (c_outcome := c_outcome) hx hb hml hown hts hK hN hA K (0 : Int32) c_row c_row_15 hL_16 ?_ H locs ls (hP.sub [0, 1, 2, 3] rfl) (hD.sub [0, 1, 2, 3] (by decide) rfl) hS (lv_sub hl [1, 2, 3, 4, 0] rfl)
      ·
        intro H locs ls hP hD hS hl
        replace hP : va_P E.1 vwCl [(a_, .inr (6, [.ref a_row, .ref a_partners, .int c_askedCount, .int c_outcome, .ref a_share, .ref a_leftOver])), (a_row, .inl (E.2.1, 81, .inl c_row_15)), (a_share, .inl (E.2.1, 2, .inl c_share)), (a_leftOver, .inl (E.2.1, 2, .inl c_leftOver))] H := hP
        replace hD : va_D A [(a_, .inr (6, [.ref a_row, .ref a_partners, .int c_askedCount, .int c_outcome, .ref a_share, .ref a_leftOver])), (a_row, .inl (E.2.1, 81, .inl c_row_15)), (a_share, .inl (E.2.1, 2, .inl c_share)), (a_leftOver, .inl (E.2.1, 2, .inl c_leftOver))] := hD
        refine lv_iinc (v := x2 + (1 : Int32)) (lv' := [(2, .int (x2 + (1 : Int32))), (0, .ref a_), (1, .int p1), (3, .int x3)]) hx hb dX5_balance_92 hl (k := 2) rfl (rfl) (by decide) rfl (fun ls hl => ?_)
        refine lv_iinc (v := x3 + (1 : Int32)) (lv' := [(3, .int (x3 + (1 : Int32))), (2, .int (x2 + (1 : Int32))), (0, .ref a_), (1, .int p1)]) hx hb dX5_balance_95 hl (k := 3) rfl (rfl) (by decide) rfl (fun ls hl => ?_)
        refine lv_goto (tgt := 20) hx hb dX5_balance_98 (by decide) ?_
        cases hF
        exact hC (x2 + (1 : Int32)) (x3 + (1 : Int32)) c_row_15 rfl H locs ls (hP.sub [0, 1, 2, 3] rfl) (hD.sub [0, 1, 2, 3] (by decide) rfl) hS (lv_sub hl [2, 3, 1, 0] rfl)
    ·
      replace hF := ip c_5 hF
      refine lv_goto (tgt := 95) hx hb dX5_balance_36 (by decide) ?_
      refine lv_iinc (v := x3 + (1 : Int32)) (lv' := [(3, .int (x3 + (1 : Int32))), (0, .ref a_), (1, .int p1), (2, .int x2)]) hx hb dX5_balance_95 hl (k := 3) rfl (rfl) (by decide) rfl (fun ls hl => ?_)
      refine lv_goto (tgt := 20) hx hb dX5_balance_98 (by decide) ?_
      cases hF
      exact hC x2 (x3 + (1 : Int32)) c_row rfl H locs ls (hP.sub [0, 1, 2, 3] rfl) (hD.sub [0, 1, 2, 3] (by decide) rfl) hS (lv_sub hl [1, 2, 3, 0] rfl)

set_option maxHeartbeats 4000000 in
set_option maxRecDepth 100000 in
theorem lw_X5_balance_20 {p : Program} (l : Launch) {e : Env} {s : State} {m : MethodId} {below : List Frame} {meth : Method} {c : Code} {Q : State → Prop} (E : EE) (K : Nat) {a_ a_row a_partners a_share a_leftOver : Nat} {p1 : Int32} {c_askedCount : Int32} {c_share : Nat → Int32} {c_leftOver : Nat → Int32} {c_outcome : Int32} (hx : p.tables.exec = Jvm.exec) (hb : c.code = cX5_balance) (hml : c.maxLocals = 6) (hown : s.vm.findClass RX5 = some m.cls) (hts : ∀ w ∈ v_f_X5_balance, w.before #[Value.ref a_, Value.int p1] s = true) (hK : va_K E.1 vwCl (TY E) s) (hN : NX s) {A : Nat → Prop} (hA : ∀ q : Nat, s.heap.size ≤ q → A q) (j9 : Nat) (x2 : Int32) (x3 : Int32) (c_row : Nat → Int32) (x2' : Int32) (c_row' : Nat → Int32) (hL : lpF (fun u9 : Int32 × Int32 × (Nat → Int32) => B_X5_balance_20 K p1 c_share c_leftOver u9.1 u9.2.1 u9.2.2) j9 (x2, x3, c_row) = some (x2', c_row')) (hX : (∀ (H : Heap) (locs : List Loc) (ls : Array Slot), va_P E.1 vwCl (w_X5_balance E a_ a_row a_partners a_share a_leftOver c_askedCount c_outcome c_row' c_share c_leftOver) H → va_D A (w_X5_balance E a_ a_row a_partners a_share a_leftOver c_askedCount c_outcome c_row' c_share c_leftOver) → va_S A s.heap H locs → lv_has ls 6 [(0, .ref a_), (2, .int x2')] → W p l e ({ frames := 1, cells := 0, slots := 0, locals := 23 } : Room) s m #[Value.ref a_, Value.int p1] below meth c H locs 0 0 Q (F0 m 101 ls []))) : ∀ (H : Heap) (locs : List Loc) (ls : Array Slot), va_P E.1 vwCl (w_X5_balance E a_ a_row a_partners a_share a_leftOver c_askedCount c_outcome c_row c_share c_leftOver) H → va_D A (w_X5_balance E a_ a_row a_partners a_share a_leftOver c_askedCount c_outcome c_row c_share c_leftOver) → va_S A s.heap H locs → lv_has ls 6 [(0, .ref a_), (1, .int p1), (2, .int x2), (3, .int x3)] → W p l e ({ frames := 1, cells := 0, slots := 0, locals := 23 } : Room) s m #[Value.ref a_, Value.int p1] below meth c H locs 0 0 Q (F0 m 20 ls []) := by
  exact lp_rule (P := (fun u9 : Int32 × Int32 × (Nat → Int32) => ∀ (H : Heap) (locs : List Loc) (ls : Array Slot), va_P E.1 vwCl (w_X5_balance E a_ a_row a_partners a_share a_leftOver c_askedCount c_outcome u9.2.2 c_share c_leftOver) H → va_D A (w_X5_balance E a_ a_row a_partners a_share a_leftOver c_askedCount c_outcome u9.2.2 c_share c_leftOver) → va_S A s.heap H locs → lv_has ls 6 [(0, .ref a_), (1, .int p1), (2, .int u9.1), (3, .int u9.2.1)] → W p l e ({ frames := 1, cells := 0, slots := 0, locals := 23 } : Room) s m #[Value.ref a_, Value.int p1] below meth c H locs 0 0 Q (F0 m 20 ls []))) (R := (fun r9 : Int32 × (Nat → Int32) => (∀ (H : Heap) (locs : List Loc) (ls : Array Slot), va_P E.1 vwCl (w_X5_balance E a_ a_row a_partners a_share a_leftOver c_askedCount c_outcome r9.2 c_share c_leftOver) H → va_D A (w_X5_balance E a_ a_row a_partners a_share a_leftOver c_askedCount c_outcome r9.2 c_share c_leftOver) → va_S A s.heap H locs → lv_has ls 6 [(0, .ref a_), (2, .int r9.1)] → W p l e ({ frames := 1, cells := 0, slots := 0, locals := 23 } : Room) s m #[Value.ref a_, Value.int p1] below meth c H locs 0 0 Q (F0 m 101 ls [])))) (fun u9 xx hF hC hE => wb_X5_balance_20 l E K (p1 := p1) (c_askedCount := c_askedCount) (c_share := c_share) (c_leftOver := c_leftOver) (x2 := u9.1) (x3 := u9.2.1) (c_row := u9.2.2) (c_outcome := c_outcome) hx hb hml hown hts hK hN hA (fun x2 x3 c_row q9 => hC _ q9) (fun x2 c_row q9 => hE _ q9) hF) j9 (x2, x3, c_row) (x2', c_row') hL hX

set_option maxHeartbeats 4000000 in
set_option maxRecDepth 100000 in
theorem f_X5_balance (l : Launch) (E : EE) (sz : Nat) (K : Nat) {a_ a_row a_partners a_share a_leftOver : Nat} {p1 : Int32} {c_askedCount : Int32} {c_outcome : Int32} {c_row : Nat → Int32} {c_share : Nat → Int32} {c_leftOver : Nat → Int32} {rr : Int32} {n_row : Nat → Int32} {n_outcome : Int32} (hF : F_X5_balance K p1 c_row c_askedCount c_outcome c_share c_leftOver = some (rr, n_row, n_outcome)) : Met l yX5_balance v_f_X5_balance (({ frames := 1, cells := 0, slots := 0, locals := 23 } : Room)) (va_Pc [.ref a_, .int p1] (pW E sz (w_X5_balance E a_ a_row a_partners a_share a_leftOver c_askedCount c_outcome c_row c_share c_leftOver))) (va_Qi (fun (q : Int32) (_u : Unit) => q = rr) (fun (_u : Unit) tt => va_P E.1 vwCl (w_X5_balance E a_ a_row a_partners a_share a_leftOver c_askedCount n_outcome n_row c_share c_leftOver) tt.heap ∧ va_D (va_A (w_X5_balance E a_ a_row a_partners a_share a_leftOver c_askedCount c_outcome c_row c_share c_leftOver) sz) (w_X5_balance E a_ a_row a_partners a_share a_leftOver c_askedCount n_outcome n_row c_share c_leftOver)) (va_A (w_X5_balance E a_ a_row a_partners a_share a_leftOver c_askedCount c_outcome c_row c_share c_leftOver) sz)) 0 0 (va_A (w_X5_balance E a_ a_row a_partners a_share a_leftOver c_askedCount c_outcome c_row c_share c_leftOver) sz) := by
  refine Met.ofW (cc := cX5_balance) (maxL := 6) (ret := (some .int)) (by decide) rfl ?_
  intro p e s m args below meth c s₁ B hml hv
  obtain ⟨rfl, hsz, ⟨hK, hN⟩, hP, hD0⟩ := hv
  have hx := B.exec
  have hb := B.bytes
  have hr := B.returns
  have hts := atoms_spec (ws := v_f_X5_balance) B.pre
  have hown : s.vm.findClass RX5 = some m.cls := own_of hd_X5_balance.1 (findClass_of_methodNamed B.named)
  have hlocks : meth.locks = false := B.notSynchronized
  subst hsz
  have hD := hD0.self (sz := s.heap.size)
  generalize hAe : va_A (w_X5_balance E a_ a_row a_partners a_share a_leftOver c_askedCount c_outcome c_row c_share c_leftOver) s.heap.size = A at hD ⊢
  have hA : ∀ q : Nat, s.heap.size ≤ q → A q := fun q h => by rw [← hAe]; exact Or.inr h
  have hS : va_S A s.heap s.heap [] := va_S.rf
  have hl := lv_entry ([.ref a_, .int p1]) (n := 6) (Nat.le_of_ble_eq_true rfl)
  rw [lg_entry_eq]
  generalize (lg_sl ([.ref a_, .int p1]) ++ List.replicate (6 - (lg_sl ([.ref a_, .int p1])).length) Slot.unset).toArray = ls at hl ⊢
  have hl : lv_has ls 6 [(0, .ref a_), (1, .int p1)] := hl
  obtain ⟨Q, hQ⟩ : ∃ Q : State → Prop, Q = MQ below (va_Qi (fun (q : Int32) (_u : Unit) => q = rr) (fun (_u : Unit) tt => va_P E.1 vwCl (w_X5_balance E a_ a_row a_partners a_share a_leftOver c_askedCount n_outcome n_row c_share c_leftOver) tt.heap ∧ va_D A (w_X5_balance E a_ a_row a_partners a_share a_leftOver c_askedCount n_outcome n_row c_share c_leftOver)) A) #[Value.ref a_, Value.int p1] s 0 0 A := ⟨_, rfl⟩
  rw [← hQ]
  change W p l e ({ frames := 1, cells := 0, slots := 0, locals := 23 } : Room) s m #[Value.ref a_, Value.int p1] below meth c s.heap [] 0 0 Q (F0 m 0 ls [])
  suffices hh9 : ∀ (H : Heap) (locs : List Loc), va_P E.1 vwCl (w_X5_balance E a_ a_row a_partners a_share a_leftOver c_askedCount c_outcome c_row c_share c_leftOver) H → va_D A (w_X5_balance E a_ a_row a_partners a_share a_leftOver c_askedCount c_outcome c_row c_share c_leftOver) → va_S A s.heap H locs → W p l e ({ frames := 1, cells := 0, slots := 0, locals := 23 } : Room) s m #[Value.ref a_, Value.int p1] below meth c H locs 0 0 Q (F0 m 0 ls []) from hh9 s.heap [] hP hD hS
  clear hP hD hS
  intro H locs hP hD hS
  replace hP : va_P E.1 vwCl [(a_, .inr (6, [.ref a_row, .ref a_partners, .int c_askedCount, .int c_outcome, .ref a_share, .ref a_leftOver])), (a_row, .inl (E.2.1, 81, .inl c_row)), (a_share, .inl (E.2.1, 2, .inl c_share)), (a_leftOver, .inl (E.2.1, 2, .inl c_leftOver))] H := hP
  replace hD : va_D A [(a_, .inr (6, [.ref a_row, .ref a_partners, .int c_askedCount, .int c_outcome, .ref a_share, .ref a_leftOver])), (a_row, .inl (E.2.1, 81, .inl c_row)), (a_share, .inl (E.2.1, 2, .inl c_share)), (a_leftOver, .inl (E.2.1, 2, .inl c_leftOver))] := hD
  unfold F_X5_balance at hF
  refine lv_aload_n hx hb dX5_balance_0 rfl (lv_at hl 0 rfl) ?_
  refine gt_X5_0 (v := .ref a_row) hx hb hts i_f_X5_balance_X5 hown hK hP 0 rfl (hts (.fieldLink RX5 11 "HushWatch$State" "row" "[I") (List.mem_of_getElem? (i := 1) rfl)) rfl dX5_balance_1 ?_
  refine lv_bipush (v := 13) hx hb dX5_balance_4 (by decide) ?_
  refine lv_dup2_11 hx hb dX5_balance_6 rfl rfl ?_
  refine va_iald hx hb hK hP 1 0 rfl rfl (vin rfl) dX5_balance_7 ?_
  refine W.eq (g2 := F0 m 8 ls [.int (c_row 13), .int (13 : Int32), .ref a_row]) rfl ?_
  refine lv_iconst (v := 1) hx hb dX5_balance_8 (by decide) ?_
  refine lv_iadd hx hb dX5_balance_9 ?_
  refine va_iast hx hb hK hP hD hS 1 0 rfl rfl (vin rfl) dX5_balance_10 (fun H locs hP hD hS => ?_)
  replace hP : va_P E.1 vwCl [(a_, .inr (6, [.ref a_row, .ref a_partners, .int c_askedCount, .int c_outcome, .ref a_share, .ref a_leftOver])), (a_row, .inl (E.2.1, 81, .inl (upd c_row 13 ((c_row 13) + (1 : Int32))))), (a_share, .inl (E.2.1, 2, .inl c_share)), (a_leftOver, .inl (E.2.1, 2, .inl c_leftOver))] H := hP
  replace hD : va_D A [(a_, .inr (6, [.ref a_row, .ref a_partners, .int c_askedCount, .int c_outcome, .ref a_share, .ref a_leftOver])), (a_row, .inl (E.2.1, 81, .inl (upd c_row 13 ((c_row 13) + (1 : Int32))))), (a_share, .inl (E.2.1, 2, .inl c_share)), (a_leftOver, .inl (E.2.1, 2, .inl c_leftOver))] := hD
  replace hF := nm_s hF
  obtain ⟨f_1, hf_1, hF⟩ := hF
  rw [← hf_1] at hP hD
  refine lv_aload_n hx hb dX5_balance_11 rfl (lv_at hl 0 rfl) ?_
  refine lv_iconst (v := 1) hx hb dX5_balance_12 (by decide) ?_
  refine pt_X5_3 (v := .int (1 : Int32)) hx hb hts i_f_X5_balance_X5 hown hK hP hD hS 0 rfl (hts (.fieldLink RX5 22 "HushWatch$State" "outcome" "I") (List.mem_of_getElem? (i := 2) rfl)) rfl rfl (Nat.le_of_ble_eq_true rfl) dX5_balance_13 (fun H locs hP hD hS => ?_)
  replace hP : va_P E.1 vwCl [(a_, .inr (6, [.ref a_row, .ref a_partners, .int c_askedCount, .int (1 : Int32), .ref a_share, .ref a_leftOver])), (a_row, .inl (E.2.1, 81, .inl f_1)), (a_share, .inl (E.2.1, 2, .inl c_share)), (a_leftOver, .inl (E.2.1, 2, .inl c_leftOver))] H := hP
  replace hD : va_D A [(a_, .inr (6, [.ref a_row, .ref a_partners, .int c_askedCount, .int (1 : Int32), .ref a_share, .ref a_leftOver])), (a_row, .inl (E.2.1, 81, .inl f_1)), (a_share, .inl (E.2.1, 2, .inl c_share)), (a_leftOver, .inl (E.2.1, 2, .inl c_leftOver))] := hD
  refine lv_iconst (v := 0) hx hb dX5_balance_16 (by decide) ?_
  refine lv_istore_n (lv' := [(2, .int (0 : Int32)), (0, .ref a_), (1, .int p1)]) hx hb dX5_balance_17 rfl hl (by decide) rfl (fun ls hl => ?_)
  refine lv_iconst (v := 0) hx hb dX5_balance_18 (by decide) ?_
  refine lv_istore_n (lv' := [(3, .int (0 : Int32)), (2, .int (0 : Int32)), (0, .ref a_), (1, .int p1)]) hx hb dX5_balance_19 rfl hl (by decide) rfl (fun ls hl => ?_)
  replace hF := bd2_s hF
  obtain ⟨x2_17, c_row_18, hL_19, hF⟩ := hF
  refine lw_X5_balance_20 l E K (p1 := p1) (c_askedCount := c_askedCount) (c_share := c_share) (c_leftOver := c_leftOver) (c_outcome := (1 : Int32)) hx hb hml hown hts hK hN hA K (0 : Int32) (0 : Int32) f_1 x2_17 c_row_18 hL_19 ?_ H locs ls (hP.sub [0, 1, 2, 3] rfl) (hD.sub [0, 1, 2, 3] (by decide) rfl) hS (lv_sub hl [2, 3, 1, 0] rfl)
  ·
    intro H locs ls hP hD hS hl
    replace hP : va_P E.1 vwCl [(a_, .inr (6, [.ref a_row, .ref a_partners, .int c_askedCount, .int (1 : Int32), .ref a_share, .ref a_leftOver])), (a_row, .inl (E.2.1, 81, .inl c_row_18)), (a_share, .inl (E.2.1, 2, .inl c_share)), (a_leftOver, .inl (E.2.1, 2, .inl c_leftOver))] H := hP
    replace hD : va_D A [(a_, .inr (6, [.ref a_row, .ref a_partners, .int c_askedCount, .int (1 : Int32), .ref a_share, .ref a_leftOver])), (a_row, .inl (E.2.1, 81, .inl c_row_18)), (a_share, .inl (E.2.1, 2, .inl c_share)), (a_leftOver, .inl (E.2.1, 2, .inl c_leftOver))] := hD
    refine lv_iconst (v := 1) hx hb dX5_balance_101 (by decide) ?_
    refine lv_iconst (v := 2) hx hb dX5_balance_102 (by decide) ?_
    refine lv_aload_n hx hb dX5_balance_103 rfl (lv_at hl 0 rfl) ?_
    refine gt_X5_2 (v := .int c_askedCount) hx hb hts i_f_X5_balance_X5 hown hK hP 0 rfl (hts (.fieldLink RX5 18 "HushWatch$State" "askedCount" "I") (List.mem_of_getElem? (i := 3) rfl)) rfl dX5_balance_104 ?_
    refine lv_imul hx hb dX5_balance_107 ?_
    refine lv_iadd hx hb dX5_balance_108 ?_
    refine lv_iload_n hx hb dX5_balance_109 rfl (lv_at hl 1 rfl) ?_
    refine lv_iadd hx hb dX5_balance_110 ?_
    rw [hQ]
    have h9 := fin9 (P := fun u9 : Int32 × (Nat → Int32) × Int32 => (((1 : Int32) + ((2 : Int32) * c_askedCount)) + x2_17) = u9.1 ∧ va_P E.1 vwCl (w_X5_balance E a_ a_row a_partners a_share a_leftOver c_askedCount u9.2.2 u9.2.1 c_share c_leftOver) H ∧ va_D A (w_X5_balance E a_ a_row a_partners a_share a_leftOver c_askedCount u9.2.2 u9.2.1 c_share c_leftOver)) hF ⟨rfl, hP, hD⟩
    obtain ⟨e9_0, hP9, hD9⟩ := h9
    exact W.iret (v := ((1 : Int32) + ((2 : Int32) * c_askedCount)) + x2_17) hx hb hr (fun tt ht hW => ⟨⟨_, (), rfl, e9_0, ht ▸ hP9, hD9⟩, hS.F ht⟩) hS.2.2 dX5_balance_111

def B_X5_hearPlaces_16 (x1 : Int32) (c_row : Nat → Int32) : Option ((Int32 × (Nat → Int32)) ⊕ ((Nat → Int32))) :=
  bd1 (F_X5_sites c_row) (fun r_3 => if r_3 ≤ x1 then some (.inr c_row) else bd1 (F_X5_of x1 (0 : Int32) c_row) (fun r_6 => bd1 (F_X5_put x1 (2 : Int32) r_6 c_row) (fun w_8 => bd1 (F_X5_of x1 (1 : Int32) w_8) (fun r_10 => bd1 (F_X5_put x1 (3 : Int32) r_10 w_8) (fun w_12 => bd1 (F_X5_put x1 (4 : Int32) (0 : Int32) w_12) (fun w_14 => bd1 (F_X5_put x1 (5 : Int32) (0 : Int32) w_14) (fun w_16 => bd1 (F_X5_of x1 (0 : Int32) w_16) (fun r_18 => nmF (upd w_16 4 ((w_16 4) + r_18)) (fun f_20 => bd1 (F_X5_of x1 (1 : Int32) f_20) (fun r_21 => nmF (upd f_20 5 ((f_20 5) + r_21)) (fun f_23 => some (.inl (x1 + (1 : Int32), f_23)))))))))))))
def F_X5_hearPlaces (K : Nat) (c_row : Nat → Int32) : Option ((Nat → Int32)) :=
  nmF (upd c_row 4 (0 : Int32)) (fun f_1 => nmF (upd f_1 5 (0 : Int32)) (fun f_2 => bd1 (lpF (fun u9 : Int32 × (Nat → Int32) => B_X5_hearPlaces_16  u9.1 u9.2) K ((0 : Int32), f_2)) (fun c_row_24 => some c_row_24)))
abbrev w_X5_hearPlaces (E : EE) (a_ a_row a_partners a_share a_leftOver : Nat) (c_askedCount : Int32) (c_outcome : Int32) (c_row : Nat → Int32) : va_W := [(a_, .inr (6, [.ref a_row, .ref a_partners, .int c_askedCount, .int c_outcome, .ref a_share, .ref a_leftOver])), (a_row, .inl (E.2.1, 81, .inl c_row))]
def v_f_X5_hearPlaces : List Cond := .code yX5_hearPlaces cX5_hearPlaces 2 none :: ([.fieldLink RX5 11 "HushWatch$State" "row" "[I", .methodLink RX5 45 yX5_sites, .instanceMethod yX5_sites, .selects RX5 yX5_sites yX5_sites, .initialized RX5, .methodLink RX5 69 yX5_of, .instanceMethod yX5_of, .selects RX5 yX5_of yX5_of, .methodLink RX5 52 yX5_put, .instanceMethod yX5_put, .selects RX5 yX5_put yX5_put] ++ (wsX50 ++ (v_f_X5_sites ++ (v_f_X5_of ++ (v_f_X5_put ++ ([]))))))
theorem gw_f_X5_hearPlaces : v_f_X5_hearPlaces.all goodWord = true := by decide +kernel
theorem i_f_X5_hearPlaces_X5 : ∀ w ∈ wsX50, w ∈ v_f_X5_hearPlaces := fun _ h => List.mem_cons_of_mem _ (List.mem_append_right _ (List.mem_append_left _ h))
theorem g_f_X5_hearPlaces_f_X5_sites_45 : GoodIn v_f_X5_hearPlaces (wsV RX5 45 RX5 yX5_sites v_f_X5_sites) := goodIn_app (goodIn_of _ (by decide +kernel)) (goodIn_sub (fun _ h => List.mem_cons_of_mem _ (List.mem_append_right _ (List.mem_append_right _ (List.mem_append_left _ h)))) gw_f_X5_sites)
theorem g_f_X5_hearPlaces_f_X5_of_69 : GoodIn v_f_X5_hearPlaces (wsV RX5 69 RX5 yX5_of v_f_X5_of) := goodIn_app (goodIn_of _ (by decide +kernel)) (goodIn_sub (fun _ h => List.mem_cons_of_mem _ (List.mem_append_right _ (List.mem_append_right _ (List.mem_append_right _ (List.mem_append_left _ h))))) gw_f_X5_of)
theorem g_f_X5_hearPlaces_f_X5_put_52 : GoodIn v_f_X5_hearPlaces (wsV RX5 52 RX5 yX5_put v_f_X5_put) := goodIn_app (goodIn_of _ (by decide +kernel)) (goodIn_sub (fun _ h => List.mem_cons_of_mem _ (List.mem_append_right _ (List.mem_append_right _ (List.mem_append_right _ (List.mem_append_right _ (List.mem_append_left _ h)))))) gw_f_X5_put)
theorem hd_X5_hearPlaces : yX5_hearPlaces.cls = RX5 ∧ yX5_hearPlaces.cls ≠ "java/lang/invoke/MethodHandle" ∧ yX5_hearPlaces.cls ≠ "java/lang/invoke/VarHandle" ∧ (parseMethodDescriptor yX5_hearPlaces.desc).map (fun d => d.parameters.length) = some 0 := by decide +kernel
set_option maxHeartbeats 4000000 in
set_option maxRecDepth 100000 in
theorem wb_X5_hearPlaces_16 {p : Program} (l : Launch) {e : Env} {s : State} {m : MethodId} {below : List Frame} {meth : Method} {c : Code} {Q : State → Prop} (E : EE) (K : Nat) {a_ a_row a_partners a_share a_leftOver : Nat} {c_askedCount : Int32} {c_outcome : Int32} {x1 : Int32} {c_row : Nat → Int32} (hx : p.tables.exec = Jvm.exec) (hb : c.code = cX5_hearPlaces) (hml : c.maxLocals = 2) (hown : s.vm.findClass RX5 = some m.cls) (hts : ∀ w ∈ v_f_X5_hearPlaces, w.before #[Value.ref a_] s = true) (hK : va_K E.1 vwCl (TY E) s) (hN : NX s) {A : Nat → Prop} (hA : ∀ q : Nat, s.heap.size ≤ q → A q) {xx : (Int32 × (Nat → Int32)) ⊕ ((Nat → Int32))} (hC : ∀ (x1 : Int32), ∀ (c_row : Nat → Int32), xx = .inl (x1, c_row) → ∀ (H : Heap) (locs : List Loc) (ls : Array Slot), va_P E.1 vwCl (w_X5_hearPlaces E a_ a_row a_partners a_share a_leftOver c_askedCount c_outcome c_row) H → va_D A (w_X5_hearPlaces E a_ a_row a_partners a_share a_leftOver c_askedCount c_outcome c_row) → va_S A s.heap H locs → lv_has ls 2 [(0, .ref a_), (1, .int x1)] → W p l e ({ frames := 1, cells := 0, slots := 0, locals := 23 } : Room) s m #[Value.ref a_] below meth c H locs 0 0 Q (F0 m 16 ls [])) (hE : ∀ (c_row : Nat → Int32), xx = .inr c_row → ((∀ (H : Heap) (locs : List Loc) (ls : Array Slot), va_P E.1 vwCl (w_X5_hearPlaces E a_ a_row a_partners a_share a_leftOver c_askedCount c_outcome c_row) H → va_D A (w_X5_hearPlaces E a_ a_row a_partners a_share a_leftOver c_askedCount c_outcome c_row) → va_S A s.heap H locs → lv_has ls 2 [] → W p l e ({ frames := 1, cells := 0, slots := 0, locals := 23 } : Room) s m #[Value.ref a_] below meth c H locs 0 0 Q (F0 m 98 ls [])))) (hF : B_X5_hearPlaces_16  x1 c_row = some xx) : ∀ (H : Heap) (locs : List Loc) (ls : Array Slot), va_P E.1 vwCl (w_X5_hearPlaces E a_ a_row a_partners a_share a_leftOver c_askedCount c_outcome c_row) H → va_D A (w_X5_hearPlaces E a_ a_row a_partners a_share a_leftOver c_askedCount c_outcome c_row) → va_S A s.heap H locs → lv_has ls 2 [(0, .ref a_), (1, .int x1)] → W p l e ({ frames := 1, cells := 0, slots := 0, locals := 23 } : Room) s m #[Value.ref a_] below meth c H locs 0 0 Q (F0 m 16 ls []) := by
  unfold B_X5_hearPlaces_16 at hF
  intro H locs ls hP hD hS hl
  replace hP : va_P E.1 vwCl [(a_, .inr (6, [.ref a_row, .ref a_partners, .int c_askedCount, .int c_outcome, .ref a_share, .ref a_leftOver])), (a_row, .inl (E.2.1, 81, .inl c_row))] H := hP
  replace hD : va_D A [(a_, .inr (6, [.ref a_row, .ref a_partners, .int c_askedCount, .int c_outcome, .ref a_share, .ref a_leftOver])), (a_row, .inl (E.2.1, 81, .inl c_row))] := hD
  refine lv_iload_n hx hb dX5_hearPlaces_16 rfl (lv_at hl 1 rfl) ?_
  refine lv_aload_n hx hb dX5_hearPlaces_17 rfl (lv_at hl 0 rfl) ?_
  replace hF := bd1_s hF
  obtain ⟨r_3, hc_4, hF⟩ := hF
  have hPc : va_P E.1 vwCl (w_X5_sites E a_ a_row a_partners a_share a_leftOver c_askedCount c_outcome c_row) H := hP.sub (ws' := [(a_, .inr (6, [.ref a_row, .ref a_partners, .int c_askedCount, .int c_outcome, .ref a_share, .ref a_leftOver])), (a_row, .inl (E.2.1, 81, .inl c_row))]) [0, 1] rfl
  have hrc := va_recv hK hPc (ci := 6) (q0 := 0) rfl rfl
  refine pE_i (va_runV (As := []) (rest := [.int x1])  ⟨hx, hb, hml, hown, hts⟩ (f_X5_sites l E (a_ := a_) (a_row := a_row) (a_partners := a_partners) (a_share := a_share) (a_leftOver := a_leftOver) (c_askedCount := c_askedCount) (c_outcome := c_outcome) (c_row := c_row) hc_4) (cwV 0 hts g_f_X5_hearPlaces_f_X5_sites_45 rfl rfl rfl hd_X5_sites ⟨Nat.le_of_ble_eq_true rfl, Nat.le_of_ble_eq_true rfl⟩) ⟨pP.blind, hrc, (pP.pre ⟨hK, hN⟩ hPc)⟩ rfl rfl hl.1 rfl (lv_room (Nat.le_of_ble_eq_true rfl)) dX5_hearPlaces_18 ⟨Nat.le_of_ble_eq_true rfl, Nat.le_of_ble_eq_true rfl⟩) ?_
  refine lv_icmp_ge (tgt := 98) hx hb dX5_hearPlaces_21 (by decide) (fun c_5 => ?_) (fun c_5 => ?_)
  ·
    replace hF := ip c_5 hF
    cases hF
    exact hE c_row rfl H locs ls (hP.sub [0, 1] rfl) (hD.sub [0, 1] (by decide) rfl) hS (lv_sub hl [] rfl)
  ·
    replace hF := inn c_5 hF
    refine lv_aload_n hx hb dX5_hearPlaces_24 rfl (lv_at hl 0 rfl) ?_
    refine lv_iload_n hx hb dX5_hearPlaces_25 rfl (lv_at hl 1 rfl) ?_
    refine lv_iconst (v := 2) hx hb dX5_hearPlaces_26 (by decide) ?_
    refine lv_aload_n hx hb dX5_hearPlaces_27 rfl (lv_at hl 0 rfl) ?_
    refine lv_iload_n hx hb dX5_hearPlaces_28 rfl (lv_at hl 1 rfl) ?_
    refine lv_iconst (v := 0) hx hb dX5_hearPlaces_29 (by decide) ?_
    replace hF := bd1_s hF
    obtain ⟨r_6, hc_7, hF⟩ := hF
    have hPc : va_P E.1 vwCl (w_X5_of E a_ a_row a_partners a_share a_leftOver c_askedCount c_outcome c_row) H := hP.sub (ws' := [(a_, .inr (6, [.ref a_row, .ref a_partners, .int c_askedCount, .int c_outcome, .ref a_share, .ref a_leftOver])), (a_row, .inl (E.2.1, 81, .inl c_row))]) [0, 1] rfl
    have hrc := va_recv hK hPc (ci := 6) (q0 := 0) rfl rfl
    refine pE_i (va_runV (As := [.int x1, .int (0 : Int32)]) (rest := [.int (2 : Int32), .int x1, .ref a_])  ⟨hx, hb, hml, hown, hts⟩ (f_X5_of l E (a_ := a_) (a_row := a_row) (a_partners := a_partners) (a_share := a_share) (a_leftOver := a_leftOver) (p1 := x1) (p2 := (0 : Int32)) (c_askedCount := c_askedCount) (c_outcome := c_outcome) (c_row := c_row) hc_7) (cwV 2 hts g_f_X5_hearPlaces_f_X5_of_69 rfl rfl rfl hd_X5_of ⟨Nat.le_of_ble_eq_true rfl, Nat.le_of_ble_eq_true rfl⟩) ⟨pP.blind, hrc, (pP.pre ⟨hK, hN⟩ hPc)⟩ rfl rfl hl.1 rfl (lv_room (Nat.le_of_ble_eq_true rfl)) dX5_hearPlaces_30 ⟨Nat.le_of_ble_eq_true rfl, Nat.le_of_ble_eq_true rfl⟩) ?_
    replace hF := bd1_s hF
    obtain ⟨w_8, hc_9, hF⟩ := hF
    obtain ⟨hPc, hDc, hFc⟩ := wcut (wc := (w_X5_put E a_ a_row a_partners a_share a_leftOver c_askedCount c_outcome c_row)) hP hD hS hA [0, 1] (by decide) rfl
    have hrc := va_recv hK hPc (ci := 6) (q0 := 0) rfl rfl
    refine cE_v (wc := (w_X5_put E a_ a_row a_partners a_share a_leftOver c_askedCount c_outcome c_row)) (wr := []) (w1 := (w_X5_put E a_ a_row a_partners a_share a_leftOver c_askedCount c_outcome w_8)) (va_runV (As := [.int x1, .int (2 : Int32), .int r_6]) (rest := [])  ⟨hx, hb, hml, hown, hts⟩ (f_X5_put l E H.size (a_ := a_) (a_row := a_row) (a_partners := a_partners) (a_share := a_share) (a_leftOver := a_leftOver) (p1 := x1) (p2 := (2 : Int32)) (p3 := r_6) (c_askedCount := c_askedCount) (c_outcome := c_outcome) (c_row := c_row) hc_9) (cwV 3 hts g_f_X5_hearPlaces_f_X5_put_52 rfl rfl rfl hd_X5_put ⟨Nat.le_of_ble_eq_true rfl, Nat.le_of_ble_eq_true rfl⟩) ⟨pW.blind, hrc, (pW.pre ⟨hK, hN⟩ hPc hDc)⟩ rfl rfl hl.1 rfl (lv_room (Nat.le_of_ble_eq_true rfl)) dX5_hearPlaces_33 ⟨Nat.le_of_ble_eq_true rfl, Nat.le_of_ble_eq_true rfl⟩) hS hFc hP hD [0, 1] [] rfl rfl (by decide) (by decide) (fun H locs hP hD hS => ?_)
    replace hP : va_P E.1 vwCl [(a_, .inr (6, [.ref a_row, .ref a_partners, .int c_askedCount, .int c_outcome, .ref a_share, .ref a_leftOver])), (a_row, .inl (E.2.1, 81, .inl w_8))] H := hP
    replace hD : va_D A [(a_, .inr (6, [.ref a_row, .ref a_partners, .int c_askedCount, .int c_outcome, .ref a_share, .ref a_leftOver])), (a_row, .inl (E.2.1, 81, .inl w_8))] := hD
    refine lv_aload_n hx hb dX5_hearPlaces_36 rfl (lv_at hl 0 rfl) ?_
    refine lv_iload_n hx hb dX5_hearPlaces_37 rfl (lv_at hl 1 rfl) ?_
    refine lv_iconst (v := 3) hx hb dX5_hearPlaces_38 (by decide) ?_
    refine lv_aload_n hx hb dX5_hearPlaces_39 rfl (lv_at hl 0 rfl) ?_
    refine lv_iload_n hx hb dX5_hearPlaces_40 rfl (lv_at hl 1 rfl) ?_
    refine lv_iconst (v := 1) hx hb dX5_hearPlaces_41 (by decide) ?_
    replace hF := bd1_s hF
    obtain ⟨r_10, hc_11, hF⟩ := hF
    have hPc : va_P E.1 vwCl (w_X5_of E a_ a_row a_partners a_share a_leftOver c_askedCount c_outcome w_8) H := hP.sub (ws' := [(a_, .inr (6, [.ref a_row, .ref a_partners, .int c_askedCount, .int c_outcome, .ref a_share, .ref a_leftOver])), (a_row, .inl (E.2.1, 81, .inl w_8))]) [0, 1] rfl
    have hrc := va_recv hK hPc (ci := 6) (q0 := 0) rfl rfl
    refine pE_i (va_runV (As := [.int x1, .int (1 : Int32)]) (rest := [.int (3 : Int32), .int x1, .ref a_])  ⟨hx, hb, hml, hown, hts⟩ (f_X5_of l E (a_ := a_) (a_row := a_row) (a_partners := a_partners) (a_share := a_share) (a_leftOver := a_leftOver) (p1 := x1) (p2 := (1 : Int32)) (c_askedCount := c_askedCount) (c_outcome := c_outcome) (c_row := w_8) hc_11) (cwV 2 hts g_f_X5_hearPlaces_f_X5_of_69 rfl rfl rfl hd_X5_of ⟨Nat.le_of_ble_eq_true rfl, Nat.le_of_ble_eq_true rfl⟩) ⟨pP.blind, hrc, (pP.pre ⟨hK, hN⟩ hPc)⟩ rfl rfl hl.1 rfl (lv_room (Nat.le_of_ble_eq_true rfl)) dX5_hearPlaces_42 ⟨Nat.le_of_ble_eq_true rfl, Nat.le_of_ble_eq_true rfl⟩) ?_
    replace hF := bd1_s hF
    obtain ⟨w_12, hc_13, hF⟩ := hF
    obtain ⟨hPc, hDc, hFc⟩ := wcut (wc := (w_X5_put E a_ a_row a_partners a_share a_leftOver c_askedCount c_outcome w_8)) hP hD hS hA [0, 1] (by decide) rfl
    have hrc := va_recv hK hPc (ci := 6) (q0 := 0) rfl rfl
    refine cE_v (wc := (w_X5_put E a_ a_row a_partners a_share a_leftOver c_askedCount c_outcome w_8)) (wr := []) (w1 := (w_X5_put E a_ a_row a_partners a_share a_leftOver c_askedCount c_outcome w_12)) (va_runV (As := [.int x1, .int (3 : Int32), .int r_10]) (rest := [])  ⟨hx, hb, hml, hown, hts⟩ (f_X5_put l E H.size (a_ := a_) (a_row := a_row) (a_partners := a_partners) (a_share := a_share) (a_leftOver := a_leftOver) (p1 := x1) (p2 := (3 : Int32)) (p3 := r_10) (c_askedCount := c_askedCount) (c_outcome := c_outcome) (c_row := w_8) hc_13) (cwV 3 hts g_f_X5_hearPlaces_f_X5_put_52 rfl rfl rfl hd_X5_put ⟨Nat.le_of_ble_eq_true rfl, Nat.le_of_ble_eq_true rfl⟩) ⟨pW.blind, hrc, (pW.pre ⟨hK, hN⟩ hPc hDc)⟩ rfl rfl hl.1 rfl (lv_room (Nat.le_of_ble_eq_true rfl)) dX5_hearPlaces_45 ⟨Nat.le_of_ble_eq_true rfl, Nat.le_of_ble_eq_true rfl⟩) hS hFc hP hD [0, 1] [] rfl rfl (by decide) (by decide) (fun H locs hP hD hS => ?_)
    replace hP : va_P E.1 vwCl [(a_, .inr (6, [.ref a_row, .ref a_partners, .int c_askedCount, .int c_outcome, .ref a_share, .ref a_leftOver])), (a_row, .inl (E.2.1, 81, .inl w_12))] H := hP
    replace hD : va_D A [(a_, .inr (6, [.ref a_row, .ref a_partners, .int c_askedCount, .int c_outcome, .ref a_share, .ref a_leftOver])), (a_row, .inl (E.2.1, 81, .inl w_12))] := hD
    refine lv_aload_n hx hb dX5_hearPlaces_48 rfl (lv_at hl 0 rfl) ?_
    refine lv_iload_n hx hb dX5_hearPlaces_49 rfl (lv_at hl 1 rfl) ?_
    refine lv_iconst (v := 4) hx hb dX5_hearPlaces_50 (by decide) ?_
    refine lv_iconst (v := 0) hx hb dX5_hearPlaces_51 (by decide) ?_
    replace hF := bd1_s hF
    obtain ⟨w_14, hc_15, hF⟩ := hF
    obtain ⟨hPc, hDc, hFc⟩ := wcut (wc := (w_X5_put E a_ a_row a_partners a_share a_leftOver c_askedCount c_outcome w_12)) hP hD hS hA [0, 1] (by decide) rfl
    have hrc := va_recv hK hPc (ci := 6) (q0 := 0) rfl rfl
    refine cE_v (wc := (w_X5_put E a_ a_row a_partners a_share a_leftOver c_askedCount c_outcome w_12)) (wr := []) (w1 := (w_X5_put E a_ a_row a_partners a_share a_leftOver c_askedCount c_outcome w_14)) (va_runV (As := [.int x1, .int (4 : Int32), .int (0 : Int32)]) (rest := [])  ⟨hx, hb, hml, hown, hts⟩ (f_X5_put l E H.size (a_ := a_) (a_row := a_row) (a_partners := a_partners) (a_share := a_share) (a_leftOver := a_leftOver) (p1 := x1) (p2 := (4 : Int32)) (p3 := (0 : Int32)) (c_askedCount := c_askedCount) (c_outcome := c_outcome) (c_row := w_12) hc_15) (cwV 3 hts g_f_X5_hearPlaces_f_X5_put_52 rfl rfl rfl hd_X5_put ⟨Nat.le_of_ble_eq_true rfl, Nat.le_of_ble_eq_true rfl⟩) ⟨pW.blind, hrc, (pW.pre ⟨hK, hN⟩ hPc hDc)⟩ rfl rfl hl.1 rfl (lv_room (Nat.le_of_ble_eq_true rfl)) dX5_hearPlaces_52 ⟨Nat.le_of_ble_eq_true rfl, Nat.le_of_ble_eq_true rfl⟩) hS hFc hP hD [0, 1] [] rfl rfl (by decide) (by decide) (fun H locs hP hD hS => ?_)
    replace hP : va_P E.1 vwCl [(a_, .inr (6, [.ref a_row, .ref a_partners, .int c_askedCount, .int c_outcome, .ref a_share, .ref a_leftOver])), (a_row, .inl (E.2.1, 81, .inl w_14))] H := hP
    replace hD : va_D A [(a_, .inr (6, [.ref a_row, .ref a_partners, .int c_askedCount, .int c_outcome, .ref a_share, .ref a_leftOver])), (a_row, .inl (E.2.1, 81, .inl w_14))] := hD
    refine lv_aload_n hx hb dX5_hearPlaces_55 rfl (lv_at hl 0 rfl) ?_
    refine lv_iload_n hx hb dX5_hearPlaces_56 rfl (lv_at hl 1 rfl) ?_
    refine lv_iconst (v := 5) hx hb dX5_hearPlaces_57 (by decide) ?_
    refine lv_iconst (v := 0) hx hb dX5_hearPlaces_58 (by decide) ?_
    replace hF := bd1_s hF
    obtain ⟨w_16, hc_17, hF⟩ := hF
    obtain ⟨hPc, hDc, hFc⟩ := wcut (wc := (w_X5_put E a_ a_row a_partners a_share a_leftOver c_askedCount c_outcome w_14)) hP hD hS hA [0, 1] (by decide) rfl
    have hrc := va_recv hK hPc (ci := 6) (q0 := 0) rfl rfl
    refine cE_v (wc := (w_X5_put E a_ a_row a_partners a_share a_leftOver c_askedCount c_outcome w_14)) (wr := []) (w1 := (w_X5_put E a_ a_row a_partners a_share a_leftOver c_askedCount c_outcome w_16)) (va_runV (As := [.int x1, .int (5 : Int32), .int (0 : Int32)]) (rest := [])  ⟨hx, hb, hml, hown, hts⟩ (f_X5_put l E H.size (a_ := a_) (a_row := a_row) (a_partners := a_partners) (a_share := a_share) (a_leftOver := a_leftOver) (p1 := x1) (p2 := (5 : Int32)) (p3 := (0 : Int32)) (c_askedCount := c_askedCount) (c_outcome := c_outcome) (c_row := w_14) hc_17) (cwV 3 hts g_f_X5_hearPlaces_f_X5_put_52 rfl rfl rfl hd_X5_put ⟨Nat.le_of_ble_eq_true rfl, Nat.le_of_ble_eq_true rfl⟩) ⟨pW.blind, hrc, (pW.pre ⟨hK, hN⟩ hPc hDc)⟩ rfl rfl hl.1 rfl (lv_room (Nat.le_of_ble_eq_true rfl)) dX5_hearPlaces_59 ⟨Nat.le_of_ble_eq_true rfl, Nat.le_of_ble_eq_true rfl⟩) hS hFc hP hD [0, 1] [] rfl rfl (by decide) (by decide) (fun H locs hP hD hS => ?_)
    replace hP : va_P E.1 vwCl [(a_, .inr (6, [.ref a_row, .ref a_partners, .int c_askedCount, .int c_outcome, .ref a_share, .ref a_leftOver])), (a_row, .inl (E.2.1, 81, .inl w_16))] H := hP
    replace hD : va_D A [(a_, .inr (6, [.ref a_row, .ref a_partners, .int c_askedCount, .int c_outcome, .ref a_share, .ref a_leftOver])), (a_row, .inl (E.2.1, 81, .inl w_16))] := hD
    refine lv_aload_n hx hb dX5_hearPlaces_62 rfl (lv_at hl 0 rfl) ?_
    refine gt_X5_0 (v := .ref a_row) hx hb hts i_f_X5_hearPlaces_X5 hown hK hP 0 rfl (hts (.fieldLink RX5 11 "HushWatch$State" "row" "[I") (List.mem_of_getElem? (i := 1) rfl)) rfl dX5_hearPlaces_63 ?_
    refine lv_iconst (v := 4) hx hb dX5_hearPlaces_66 (by decide) ?_
    refine lv_dup2_11 hx hb dX5_hearPlaces_67 rfl rfl ?_
    refine va_iald hx hb hK hP 1 0 rfl rfl (vin rfl) dX5_hearPlaces_68 ?_
    refine W.eq (g2 := F0 m 69 ls [.int (w_16 4), .int (4 : Int32), .ref a_row]) rfl ?_
    refine lv_aload_n hx hb dX5_hearPlaces_69 rfl (lv_at hl 0 rfl) ?_
    refine lv_iload_n hx hb dX5_hearPlaces_70 rfl (lv_at hl 1 rfl) ?_
    refine lv_iconst (v := 0) hx hb dX5_hearPlaces_71 (by decide) ?_
    replace hF := bd1_s hF
    obtain ⟨r_18, hc_19, hF⟩ := hF
    have hPc : va_P E.1 vwCl (w_X5_of E a_ a_row a_partners a_share a_leftOver c_askedCount c_outcome w_16) H := hP.sub (ws' := [(a_, .inr (6, [.ref a_row, .ref a_partners, .int c_askedCount, .int c_outcome, .ref a_share, .ref a_leftOver])), (a_row, .inl (E.2.1, 81, .inl w_16))]) [0, 1] rfl
    have hrc := va_recv hK hPc (ci := 6) (q0 := 0) rfl rfl
    refine pE_i (va_runV (As := [.int x1, .int (0 : Int32)]) (rest := [.int (w_16 4), .int (4 : Int32), .ref a_row])  ⟨hx, hb, hml, hown, hts⟩ (f_X5_of l E (a_ := a_) (a_row := a_row) (a_partners := a_partners) (a_share := a_share) (a_leftOver := a_leftOver) (p1 := x1) (p2 := (0 : Int32)) (c_askedCount := c_askedCount) (c_outcome := c_outcome) (c_row := w_16) hc_19) (cwV 2 hts g_f_X5_hearPlaces_f_X5_of_69 rfl rfl rfl hd_X5_of ⟨Nat.le_of_ble_eq_true rfl, Nat.le_of_ble_eq_true rfl⟩) ⟨pP.blind, hrc, (pP.pre ⟨hK, hN⟩ hPc)⟩ rfl rfl hl.1 rfl (lv_room (Nat.le_of_ble_eq_true rfl)) dX5_hearPlaces_72 ⟨Nat.le_of_ble_eq_true rfl, Nat.le_of_ble_eq_true rfl⟩) ?_
    refine lv_iadd hx hb dX5_hearPlaces_75 ?_
    refine va_iast hx hb hK hP hD hS 1 0 rfl rfl (vin rfl) dX5_hearPlaces_76 (fun H locs hP hD hS => ?_)
    replace hP : va_P E.1 vwCl [(a_, .inr (6, [.ref a_row, .ref a_partners, .int c_askedCount, .int c_outcome, .ref a_share, .ref a_leftOver])), (a_row, .inl (E.2.1, 81, .inl (upd w_16 4 ((w_16 4) + r_18))))] H := hP
    replace hD : va_D A [(a_, .inr (6, [.ref a_row, .ref a_partners, .int c_askedCount, .int c_outcome, .ref a_share, .ref a_leftOver])), (a_row, .inl (E.2.1, 81, .inl (upd w_16 4 ((w_16 4) + r_18))))] := hD
    replace hF := nm_s hF
    obtain ⟨f_20, hf_20, hF⟩ := hF
    rw [← hf_20] at hP hD
    refine lv_aload_n hx hb dX5_hearPlaces_77 rfl (lv_at hl 0 rfl) ?_
    refine gt_X5_0 (v := .ref a_row) hx hb hts i_f_X5_hearPlaces_X5 hown hK hP 0 rfl (hts (.fieldLink RX5 11 "HushWatch$State" "row" "[I") (List.mem_of_getElem? (i := 1) rfl)) rfl dX5_hearPlaces_78 ?_
    refine lv_iconst (v := 5) hx hb dX5_hearPlaces_81 (by decide) ?_
    refine lv_dup2_11 hx hb dX5_hearPlaces_82 rfl rfl ?_
    refine va_iald hx hb hK hP 1 0 rfl rfl (vin rfl) dX5_hearPlaces_83 ?_
    refine W.eq (g2 := F0 m 84 ls [.int (f_20 5), .int (5 : Int32), .ref a_row]) rfl ?_
    refine lv_aload_n hx hb dX5_hearPlaces_84 rfl (lv_at hl 0 rfl) ?_
    refine lv_iload_n hx hb dX5_hearPlaces_85 rfl (lv_at hl 1 rfl) ?_
    refine lv_iconst (v := 1) hx hb dX5_hearPlaces_86 (by decide) ?_
    replace hF := bd1_s hF
    obtain ⟨r_21, hc_22, hF⟩ := hF
    have hPc : va_P E.1 vwCl (w_X5_of E a_ a_row a_partners a_share a_leftOver c_askedCount c_outcome f_20) H := hP.sub (ws' := [(a_, .inr (6, [.ref a_row, .ref a_partners, .int c_askedCount, .int c_outcome, .ref a_share, .ref a_leftOver])), (a_row, .inl (E.2.1, 81, .inl f_20))]) [0, 1] rfl
    have hrc := va_recv hK hPc (ci := 6) (q0 := 0) rfl rfl
    refine pE_i (va_runV (As := [.int x1, .int (1 : Int32)]) (rest := [.int (f_20 5), .int (5 : Int32), .ref a_row])  ⟨hx, hb, hml, hown, hts⟩ (f_X5_of l E (a_ := a_) (a_row := a_row) (a_partners := a_partners) (a_share := a_share) (a_leftOver := a_leftOver) (p1 := x1) (p2 := (1 : Int32)) (c_askedCount := c_askedCount) (c_outcome := c_outcome) (c_row := f_20) hc_22) (cwV 2 hts g_f_X5_hearPlaces_f_X5_of_69 rfl rfl rfl hd_X5_of ⟨Nat.le_of_ble_eq_true rfl, Nat.le_of_ble_eq_true rfl⟩) ⟨pP.blind, hrc, (pP.pre ⟨hK, hN⟩ hPc)⟩ rfl rfl hl.1 rfl (lv_room (Nat.le_of_ble_eq_true rfl)) dX5_hearPlaces_87 ⟨Nat.le_of_ble_eq_true rfl, Nat.le_of_ble_eq_true rfl⟩) ?_
    refine lv_iadd hx hb dX5_hearPlaces_90 ?_
    refine va_iast hx hb hK hP hD hS 1 0 rfl rfl (vin rfl) dX5_hearPlaces_91 (fun H locs hP hD hS => ?_)
    replace hP : va_P E.1 vwCl [(a_, .inr (6, [.ref a_row, .ref a_partners, .int c_askedCount, .int c_outcome, .ref a_share, .ref a_leftOver])), (a_row, .inl (E.2.1, 81, .inl (upd f_20 5 ((f_20 5) + r_21))))] H := hP
    replace hD : va_D A [(a_, .inr (6, [.ref a_row, .ref a_partners, .int c_askedCount, .int c_outcome, .ref a_share, .ref a_leftOver])), (a_row, .inl (E.2.1, 81, .inl (upd f_20 5 ((f_20 5) + r_21))))] := hD
    replace hF := nm_s hF
    obtain ⟨f_23, hf_23, hF⟩ := hF
    rw [← hf_23] at hP hD
    refine lv_iinc (v := x1 + (1 : Int32)) (lv' := [(1, .int (x1 + (1 : Int32))), (0, .ref a_)]) hx hb dX5_hearPlaces_92 hl (k := 1) rfl (rfl) (by decide) rfl (fun ls hl => ?_)
    refine lv_goto (tgt := 16) hx hb dX5_hearPlaces_95 (by decide) ?_
    cases hF
    exact hC (x1 + (1 : Int32)) f_23 rfl H locs ls (hP.sub [0, 1] rfl) (hD.sub [0, 1] (by decide) rfl) hS (lv_sub hl [1, 0] rfl)

set_option maxHeartbeats 4000000 in
set_option maxRecDepth 100000 in
theorem lw_X5_hearPlaces_16 {p : Program} (l : Launch) {e : Env} {s : State} {m : MethodId} {below : List Frame} {meth : Method} {c : Code} {Q : State → Prop} (E : EE) (K : Nat) {a_ a_row a_partners a_share a_leftOver : Nat} {c_askedCount : Int32} {c_outcome : Int32} (hx : p.tables.exec = Jvm.exec) (hb : c.code = cX5_hearPlaces) (hml : c.maxLocals = 2) (hown : s.vm.findClass RX5 = some m.cls) (hts : ∀ w ∈ v_f_X5_hearPlaces, w.before #[Value.ref a_] s = true) (hK : va_K E.1 vwCl (TY E) s) (hN : NX s) {A : Nat → Prop} (hA : ∀ q : Nat, s.heap.size ≤ q → A q) (j9 : Nat) (x1 : Int32) (c_row : Nat → Int32) (c_row' : Nat → Int32) (hL : lpF (fun u9 : Int32 × (Nat → Int32) => B_X5_hearPlaces_16  u9.1 u9.2) j9 (x1, c_row) = some c_row') (hX : (∀ (H : Heap) (locs : List Loc) (ls : Array Slot), va_P E.1 vwCl (w_X5_hearPlaces E a_ a_row a_partners a_share a_leftOver c_askedCount c_outcome c_row') H → va_D A (w_X5_hearPlaces E a_ a_row a_partners a_share a_leftOver c_askedCount c_outcome c_row') → va_S A s.heap H locs → lv_has ls 2 [] → W p l e ({ frames := 1, cells := 0, slots := 0, locals := 23 } : Room) s m #[Value.ref a_] below meth c H locs 0 0 Q (F0 m 98 ls []))) : ∀ (H : Heap) (locs : List Loc) (ls : Array Slot), va_P E.1 vwCl (w_X5_hearPlaces E a_ a_row a_partners a_share a_leftOver c_askedCount c_outcome c_row) H → va_D A (w_X5_hearPlaces E a_ a_row a_partners a_share a_leftOver c_askedCount c_outcome c_row) → va_S A s.heap H locs → lv_has ls 2 [(0, .ref a_), (1, .int x1)] → W p l e ({ frames := 1, cells := 0, slots := 0, locals := 23 } : Room) s m #[Value.ref a_] below meth c H locs 0 0 Q (F0 m 16 ls []) := by
  exact lp_rule (P := (fun u9 : Int32 × (Nat → Int32) => ∀ (H : Heap) (locs : List Loc) (ls : Array Slot), va_P E.1 vwCl (w_X5_hearPlaces E a_ a_row a_partners a_share a_leftOver c_askedCount c_outcome u9.2) H → va_D A (w_X5_hearPlaces E a_ a_row a_partners a_share a_leftOver c_askedCount c_outcome u9.2) → va_S A s.heap H locs → lv_has ls 2 [(0, .ref a_), (1, .int u9.1)] → W p l e ({ frames := 1, cells := 0, slots := 0, locals := 23 } : Room) s m #[Value.ref a_] below meth c H locs 0 0 Q (F0 m 16 ls []))) (R := (fun r9 : (Nat → Int32) => (∀ (H : Heap) (locs : List Loc) (ls : Array Slot), va_P E.1 vwCl (w_X5_hearPlaces E a_ a_row a_partners a_share a_leftOver c_askedCount c_outcome r9) H → va_D A (w_X5_hearPlaces E a_ a_row a_partners a_share a_leftOver c_askedCount c_outcome r9) → va_S A s.heap H locs → lv_has ls 2 [] → W p l e ({ frames := 1, cells := 0, slots := 0, locals := 23 } : Room) s m #[Value.ref a_] below meth c H locs 0 0 Q (F0 m 98 ls [])))) (fun u9 xx hF hC hE => wb_X5_hearPlaces_16 l E K (c_askedCount := c_askedCount) (c_outcome := c_outcome) (x1 := u9.1) (c_row := u9.2) hx hb hml hown hts hK hN hA (fun x1 c_row q9 => hC _ q9) (fun c_row q9 => hE _ q9) hF) j9 (x1, c_row) c_row' hL hX

set_option maxHeartbeats 4000000 in
set_option maxRecDepth 100000 in
theorem f_X5_hearPlaces (l : Launch) (E : EE) (sz : Nat) (K : Nat) {a_ a_row a_partners a_share a_leftOver : Nat} {c_askedCount : Int32} {c_outcome : Int32} {c_row : Nat → Int32} {n_row : Nat → Int32} (hF : F_X5_hearPlaces K c_row = some n_row) : Met l yX5_hearPlaces v_f_X5_hearPlaces (({ frames := 1, cells := 0, slots := 0, locals := 23 } : Room)) (va_Pc [.ref a_] (pW E sz (w_X5_hearPlaces E a_ a_row a_partners a_share a_leftOver c_askedCount c_outcome c_row))) (va_Qv (fun (_u : Unit) => True) (fun (_u : Unit) tt => va_P E.1 vwCl (w_X5_hearPlaces E a_ a_row a_partners a_share a_leftOver c_askedCount c_outcome n_row) tt.heap ∧ va_D (va_A (w_X5_hearPlaces E a_ a_row a_partners a_share a_leftOver c_askedCount c_outcome c_row) sz) (w_X5_hearPlaces E a_ a_row a_partners a_share a_leftOver c_askedCount c_outcome n_row)) (va_A (w_X5_hearPlaces E a_ a_row a_partners a_share a_leftOver c_askedCount c_outcome c_row) sz)) 0 0 (va_A (w_X5_hearPlaces E a_ a_row a_partners a_share a_leftOver c_askedCount c_outcome c_row) sz) := by
  refine Met.ofW (cc := cX5_hearPlaces) (maxL := 2) (ret := none) (by decide) rfl ?_
  intro p e s m args below meth c s₁ B hml hv
  obtain ⟨rfl, hsz, ⟨hK, hN⟩, hP, hD0⟩ := hv
  have hx := B.exec
  have hb := B.bytes
  have hr := B.returns
  have hts := atoms_spec (ws := v_f_X5_hearPlaces) B.pre
  have hown : s.vm.findClass RX5 = some m.cls := own_of hd_X5_hearPlaces.1 (findClass_of_methodNamed B.named)
  have hlocks : meth.locks = false := B.notSynchronized
  subst hsz
  have hD := hD0.self (sz := s.heap.size)
  generalize hAe : va_A (w_X5_hearPlaces E a_ a_row a_partners a_share a_leftOver c_askedCount c_outcome c_row) s.heap.size = A at hD ⊢
  have hA : ∀ q : Nat, s.heap.size ≤ q → A q := fun q h => by rw [← hAe]; exact Or.inr h
  have hS : va_S A s.heap s.heap [] := va_S.rf
  have hl := lv_entry ([.ref a_]) (n := 2) (Nat.le_of_ble_eq_true rfl)
  rw [lg_entry_eq]
  generalize (lg_sl ([.ref a_]) ++ List.replicate (2 - (lg_sl ([.ref a_])).length) Slot.unset).toArray = ls at hl ⊢
  have hl : lv_has ls 2 [(0, .ref a_)] := hl
  obtain ⟨Q, hQ⟩ : ∃ Q : State → Prop, Q = MQ below (va_Qv (fun (_u : Unit) => True) (fun (_u : Unit) tt => va_P E.1 vwCl (w_X5_hearPlaces E a_ a_row a_partners a_share a_leftOver c_askedCount c_outcome n_row) tt.heap ∧ va_D A (w_X5_hearPlaces E a_ a_row a_partners a_share a_leftOver c_askedCount c_outcome n_row)) A) #[Value.ref a_] s 0 0 A := ⟨_, rfl⟩
  rw [← hQ]
  change W p l e ({ frames := 1, cells := 0, slots := 0, locals := 23 } : Room) s m #[Value.ref a_] below meth c s.heap [] 0 0 Q (F0 m 0 ls [])
  suffices hh9 : ∀ (H : Heap) (locs : List Loc), va_P E.1 vwCl (w_X5_hearPlaces E a_ a_row a_partners a_share a_leftOver c_askedCount c_outcome c_row) H → va_D A (w_X5_hearPlaces E a_ a_row a_partners a_share a_leftOver c_askedCount c_outcome c_row) → va_S A s.heap H locs → W p l e ({ frames := 1, cells := 0, slots := 0, locals := 23 } : Room) s m #[Value.ref a_] below meth c H locs 0 0 Q (F0 m 0 ls []) from hh9 s.heap [] hP hD hS
  clear hP hD hS
  intro H locs hP hD hS
  replace hP : va_P E.1 vwCl [(a_, .inr (6, [.ref a_row, .ref a_partners, .int c_askedCount, .int c_outcome, .ref a_share, .ref a_leftOver])), (a_row, .inl (E.2.1, 81, .inl c_row))] H := hP
  replace hD : va_D A [(a_, .inr (6, [.ref a_row, .ref a_partners, .int c_askedCount, .int c_outcome, .ref a_share, .ref a_leftOver])), (a_row, .inl (E.2.1, 81, .inl c_row))] := hD
  unfold F_X5_hearPlaces at hF
  refine lv_aload_n hx hb dX5_hearPlaces_0 rfl (lv_at hl 0 rfl) ?_
  refine gt_X5_0 (v := .ref a_row) hx hb hts i_f_X5_hearPlaces_X5 hown hK hP 0 rfl (hts (.fieldLink RX5 11 "HushWatch$State" "row" "[I") (List.mem_of_getElem? (i := 1) rfl)) rfl dX5_hearPlaces_1 ?_
  refine lv_iconst (v := 4) hx hb dX5_hearPlaces_4 (by decide) ?_
  refine lv_iconst (v := 0) hx hb dX5_hearPlaces_5 (by decide) ?_
  refine va_iast hx hb hK hP hD hS 1 0 rfl rfl (vin rfl) dX5_hearPlaces_6 (fun H locs hP hD hS => ?_)
  replace hP : va_P E.1 vwCl [(a_, .inr (6, [.ref a_row, .ref a_partners, .int c_askedCount, .int c_outcome, .ref a_share, .ref a_leftOver])), (a_row, .inl (E.2.1, 81, .inl (upd c_row 4 (0 : Int32))))] H := hP
  replace hD : va_D A [(a_, .inr (6, [.ref a_row, .ref a_partners, .int c_askedCount, .int c_outcome, .ref a_share, .ref a_leftOver])), (a_row, .inl (E.2.1, 81, .inl (upd c_row 4 (0 : Int32))))] := hD
  replace hF := nm_s hF
  obtain ⟨f_1, hf_1, hF⟩ := hF
  rw [← hf_1] at hP hD
  refine lv_aload_n hx hb dX5_hearPlaces_7 rfl (lv_at hl 0 rfl) ?_
  refine gt_X5_0 (v := .ref a_row) hx hb hts i_f_X5_hearPlaces_X5 hown hK hP 0 rfl (hts (.fieldLink RX5 11 "HushWatch$State" "row" "[I") (List.mem_of_getElem? (i := 1) rfl)) rfl dX5_hearPlaces_8 ?_
  refine lv_iconst (v := 5) hx hb dX5_hearPlaces_11 (by decide) ?_
  refine lv_iconst (v := 0) hx hb dX5_hearPlaces_12 (by decide) ?_
  refine va_iast hx hb hK hP hD hS 1 0 rfl rfl (vin rfl) dX5_hearPlaces_13 (fun H locs hP hD hS => ?_)
  replace hP : va_P E.1 vwCl [(a_, .inr (6, [.ref a_row, .ref a_partners, .int c_askedCount, .int c_outcome, .ref a_share, .ref a_leftOver])), (a_row, .inl (E.2.1, 81, .inl (upd f_1 5 (0 : Int32))))] H := hP
  replace hD : va_D A [(a_, .inr (6, [.ref a_row, .ref a_partners, .int c_askedCount, .int c_outcome, .ref a_share, .ref a_leftOver])), (a_row, .inl (E.2.1, 81, .inl (upd f_1 5 (0 : Int32))))] := hD
  replace hF := nm_s hF
  obtain ⟨f_2, hf_2, hF⟩ := hF
  rw [← hf_2] at hP hD
  refine lv_iconst (v := 0) hx hb dX5_hearPlaces_14 (by decide) ?_
  refine lv_istore_n (lv' := [(1, .int (0 : Int32)), (0, .ref a_)]) hx hb dX5_hearPlaces_15 rfl hl (by decide) rfl (fun ls hl => ?_)
  replace hF := bd1_s hF
  obtain ⟨c_row_24, hL_25, hF⟩ := hF
  refine lw_X5_hearPlaces_16 l E K (c_askedCount := c_askedCount) (c_outcome := c_outcome) hx hb hml hown hts hK hN hA K (0 : Int32) f_2 c_row_24 hL_25 ?_ H locs ls (hP.sub [0, 1] rfl) (hD.sub [0, 1] (by decide) rfl) hS (lv_sub hl [1, 0] rfl)
  ·
    intro H locs ls hP hD hS hl
    replace hP : va_P E.1 vwCl [(a_, .inr (6, [.ref a_row, .ref a_partners, .int c_askedCount, .int c_outcome, .ref a_share, .ref a_leftOver])), (a_row, .inl (E.2.1, 81, .inl c_row_24))] H := hP
    replace hD : va_D A [(a_, .inr (6, [.ref a_row, .ref a_partners, .int c_askedCount, .int c_outcome, .ref a_share, .ref a_leftOver])), (a_row, .inl (E.2.1, 81, .inl c_row_24))] := hD
    rw [hQ]
    have h9 := fin9 (P := fun u9 : (Nat → Int32) => va_P E.1 vwCl (w_X5_hearPlaces E a_ a_row a_partners a_share a_leftOver c_askedCount c_outcome u9) H ∧ va_D A (w_X5_hearPlaces E a_ a_row a_partners a_share a_leftOver c_askedCount c_outcome u9)) hF ⟨hP, hD⟩
    obtain ⟨hP9, hD9⟩ := h9
    exact W.vret hx hb hr (fun tt ht hW => ⟨⟨(), rfl, trivial, ht ▸ hP9, hD9⟩, hS.F ht⟩) hS.2.2 dX5_hearPlaces_98
end
-- 20.st02
section
def dl_X5_begin_20_st02_0 : List (Nat × Instr × Nat) := [(2, .iload_n 2, 1), (3, .bipush 81, 2), (5, .if_icmp .ge 16, 3), (8, .aload_n 0, 1), (9, .getfield 11, 3), (12, .iload_n 2, 1), (13, .iconst 0, 1), (14, .iastore, 1), (15, .iinc 2 1, 3), (18, .goto (-16), 3), (74, .iload_n 2, 1), (75, .aload_n 0, 1), (76, .invokevirtual 45, 3), (79, .if_icmp .ge 39, 3), (82, .aload_n 0, 1), (83, .iload_n 2, 1), (84, .iconst 0, 1), (85, .aload_n 1, 1), (86, .getfield 49, 3), (89, .iconst 2, 1), (90, .iload_n 2, 1), (91, .imul, 1), (92, .iaload, 1), (93, .invokevirtual 52, 3), (96, .aload_n 0, 1), (97, .iload_n 2, 1), (98, .iconst 1, 1), (99, .aload_n 1, 1), (100, .getfield 49, 3), (103, .iconst 2, 1), (104, .iload_n 2, 1), (105, .imul, 1), (106, .iconst 1, 1), (107, .iadd, 1), (108, .iaload, 1), (109, .invokevirtual 52, 3), (112, .iinc 2 1, 3), (115, .goto (-41), 3), (0, .iconst 0, 1), (1, .istore_n 2, 1), (21, .aload_n 0, 1), (22, .getfield 11, 3), (25, .iconst 0, 1), (26, .aload_n 1, 1), (27, .getfield 31, 3), (30, .iconst 0, 1), (31, .iaload, 1), (32, .iastore, 1), (33, .aload_n 0, 1), (34, .getfield 11, 3)]
set_option maxRecDepth 100000 in
theorem dall_X5_begin_20_st02_0 : dchk cX5_begin dl_X5_begin_20_st02_0 = true := by decide +kernel
theorem dX5_begin_2 : decode cX5_begin 2 = .ok (.iload_n 2, 1) := dchk_at dall_X5_begin_20_st02_0 (k := 0) rfl
theorem dX5_begin_3 : decode cX5_begin 3 = .ok (.bipush 81, 2) := dchk_at dall_X5_begin_20_st02_0 (k := 1) rfl
theorem dX5_begin_5 : decode cX5_begin 5 = .ok (.if_icmp .ge 16, 3) := dchk_at dall_X5_begin_20_st02_0 (k := 2) rfl
theorem dX5_begin_8 : decode cX5_begin 8 = .ok (.aload_n 0, 1) := dchk_at dall_X5_begin_20_st02_0 (k := 3) rfl
theorem dX5_begin_9 : decode cX5_begin 9 = .ok (.getfield 11, 3) := dchk_at dall_X5_begin_20_st02_0 (k := 4) rfl
theorem dX5_begin_12 : decode cX5_begin 12 = .ok (.iload_n 2, 1) := dchk_at dall_X5_begin_20_st02_0 (k := 5) rfl
theorem dX5_begin_13 : decode cX5_begin 13 = .ok (.iconst 0, 1) := dchk_at dall_X5_begin_20_st02_0 (k := 6) rfl
theorem dX5_begin_14 : decode cX5_begin 14 = .ok (.iastore, 1) := dchk_at dall_X5_begin_20_st02_0 (k := 7) rfl
theorem dX5_begin_15 : decode cX5_begin 15 = .ok (.iinc 2 1, 3) := dchk_at dall_X5_begin_20_st02_0 (k := 8) rfl
theorem dX5_begin_18 : decode cX5_begin 18 = .ok (.goto (-16), 3) := dchk_at dall_X5_begin_20_st02_0 (k := 9) rfl
theorem dX5_begin_74 : decode cX5_begin 74 = .ok (.iload_n 2, 1) := dchk_at dall_X5_begin_20_st02_0 (k := 10) rfl
theorem dX5_begin_75 : decode cX5_begin 75 = .ok (.aload_n 0, 1) := dchk_at dall_X5_begin_20_st02_0 (k := 11) rfl
theorem dX5_begin_76 : decode cX5_begin 76 = .ok (.invokevirtual 45, 3) := dchk_at dall_X5_begin_20_st02_0 (k := 12) rfl
theorem dX5_begin_79 : decode cX5_begin 79 = .ok (.if_icmp .ge 39, 3) := dchk_at dall_X5_begin_20_st02_0 (k := 13) rfl
theorem dX5_begin_82 : decode cX5_begin 82 = .ok (.aload_n 0, 1) := dchk_at dall_X5_begin_20_st02_0 (k := 14) rfl
theorem dX5_begin_83 : decode cX5_begin 83 = .ok (.iload_n 2, 1) := dchk_at dall_X5_begin_20_st02_0 (k := 15) rfl
theorem dX5_begin_84 : decode cX5_begin 84 = .ok (.iconst 0, 1) := dchk_at dall_X5_begin_20_st02_0 (k := 16) rfl
theorem dX5_begin_85 : decode cX5_begin 85 = .ok (.aload_n 1, 1) := dchk_at dall_X5_begin_20_st02_0 (k := 17) rfl
theorem dX5_begin_86 : decode cX5_begin 86 = .ok (.getfield 49, 3) := dchk_at dall_X5_begin_20_st02_0 (k := 18) rfl
theorem dX5_begin_89 : decode cX5_begin 89 = .ok (.iconst 2, 1) := dchk_at dall_X5_begin_20_st02_0 (k := 19) rfl
theorem dX5_begin_90 : decode cX5_begin 90 = .ok (.iload_n 2, 1) := dchk_at dall_X5_begin_20_st02_0 (k := 20) rfl
theorem dX5_begin_91 : decode cX5_begin 91 = .ok (.imul, 1) := dchk_at dall_X5_begin_20_st02_0 (k := 21) rfl
theorem dX5_begin_92 : decode cX5_begin 92 = .ok (.iaload, 1) := dchk_at dall_X5_begin_20_st02_0 (k := 22) rfl
theorem dX5_begin_93 : decode cX5_begin 93 = .ok (.invokevirtual 52, 3) := dchk_at dall_X5_begin_20_st02_0 (k := 23) rfl
theorem dX5_begin_96 : decode cX5_begin 96 = .ok (.aload_n 0, 1) := dchk_at dall_X5_begin_20_st02_0 (k := 24) rfl
theorem dX5_begin_97 : decode cX5_begin 97 = .ok (.iload_n 2, 1) := dchk_at dall_X5_begin_20_st02_0 (k := 25) rfl
theorem dX5_begin_98 : decode cX5_begin 98 = .ok (.iconst 1, 1) := dchk_at dall_X5_begin_20_st02_0 (k := 26) rfl
theorem dX5_begin_99 : decode cX5_begin 99 = .ok (.aload_n 1, 1) := dchk_at dall_X5_begin_20_st02_0 (k := 27) rfl
theorem dX5_begin_100 : decode cX5_begin 100 = .ok (.getfield 49, 3) := dchk_at dall_X5_begin_20_st02_0 (k := 28) rfl
theorem dX5_begin_103 : decode cX5_begin 103 = .ok (.iconst 2, 1) := dchk_at dall_X5_begin_20_st02_0 (k := 29) rfl
theorem dX5_begin_104 : decode cX5_begin 104 = .ok (.iload_n 2, 1) := dchk_at dall_X5_begin_20_st02_0 (k := 30) rfl
theorem dX5_begin_105 : decode cX5_begin 105 = .ok (.imul, 1) := dchk_at dall_X5_begin_20_st02_0 (k := 31) rfl
theorem dX5_begin_106 : decode cX5_begin 106 = .ok (.iconst 1, 1) := dchk_at dall_X5_begin_20_st02_0 (k := 32) rfl
theorem dX5_begin_107 : decode cX5_begin 107 = .ok (.iadd, 1) := dchk_at dall_X5_begin_20_st02_0 (k := 33) rfl
theorem dX5_begin_108 : decode cX5_begin 108 = .ok (.iaload, 1) := dchk_at dall_X5_begin_20_st02_0 (k := 34) rfl
theorem dX5_begin_109 : decode cX5_begin 109 = .ok (.invokevirtual 52, 3) := dchk_at dall_X5_begin_20_st02_0 (k := 35) rfl
theorem dX5_begin_112 : decode cX5_begin 112 = .ok (.iinc 2 1, 3) := dchk_at dall_X5_begin_20_st02_0 (k := 36) rfl
theorem dX5_begin_115 : decode cX5_begin 115 = .ok (.goto (-41), 3) := dchk_at dall_X5_begin_20_st02_0 (k := 37) rfl
theorem dX5_begin_0 : decode cX5_begin 0 = .ok (.iconst 0, 1) := dchk_at dall_X5_begin_20_st02_0 (k := 38) rfl
theorem dX5_begin_1 : decode cX5_begin 1 = .ok (.istore_n 2, 1) := dchk_at dall_X5_begin_20_st02_0 (k := 39) rfl
theorem dX5_begin_21 : decode cX5_begin 21 = .ok (.aload_n 0, 1) := dchk_at dall_X5_begin_20_st02_0 (k := 40) rfl
theorem dX5_begin_22 : decode cX5_begin 22 = .ok (.getfield 11, 3) := dchk_at dall_X5_begin_20_st02_0 (k := 41) rfl
theorem dX5_begin_25 : decode cX5_begin 25 = .ok (.iconst 0, 1) := dchk_at dall_X5_begin_20_st02_0 (k := 42) rfl
theorem dX5_begin_26 : decode cX5_begin 26 = .ok (.aload_n 1, 1) := dchk_at dall_X5_begin_20_st02_0 (k := 43) rfl
theorem dX5_begin_27 : decode cX5_begin 27 = .ok (.getfield 31, 3) := dchk_at dall_X5_begin_20_st02_0 (k := 44) rfl
theorem dX5_begin_30 : decode cX5_begin 30 = .ok (.iconst 0, 1) := dchk_at dall_X5_begin_20_st02_0 (k := 45) rfl
theorem dX5_begin_31 : decode cX5_begin 31 = .ok (.iaload, 1) := dchk_at dall_X5_begin_20_st02_0 (k := 46) rfl
theorem dX5_begin_32 : decode cX5_begin 32 = .ok (.iastore, 1) := dchk_at dall_X5_begin_20_st02_0 (k := 47) rfl
theorem dX5_begin_33 : decode cX5_begin 33 = .ok (.aload_n 0, 1) := dchk_at dall_X5_begin_20_st02_0 (k := 48) rfl
theorem dX5_begin_34 : decode cX5_begin 34 = .ok (.getfield 11, 3) := dchk_at dall_X5_begin_20_st02_0 (k := 49) rfl
def dl_X5_begin_20_st02_1 : List (Nat × Instr × Nat) := [(37, .iconst 1, 1), (38, .aload_n 1, 1), (39, .getfield 31, 3), (42, .iconst 1, 1), (43, .iaload, 1), (44, .iastore, 1), (45, .aload_n 0, 1), (46, .getfield 11, 3), (49, .iconst 2, 1), (50, .aload_n 1, 1), (51, .getfield 31, 3), (54, .iconst 2, 1), (55, .iaload, 1), (56, .iastore, 1), (57, .aload_n 0, 1), (58, .getfield 11, 3), (61, .iconst 3, 1), (62, .aload_n 1, 1), (63, .getfield 36, 3), (66, .bipush 8, 2), (68, .invokestatic 39, 3), (71, .iastore, 1), (72, .iconst 0, 1), (73, .istore_n 2, 1), (118, .aload_n 0, 1), (119, .invokevirtual 56, 3), (122, .aload_n 0, 1), (123, .getfield 11, 3), (126, .bipush 6, 2), (128, .aload_n 0, 1), (129, .aload_n 0, 1), (130, .getfield 11, 3), (133, .iconst 4, 1), (134, .iaload, 1), (135, .i2l, 1), (136, .aload_n 0, 1), (137, .getfield 11, 3), (140, .iconst 5, 1), (141, .iaload, 1), (142, .i2l, 1), (143, .invokevirtual 59, 3), (146, .ifCond .eq 7, 3), (153, .iconst 1, 1), (154, .iastore, 1), (155, .return_, 1), (149, .iconst 0, 1), (150, .goto 4, 3)]
set_option maxRecDepth 100000 in
theorem dall_X5_begin_20_st02_1 : dchk cX5_begin dl_X5_begin_20_st02_1 = true := by decide +kernel
theorem dX5_begin_37 : decode cX5_begin 37 = .ok (.iconst 1, 1) := dchk_at dall_X5_begin_20_st02_1 (k := 0) rfl
theorem dX5_begin_38 : decode cX5_begin 38 = .ok (.aload_n 1, 1) := dchk_at dall_X5_begin_20_st02_1 (k := 1) rfl
theorem dX5_begin_39 : decode cX5_begin 39 = .ok (.getfield 31, 3) := dchk_at dall_X5_begin_20_st02_1 (k := 2) rfl
theorem dX5_begin_42 : decode cX5_begin 42 = .ok (.iconst 1, 1) := dchk_at dall_X5_begin_20_st02_1 (k := 3) rfl
theorem dX5_begin_43 : decode cX5_begin 43 = .ok (.iaload, 1) := dchk_at dall_X5_begin_20_st02_1 (k := 4) rfl
theorem dX5_begin_44 : decode cX5_begin 44 = .ok (.iastore, 1) := dchk_at dall_X5_begin_20_st02_1 (k := 5) rfl
theorem dX5_begin_45 : decode cX5_begin 45 = .ok (.aload_n 0, 1) := dchk_at dall_X5_begin_20_st02_1 (k := 6) rfl
theorem dX5_begin_46 : decode cX5_begin 46 = .ok (.getfield 11, 3) := dchk_at dall_X5_begin_20_st02_1 (k := 7) rfl
theorem dX5_begin_49 : decode cX5_begin 49 = .ok (.iconst 2, 1) := dchk_at dall_X5_begin_20_st02_1 (k := 8) rfl
theorem dX5_begin_50 : decode cX5_begin 50 = .ok (.aload_n 1, 1) := dchk_at dall_X5_begin_20_st02_1 (k := 9) rfl
theorem dX5_begin_51 : decode cX5_begin 51 = .ok (.getfield 31, 3) := dchk_at dall_X5_begin_20_st02_1 (k := 10) rfl
theorem dX5_begin_54 : decode cX5_begin 54 = .ok (.iconst 2, 1) := dchk_at dall_X5_begin_20_st02_1 (k := 11) rfl
theorem dX5_begin_55 : decode cX5_begin 55 = .ok (.iaload, 1) := dchk_at dall_X5_begin_20_st02_1 (k := 12) rfl
theorem dX5_begin_56 : decode cX5_begin 56 = .ok (.iastore, 1) := dchk_at dall_X5_begin_20_st02_1 (k := 13) rfl
theorem dX5_begin_57 : decode cX5_begin 57 = .ok (.aload_n 0, 1) := dchk_at dall_X5_begin_20_st02_1 (k := 14) rfl
theorem dX5_begin_58 : decode cX5_begin 58 = .ok (.getfield 11, 3) := dchk_at dall_X5_begin_20_st02_1 (k := 15) rfl
theorem dX5_begin_61 : decode cX5_begin 61 = .ok (.iconst 3, 1) := dchk_at dall_X5_begin_20_st02_1 (k := 16) rfl
theorem dX5_begin_62 : decode cX5_begin 62 = .ok (.aload_n 1, 1) := dchk_at dall_X5_begin_20_st02_1 (k := 17) rfl
theorem dX5_begin_63 : decode cX5_begin 63 = .ok (.getfield 36, 3) := dchk_at dall_X5_begin_20_st02_1 (k := 18) rfl
theorem dX5_begin_66 : decode cX5_begin 66 = .ok (.bipush 8, 2) := dchk_at dall_X5_begin_20_st02_1 (k := 19) rfl
theorem dX5_begin_68 : decode cX5_begin 68 = .ok (.invokestatic 39, 3) := dchk_at dall_X5_begin_20_st02_1 (k := 20) rfl
theorem dX5_begin_71 : decode cX5_begin 71 = .ok (.iastore, 1) := dchk_at dall_X5_begin_20_st02_1 (k := 21) rfl
theorem dX5_begin_72 : decode cX5_begin 72 = .ok (.iconst 0, 1) := dchk_at dall_X5_begin_20_st02_1 (k := 22) rfl
theorem dX5_begin_73 : decode cX5_begin 73 = .ok (.istore_n 2, 1) := dchk_at dall_X5_begin_20_st02_1 (k := 23) rfl
theorem dX5_begin_118 : decode cX5_begin 118 = .ok (.aload_n 0, 1) := dchk_at dall_X5_begin_20_st02_1 (k := 24) rfl
theorem dX5_begin_119 : decode cX5_begin 119 = .ok (.invokevirtual 56, 3) := dchk_at dall_X5_begin_20_st02_1 (k := 25) rfl
theorem dX5_begin_122 : decode cX5_begin 122 = .ok (.aload_n 0, 1) := dchk_at dall_X5_begin_20_st02_1 (k := 26) rfl
theorem dX5_begin_123 : decode cX5_begin 123 = .ok (.getfield 11, 3) := dchk_at dall_X5_begin_20_st02_1 (k := 27) rfl
theorem dX5_begin_126 : decode cX5_begin 126 = .ok (.bipush 6, 2) := dchk_at dall_X5_begin_20_st02_1 (k := 28) rfl
theorem dX5_begin_128 : decode cX5_begin 128 = .ok (.aload_n 0, 1) := dchk_at dall_X5_begin_20_st02_1 (k := 29) rfl
theorem dX5_begin_129 : decode cX5_begin 129 = .ok (.aload_n 0, 1) := dchk_at dall_X5_begin_20_st02_1 (k := 30) rfl
theorem dX5_begin_130 : decode cX5_begin 130 = .ok (.getfield 11, 3) := dchk_at dall_X5_begin_20_st02_1 (k := 31) rfl
theorem dX5_begin_133 : decode cX5_begin 133 = .ok (.iconst 4, 1) := dchk_at dall_X5_begin_20_st02_1 (k := 32) rfl
theorem dX5_begin_134 : decode cX5_begin 134 = .ok (.iaload, 1) := dchk_at dall_X5_begin_20_st02_1 (k := 33) rfl
theorem dX5_begin_135 : decode cX5_begin 135 = .ok (.i2l, 1) := dchk_at dall_X5_begin_20_st02_1 (k := 34) rfl
theorem dX5_begin_136 : decode cX5_begin 136 = .ok (.aload_n 0, 1) := dchk_at dall_X5_begin_20_st02_1 (k := 35) rfl
theorem dX5_begin_137 : decode cX5_begin 137 = .ok (.getfield 11, 3) := dchk_at dall_X5_begin_20_st02_1 (k := 36) rfl
theorem dX5_begin_140 : decode cX5_begin 140 = .ok (.iconst 5, 1) := dchk_at dall_X5_begin_20_st02_1 (k := 37) rfl
theorem dX5_begin_141 : decode cX5_begin 141 = .ok (.iaload, 1) := dchk_at dall_X5_begin_20_st02_1 (k := 38) rfl
theorem dX5_begin_142 : decode cX5_begin 142 = .ok (.i2l, 1) := dchk_at dall_X5_begin_20_st02_1 (k := 39) rfl
theorem dX5_begin_143 : decode cX5_begin 143 = .ok (.invokevirtual 59, 3) := dchk_at dall_X5_begin_20_st02_1 (k := 40) rfl
theorem dX5_begin_146 : decode cX5_begin 146 = .ok (.ifCond .eq 7, 3) := dchk_at dall_X5_begin_20_st02_1 (k := 41) rfl
theorem dX5_begin_153 : decode cX5_begin 153 = .ok (.iconst 1, 1) := dchk_at dall_X5_begin_20_st02_1 (k := 42) rfl
theorem dX5_begin_154 : decode cX5_begin 154 = .ok (.iastore, 1) := dchk_at dall_X5_begin_20_st02_1 (k := 43) rfl
theorem dX5_begin_155 : decode cX5_begin 155 = .ok (.return_, 1) := dchk_at dall_X5_begin_20_st02_1 (k := 44) rfl
theorem dX5_begin_149 : decode cX5_begin 149 = .ok (.iconst 0, 1) := dchk_at dall_X5_begin_20_st02_1 (k := 45) rfl
theorem dX5_begin_150 : decode cX5_begin 150 = .ok (.goto 4, 3) := dchk_at dall_X5_begin_20_st02_1 (k := 46) rfl
def dl_X5_measureShares_20_st02_0 : List (Nat × Instr × Nat) := [(23, .iload 5, 2), (25, .aload_n 0, 1), (26, .invokevirtual 45, 3), (29, .if_icmp .ge 34, 3), (32, .iload 4, 2), (34, .iload_n 1, 1), (35, .iload 5, 2), (37, .ishr, 1), (38, .iconst 1, 1), (39, .iand, 1), (40, .ifCond .eq 13, 3), (53, .iconst 0, 1), (54, .iadd, 1), (55, .istore 4, 2), (57, .iinc 5 1, 3), (60, .goto (-37), 3), (43, .aload_n 0, 1), (44, .iload 5, 2), (46, .iload_n 3, 1), (47, .invokevirtual 72, 3), (50, .goto 4, 3), (12, .iload_n 3, 1), (13, .iconst 2, 1), (14, .if_icmp .ge 79, 3), (17, .iconst 0, 1), (18, .istore 4, 2), (20, .iconst 0, 1), (21, .istore 5, 2), (63, .aload_n 0, 1), (64, .getfield 25, 3), (67, .iload_n 3, 1), (68, .iload 4, 2), (70, .iload_n 2, 1), (71, .invokestatic 176, 3), (74, .iastore, 1), (75, .aload_n 0, 1), (76, .getfield 28, 3), (79, .iload_n 3, 1), (80, .iload 4, 2), (82, .iload_n 2, 1), (83, .invokestatic 179, 3), (86, .iastore, 1), (87, .iinc 3 1, 3), (90, .goto (-78), 3), (0, .iload_n 1, 1), (1, .invokestatic 171, 3), (4, .istore_n 2, 1), (5, .iload_n 2, 1), (6, .ifCond .ne 4, 3), (10, .iconst 0, 1)]
set_option maxRecDepth 100000 in
theorem dall_X5_measureShares_20_st02_0 : dchk cX5_measureShares dl_X5_measureShares_20_st02_0 = true := by decide +kernel
theorem dX5_measureShares_23 : decode cX5_measureShares 23 = .ok (.iload 5, 2) := dchk_at dall_X5_measureShares_20_st02_0 (k := 0) rfl
theorem dX5_measureShares_25 : decode cX5_measureShares 25 = .ok (.aload_n 0, 1) := dchk_at dall_X5_measureShares_20_st02_0 (k := 1) rfl
theorem dX5_measureShares_26 : decode cX5_measureShares 26 = .ok (.invokevirtual 45, 3) := dchk_at dall_X5_measureShares_20_st02_0 (k := 2) rfl
theorem dX5_measureShares_29 : decode cX5_measureShares 29 = .ok (.if_icmp .ge 34, 3) := dchk_at dall_X5_measureShares_20_st02_0 (k := 3) rfl
theorem dX5_measureShares_32 : decode cX5_measureShares 32 = .ok (.iload 4, 2) := dchk_at dall_X5_measureShares_20_st02_0 (k := 4) rfl
theorem dX5_measureShares_34 : decode cX5_measureShares 34 = .ok (.iload_n 1, 1) := dchk_at dall_X5_measureShares_20_st02_0 (k := 5) rfl
theorem dX5_measureShares_35 : decode cX5_measureShares 35 = .ok (.iload 5, 2) := dchk_at dall_X5_measureShares_20_st02_0 (k := 6) rfl
theorem dX5_measureShares_37 : decode cX5_measureShares 37 = .ok (.ishr, 1) := dchk_at dall_X5_measureShares_20_st02_0 (k := 7) rfl
theorem dX5_measureShares_38 : decode cX5_measureShares 38 = .ok (.iconst 1, 1) := dchk_at dall_X5_measureShares_20_st02_0 (k := 8) rfl
theorem dX5_measureShares_39 : decode cX5_measureShares 39 = .ok (.iand, 1) := dchk_at dall_X5_measureShares_20_st02_0 (k := 9) rfl
theorem dX5_measureShares_40 : decode cX5_measureShares 40 = .ok (.ifCond .eq 13, 3) := dchk_at dall_X5_measureShares_20_st02_0 (k := 10) rfl
theorem dX5_measureShares_53 : decode cX5_measureShares 53 = .ok (.iconst 0, 1) := dchk_at dall_X5_measureShares_20_st02_0 (k := 11) rfl
theorem dX5_measureShares_54 : decode cX5_measureShares 54 = .ok (.iadd, 1) := dchk_at dall_X5_measureShares_20_st02_0 (k := 12) rfl
theorem dX5_measureShares_55 : decode cX5_measureShares 55 = .ok (.istore 4, 2) := dchk_at dall_X5_measureShares_20_st02_0 (k := 13) rfl
theorem dX5_measureShares_57 : decode cX5_measureShares 57 = .ok (.iinc 5 1, 3) := dchk_at dall_X5_measureShares_20_st02_0 (k := 14) rfl
theorem dX5_measureShares_60 : decode cX5_measureShares 60 = .ok (.goto (-37), 3) := dchk_at dall_X5_measureShares_20_st02_0 (k := 15) rfl
theorem dX5_measureShares_43 : decode cX5_measureShares 43 = .ok (.aload_n 0, 1) := dchk_at dall_X5_measureShares_20_st02_0 (k := 16) rfl
theorem dX5_measureShares_44 : decode cX5_measureShares 44 = .ok (.iload 5, 2) := dchk_at dall_X5_measureShares_20_st02_0 (k := 17) rfl
theorem dX5_measureShares_46 : decode cX5_measureShares 46 = .ok (.iload_n 3, 1) := dchk_at dall_X5_measureShares_20_st02_0 (k := 18) rfl
theorem dX5_measureShares_47 : decode cX5_measureShares 47 = .ok (.invokevirtual 72, 3) := dchk_at dall_X5_measureShares_20_st02_0 (k := 19) rfl
theorem dX5_measureShares_50 : decode cX5_measureShares 50 = .ok (.goto 4, 3) := dchk_at dall_X5_measureShares_20_st02_0 (k := 20) rfl
theorem dX5_measureShares_12 : decode cX5_measureShares 12 = .ok (.iload_n 3, 1) := dchk_at dall_X5_measureShares_20_st02_0 (k := 21) rfl
theorem dX5_measureShares_13 : decode cX5_measureShares 13 = .ok (.iconst 2, 1) := dchk_at dall_X5_measureShares_20_st02_0 (k := 22) rfl
theorem dX5_measureShares_14 : decode cX5_measureShares 14 = .ok (.if_icmp .ge 79, 3) := dchk_at dall_X5_measureShares_20_st02_0 (k := 23) rfl
theorem dX5_measureShares_17 : decode cX5_measureShares 17 = .ok (.iconst 0, 1) := dchk_at dall_X5_measureShares_20_st02_0 (k := 24) rfl
theorem dX5_measureShares_18 : decode cX5_measureShares 18 = .ok (.istore 4, 2) := dchk_at dall_X5_measureShares_20_st02_0 (k := 25) rfl
theorem dX5_measureShares_20 : decode cX5_measureShares 20 = .ok (.iconst 0, 1) := dchk_at dall_X5_measureShares_20_st02_0 (k := 26) rfl
theorem dX5_measureShares_21 : decode cX5_measureShares 21 = .ok (.istore 5, 2) := dchk_at dall_X5_measureShares_20_st02_0 (k := 27) rfl
theorem dX5_measureShares_63 : decode cX5_measureShares 63 = .ok (.aload_n 0, 1) := dchk_at dall_X5_measureShares_20_st02_0 (k := 28) rfl
theorem dX5_measureShares_64 : decode cX5_measureShares 64 = .ok (.getfield 25, 3) := dchk_at dall_X5_measureShares_20_st02_0 (k := 29) rfl
theorem dX5_measureShares_67 : decode cX5_measureShares 67 = .ok (.iload_n 3, 1) := dchk_at dall_X5_measureShares_20_st02_0 (k := 30) rfl
theorem dX5_measureShares_68 : decode cX5_measureShares 68 = .ok (.iload 4, 2) := dchk_at dall_X5_measureShares_20_st02_0 (k := 31) rfl
theorem dX5_measureShares_70 : decode cX5_measureShares 70 = .ok (.iload_n 2, 1) := dchk_at dall_X5_measureShares_20_st02_0 (k := 32) rfl
theorem dX5_measureShares_71 : decode cX5_measureShares 71 = .ok (.invokestatic 176, 3) := dchk_at dall_X5_measureShares_20_st02_0 (k := 33) rfl
theorem dX5_measureShares_74 : decode cX5_measureShares 74 = .ok (.iastore, 1) := dchk_at dall_X5_measureShares_20_st02_0 (k := 34) rfl
theorem dX5_measureShares_75 : decode cX5_measureShares 75 = .ok (.aload_n 0, 1) := dchk_at dall_X5_measureShares_20_st02_0 (k := 35) rfl
theorem dX5_measureShares_76 : decode cX5_measureShares 76 = .ok (.getfield 28, 3) := dchk_at dall_X5_measureShares_20_st02_0 (k := 36) rfl
theorem dX5_measureShares_79 : decode cX5_measureShares 79 = .ok (.iload_n 3, 1) := dchk_at dall_X5_measureShares_20_st02_0 (k := 37) rfl
theorem dX5_measureShares_80 : decode cX5_measureShares 80 = .ok (.iload 4, 2) := dchk_at dall_X5_measureShares_20_st02_0 (k := 38) rfl
theorem dX5_measureShares_82 : decode cX5_measureShares 82 = .ok (.iload_n 2, 1) := dchk_at dall_X5_measureShares_20_st02_0 (k := 39) rfl
theorem dX5_measureShares_83 : decode cX5_measureShares 83 = .ok (.invokestatic 179, 3) := dchk_at dall_X5_measureShares_20_st02_0 (k := 40) rfl
theorem dX5_measureShares_86 : decode cX5_measureShares 86 = .ok (.iastore, 1) := dchk_at dall_X5_measureShares_20_st02_0 (k := 41) rfl
theorem dX5_measureShares_87 : decode cX5_measureShares 87 = .ok (.iinc 3 1, 3) := dchk_at dall_X5_measureShares_20_st02_0 (k := 42) rfl
theorem dX5_measureShares_90 : decode cX5_measureShares 90 = .ok (.goto (-78), 3) := dchk_at dall_X5_measureShares_20_st02_0 (k := 43) rfl
theorem dX5_measureShares_0 : decode cX5_measureShares 0 = .ok (.iload_n 1, 1) := dchk_at dall_X5_measureShares_20_st02_0 (k := 44) rfl
theorem dX5_measureShares_1 : decode cX5_measureShares 1 = .ok (.invokestatic 171, 3) := dchk_at dall_X5_measureShares_20_st02_0 (k := 45) rfl
theorem dX5_measureShares_4 : decode cX5_measureShares 4 = .ok (.istore_n 2, 1) := dchk_at dall_X5_measureShares_20_st02_0 (k := 46) rfl
theorem dX5_measureShares_5 : decode cX5_measureShares 5 = .ok (.iload_n 2, 1) := dchk_at dall_X5_measureShares_20_st02_0 (k := 47) rfl
theorem dX5_measureShares_6 : decode cX5_measureShares 6 = .ok (.ifCond .ne 4, 3) := dchk_at dall_X5_measureShares_20_st02_0 (k := 48) rfl
theorem dX5_measureShares_10 : decode cX5_measureShares 10 = .ok (.iconst 0, 1) := dchk_at dall_X5_measureShares_20_st02_0 (k := 49) rfl
def dl_X5_measureShares_20_st02_1 : List (Nat × Instr × Nat) := [(11, .istore_n 3, 1), (93, .return_, 1), (9, .return_, 1)]
set_option maxRecDepth 100000 in
theorem dall_X5_measureShares_20_st02_1 : dchk cX5_measureShares dl_X5_measureShares_20_st02_1 = true := by decide +kernel
theorem dX5_measureShares_11 : decode cX5_measureShares 11 = .ok (.istore_n 3, 1) := dchk_at dall_X5_measureShares_20_st02_1 (k := 0) rfl
theorem dX5_measureShares_93 : decode cX5_measureShares 93 = .ok (.return_, 1) := dchk_at dall_X5_measureShares_20_st02_1 (k := 1) rfl
theorem dX5_measureShares_9 : decode cX5_measureShares 9 = .ok (.return_, 1) := dchk_at dall_X5_measureShares_20_st02_1 (k := 2) rfl
def dl_X5_isAbove_20_st02_0 : List (Nat × Instr × Nat) := [(0, .aload_n 0, 1), (1, .getfield 11, 3), (4, .bipush 6, 2), (6, .iaload, 1), (7, .ifCond .eq 7, 3), (14, .iconst 0, 1), (15, .ireturn, 1), (10, .iconst 1, 1), (11, .goto 4, 3)]
set_option maxRecDepth 100000 in
theorem dall_X5_isAbove_20_st02_0 : dchk cX5_isAbove dl_X5_isAbove_20_st02_0 = true := by decide +kernel
theorem dX5_isAbove_0 : decode cX5_isAbove 0 = .ok (.aload_n 0, 1) := dchk_at dall_X5_isAbove_20_st02_0 (k := 0) rfl
theorem dX5_isAbove_1 : decode cX5_isAbove 1 = .ok (.getfield 11, 3) := dchk_at dall_X5_isAbove_20_st02_0 (k := 1) rfl
theorem dX5_isAbove_4 : decode cX5_isAbove 4 = .ok (.bipush 6, 2) := dchk_at dall_X5_isAbove_20_st02_0 (k := 2) rfl
theorem dX5_isAbove_6 : decode cX5_isAbove 6 = .ok (.iaload, 1) := dchk_at dall_X5_isAbove_20_st02_0 (k := 3) rfl
theorem dX5_isAbove_7 : decode cX5_isAbove 7 = .ok (.ifCond .eq 7, 3) := dchk_at dall_X5_isAbove_20_st02_0 (k := 4) rfl
theorem dX5_isAbove_14 : decode cX5_isAbove 14 = .ok (.iconst 0, 1) := dchk_at dall_X5_isAbove_20_st02_0 (k := 5) rfl
theorem dX5_isAbove_15 : decode cX5_isAbove 15 = .ok (.ireturn, 1) := dchk_at dall_X5_isAbove_20_st02_0 (k := 6) rfl
theorem dX5_isAbove_10 : decode cX5_isAbove 10 = .ok (.iconst 1, 1) := dchk_at dall_X5_isAbove_20_st02_0 (k := 7) rfl
theorem dX5_isAbove_11 : decode cX5_isAbove 11 = .ok (.goto 4, 3) := dchk_at dall_X5_isAbove_20_st02_0 (k := 8) rfl
def dl_X5_isQuietDrift_20_st02_0 : List (Nat × Instr × Nat) := [(0, .aload_n 0, 1), (1, .invokevirtual 83, 3), (4, .ifCond .eq 17, 3), (21, .aload_n 0, 1), (22, .aload_n 0, 1), (23, .getfield 11, 3), (26, .iconst 4, 1), (27, .iaload, 1), (28, .aload_n 0, 1), (29, .getfield 11, 3), (32, .iconst 3, 1), (33, .iaload, 1), (34, .iload_n 1, 1), (35, .imul, 1), (36, .iadd, 1), (37, .i2l, 1), (38, .aload_n 0, 1), (39, .getfield 11, 3), (42, .iconst 5, 1), (43, .iaload, 1), (44, .aload_n 0, 1), (45, .getfield 11, 3), (48, .iconst 3, 1), (49, .iaload, 1), (50, .iload_n 2, 1), (51, .imul, 1), (52, .iadd, 1), (53, .i2l, 1), (54, .invokevirtual 75, 3), (57, .aload_n 0, 1), (58, .getfield 11, 3), (61, .iconst 1, 1), (62, .iaload, 1), (63, .i2l, 1), (64, .lcmp, 1), (65, .ifCond .ge 7, 3), (72, .iconst 0, 1), (73, .ireturn, 1), (68, .iconst 1, 1), (69, .goto 4, 3), (7, .iload_n 1, 1), (8, .ifCond .ne 11, 3), (19, .iconst 0, 1), (20, .ireturn, 1), (11, .iload_n 2, 1), (12, .ifCond .ne 7, 3), (15, .iconst 1, 1), (16, .goto 4, 3)]
set_option maxRecDepth 100000 in
theorem dall_X5_isQuietDrift_20_st02_0 : dchk cX5_isQuietDrift dl_X5_isQuietDrift_20_st02_0 = true := by decide +kernel
theorem dX5_isQuietDrift_0 : decode cX5_isQuietDrift 0 = .ok (.aload_n 0, 1) := dchk_at dall_X5_isQuietDrift_20_st02_0 (k := 0) rfl
theorem dX5_isQuietDrift_1 : decode cX5_isQuietDrift 1 = .ok (.invokevirtual 83, 3) := dchk_at dall_X5_isQuietDrift_20_st02_0 (k := 1) rfl
theorem dX5_isQuietDrift_4 : decode cX5_isQuietDrift 4 = .ok (.ifCond .eq 17, 3) := dchk_at dall_X5_isQuietDrift_20_st02_0 (k := 2) rfl
theorem dX5_isQuietDrift_21 : decode cX5_isQuietDrift 21 = .ok (.aload_n 0, 1) := dchk_at dall_X5_isQuietDrift_20_st02_0 (k := 3) rfl
theorem dX5_isQuietDrift_22 : decode cX5_isQuietDrift 22 = .ok (.aload_n 0, 1) := dchk_at dall_X5_isQuietDrift_20_st02_0 (k := 4) rfl
theorem dX5_isQuietDrift_23 : decode cX5_isQuietDrift 23 = .ok (.getfield 11, 3) := dchk_at dall_X5_isQuietDrift_20_st02_0 (k := 5) rfl
theorem dX5_isQuietDrift_26 : decode cX5_isQuietDrift 26 = .ok (.iconst 4, 1) := dchk_at dall_X5_isQuietDrift_20_st02_0 (k := 6) rfl
theorem dX5_isQuietDrift_27 : decode cX5_isQuietDrift 27 = .ok (.iaload, 1) := dchk_at dall_X5_isQuietDrift_20_st02_0 (k := 7) rfl
theorem dX5_isQuietDrift_28 : decode cX5_isQuietDrift 28 = .ok (.aload_n 0, 1) := dchk_at dall_X5_isQuietDrift_20_st02_0 (k := 8) rfl
theorem dX5_isQuietDrift_29 : decode cX5_isQuietDrift 29 = .ok (.getfield 11, 3) := dchk_at dall_X5_isQuietDrift_20_st02_0 (k := 9) rfl
theorem dX5_isQuietDrift_32 : decode cX5_isQuietDrift 32 = .ok (.iconst 3, 1) := dchk_at dall_X5_isQuietDrift_20_st02_0 (k := 10) rfl
theorem dX5_isQuietDrift_33 : decode cX5_isQuietDrift 33 = .ok (.iaload, 1) := dchk_at dall_X5_isQuietDrift_20_st02_0 (k := 11) rfl
theorem dX5_isQuietDrift_34 : decode cX5_isQuietDrift 34 = .ok (.iload_n 1, 1) := dchk_at dall_X5_isQuietDrift_20_st02_0 (k := 12) rfl
theorem dX5_isQuietDrift_35 : decode cX5_isQuietDrift 35 = .ok (.imul, 1) := dchk_at dall_X5_isQuietDrift_20_st02_0 (k := 13) rfl
theorem dX5_isQuietDrift_36 : decode cX5_isQuietDrift 36 = .ok (.iadd, 1) := dchk_at dall_X5_isQuietDrift_20_st02_0 (k := 14) rfl
theorem dX5_isQuietDrift_37 : decode cX5_isQuietDrift 37 = .ok (.i2l, 1) := dchk_at dall_X5_isQuietDrift_20_st02_0 (k := 15) rfl
theorem dX5_isQuietDrift_38 : decode cX5_isQuietDrift 38 = .ok (.aload_n 0, 1) := dchk_at dall_X5_isQuietDrift_20_st02_0 (k := 16) rfl
theorem dX5_isQuietDrift_39 : decode cX5_isQuietDrift 39 = .ok (.getfield 11, 3) := dchk_at dall_X5_isQuietDrift_20_st02_0 (k := 17) rfl
theorem dX5_isQuietDrift_42 : decode cX5_isQuietDrift 42 = .ok (.iconst 5, 1) := dchk_at dall_X5_isQuietDrift_20_st02_0 (k := 18) rfl
theorem dX5_isQuietDrift_43 : decode cX5_isQuietDrift 43 = .ok (.iaload, 1) := dchk_at dall_X5_isQuietDrift_20_st02_0 (k := 19) rfl
theorem dX5_isQuietDrift_44 : decode cX5_isQuietDrift 44 = .ok (.aload_n 0, 1) := dchk_at dall_X5_isQuietDrift_20_st02_0 (k := 20) rfl
theorem dX5_isQuietDrift_45 : decode cX5_isQuietDrift 45 = .ok (.getfield 11, 3) := dchk_at dall_X5_isQuietDrift_20_st02_0 (k := 21) rfl
theorem dX5_isQuietDrift_48 : decode cX5_isQuietDrift 48 = .ok (.iconst 3, 1) := dchk_at dall_X5_isQuietDrift_20_st02_0 (k := 22) rfl
theorem dX5_isQuietDrift_49 : decode cX5_isQuietDrift 49 = .ok (.iaload, 1) := dchk_at dall_X5_isQuietDrift_20_st02_0 (k := 23) rfl
theorem dX5_isQuietDrift_50 : decode cX5_isQuietDrift 50 = .ok (.iload_n 2, 1) := dchk_at dall_X5_isQuietDrift_20_st02_0 (k := 24) rfl
theorem dX5_isQuietDrift_51 : decode cX5_isQuietDrift 51 = .ok (.imul, 1) := dchk_at dall_X5_isQuietDrift_20_st02_0 (k := 25) rfl
theorem dX5_isQuietDrift_52 : decode cX5_isQuietDrift 52 = .ok (.iadd, 1) := dchk_at dall_X5_isQuietDrift_20_st02_0 (k := 26) rfl
theorem dX5_isQuietDrift_53 : decode cX5_isQuietDrift 53 = .ok (.i2l, 1) := dchk_at dall_X5_isQuietDrift_20_st02_0 (k := 27) rfl
theorem dX5_isQuietDrift_54 : decode cX5_isQuietDrift 54 = .ok (.invokevirtual 75, 3) := dchk_at dall_X5_isQuietDrift_20_st02_0 (k := 28) rfl
theorem dX5_isQuietDrift_57 : decode cX5_isQuietDrift 57 = .ok (.aload_n 0, 1) := dchk_at dall_X5_isQuietDrift_20_st02_0 (k := 29) rfl
theorem dX5_isQuietDrift_58 : decode cX5_isQuietDrift 58 = .ok (.getfield 11, 3) := dchk_at dall_X5_isQuietDrift_20_st02_0 (k := 30) rfl
theorem dX5_isQuietDrift_61 : decode cX5_isQuietDrift 61 = .ok (.iconst 1, 1) := dchk_at dall_X5_isQuietDrift_20_st02_0 (k := 31) rfl
theorem dX5_isQuietDrift_62 : decode cX5_isQuietDrift 62 = .ok (.iaload, 1) := dchk_at dall_X5_isQuietDrift_20_st02_0 (k := 32) rfl
theorem dX5_isQuietDrift_63 : decode cX5_isQuietDrift 63 = .ok (.i2l, 1) := dchk_at dall_X5_isQuietDrift_20_st02_0 (k := 33) rfl
theorem dX5_isQuietDrift_64 : decode cX5_isQuietDrift 64 = .ok (.lcmp, 1) := dchk_at dall_X5_isQuietDrift_20_st02_0 (k := 34) rfl
theorem dX5_isQuietDrift_65 : decode cX5_isQuietDrift 65 = .ok (.ifCond .ge 7, 3) := dchk_at dall_X5_isQuietDrift_20_st02_0 (k := 35) rfl
theorem dX5_isQuietDrift_72 : decode cX5_isQuietDrift 72 = .ok (.iconst 0, 1) := dchk_at dall_X5_isQuietDrift_20_st02_0 (k := 36) rfl
theorem dX5_isQuietDrift_73 : decode cX5_isQuietDrift 73 = .ok (.ireturn, 1) := dchk_at dall_X5_isQuietDrift_20_st02_0 (k := 37) rfl
theorem dX5_isQuietDrift_68 : decode cX5_isQuietDrift 68 = .ok (.iconst 1, 1) := dchk_at dall_X5_isQuietDrift_20_st02_0 (k := 38) rfl
theorem dX5_isQuietDrift_69 : decode cX5_isQuietDrift 69 = .ok (.goto 4, 3) := dchk_at dall_X5_isQuietDrift_20_st02_0 (k := 39) rfl
theorem dX5_isQuietDrift_7 : decode cX5_isQuietDrift 7 = .ok (.iload_n 1, 1) := dchk_at dall_X5_isQuietDrift_20_st02_0 (k := 40) rfl
theorem dX5_isQuietDrift_8 : decode cX5_isQuietDrift 8 = .ok (.ifCond .ne 11, 3) := dchk_at dall_X5_isQuietDrift_20_st02_0 (k := 41) rfl
theorem dX5_isQuietDrift_19 : decode cX5_isQuietDrift 19 = .ok (.iconst 0, 1) := dchk_at dall_X5_isQuietDrift_20_st02_0 (k := 42) rfl
theorem dX5_isQuietDrift_20 : decode cX5_isQuietDrift 20 = .ok (.ireturn, 1) := dchk_at dall_X5_isQuietDrift_20_st02_0 (k := 43) rfl
theorem dX5_isQuietDrift_11 : decode cX5_isQuietDrift 11 = .ok (.iload_n 2, 1) := dchk_at dall_X5_isQuietDrift_20_st02_0 (k := 44) rfl
theorem dX5_isQuietDrift_12 : decode cX5_isQuietDrift 12 = .ok (.ifCond .ne 7, 3) := dchk_at dall_X5_isQuietDrift_20_st02_0 (k := 45) rfl
theorem dX5_isQuietDrift_15 : decode cX5_isQuietDrift 15 = .ok (.iconst 1, 1) := dchk_at dall_X5_isQuietDrift_20_st02_0 (k := 46) rfl
theorem dX5_isQuietDrift_16 : decode cX5_isQuietDrift 16 = .ok (.goto 4, 3) := dchk_at dall_X5_isQuietDrift_20_st02_0 (k := 47) rfl
def B_X5_begin_2 (x2 : Int32) (c_row : Nat → Int32) : Option ((Int32 × (Nat → Int32)) ⊕ ((Nat → Int32))) :=
  if (81 : Int32) ≤ x2 then some (.inr c_row) else ixF x2 81 (nmF (upd c_row x2.toNatClampNeg (0 : Int32)) (fun f_3 => some (.inl (x2 + (1 : Int32), f_3))))
def B_X5_begin_74 (c_o1_places : Nat → Int32) (x2 : Int32) (c_row : Nat → Int32) : Option ((Int32 × (Nat → Int32)) ⊕ ((Nat → Int32))) :=
  bd1 (F_X5_sites c_row) (fun r_10 => if r_10 ≤ x2 then some (.inr c_row) else ixF ((2 : Int32) * x2) 16 (bd1 (F_X5_put x2 (0 : Int32) (c_o1_places ((2 : Int32) * x2).toNatClampNeg) c_row) (fun w_14 => ixF (((2 : Int32) * x2) + (1 : Int32)) 16 (bd1 (F_X5_put x2 (1 : Int32) (c_o1_places (((2 : Int32) * x2) + (1 : Int32)).toNatClampNeg) w_14) (fun w_17 => some (.inl (x2 + (1 : Int32), w_17)))))))
def F_X5_begin (K : Nat) (c_row : Nat → Int32) (c_o1_rules : Nat → Int32) (c_o1_places : Nat → Int32) (c_o1_siteCount : Int32) : Option ((Nat → Int32)) :=
  bd1 (lpF (fun u9 : Int32 × (Nat → Int32) => B_X5_begin_2  u9.1 u9.2) K ((0 : Int32), c_row)) (fun c_row_4 => nmF (upd c_row_4 0 (c_o1_rules 0)) (fun f_6 => nmF (upd f_6 1 (c_o1_rules 1)) (fun f_7 => nmF (upd f_7 2 (c_o1_rules 2)) (fun f_8 => nmF (upd f_8 3 (minF c_o1_siteCount (8 : Int32))) (fun f_9 => bd1 (lpF (fun u9 : Int32 × (Nat → Int32) => B_X5_begin_74 c_o1_places u9.1 u9.2) K ((0 : Int32), f_9)) (fun c_row_19 => bd1 (F_X5_hearPlaces K c_row_19) (fun w_21 => bd1 (F_X5_allows ((w_21 4).toInt64) ((w_21 5).toInt64) w_21) (fun r_23 => if r_23 = (0 : Int32) then nmF (upd w_21 6 (1 : Int32)) (fun f_27 => some f_27) else nmF (upd w_21 6 (0 : Int32)) (fun f_28 => some f_28)))))))))
abbrev w_X5_begin (E : EE) (a_ a_row a_partners a_share a_leftOver a_o1 a_o1_tape a_o1_rules a_o1_places a_o1_steps : Nat) (c_askedCount : Int32) (c_outcome : Int32) (c_row : Nat → Int32) (c_o1_siteCount : Int32) (c_o1_stepCount : Int32) (c_o1_seenRules : Int32) (c_o1_at : Int32) (c_o1_wordStart : Int32) (c_o1_number : Int32) (c_o1_failed : Int32) (c_o1_rules : Nat → Int32) (c_o1_places : Nat → Int32) : va_W := [(a_, .inr (6, [.ref a_row, .ref a_partners, .int c_askedCount, .int c_outcome, .ref a_share, .ref a_leftOver])), (a_row, .inl (E.2.1, 81, .inl c_row)), (a_o1, .inr (4, [.ref a_o1_tape, .ref a_o1_rules, .ref a_o1_places, .ref a_o1_steps, .int c_o1_siteCount, .int c_o1_stepCount, .int c_o1_seenRules, .int c_o1_at, .int c_o1_wordStart, .int c_o1_number, .int c_o1_failed])), (a_o1_rules, .inl (E.2.1, 3, .inl c_o1_rules)), (a_o1_places, .inl (E.2.1, 16, .inl c_o1_places))]
def v_f_X5_begin : List Cond := .code yX5_begin cX5_begin 3 none :: ([.fieldLink RX5 11 "HushWatch$State" "row" "[I", .methodLink RX5 39 Lib.Math.min.name, .static Lib.Math.min.name, .initialized "java/lang/Math", .code Lib.Math.min.name Lib.Math.min.code 2 (some .int), .methodLink RX5 45 yX5_sites, .instanceMethod yX5_sites, .selects RX5 yX5_sites yX5_sites, .initialized RX5, .methodLink RX5 52 yX5_put, .instanceMethod yX5_put, .selects RX5 yX5_put yX5_put, .methodLink RX5 56 yX5_hearPlaces, .instanceMethod yX5_hearPlaces, .selects RX5 yX5_hearPlaces yX5_hearPlaces, .methodLink RX5 59 yX5_allows, .instanceMethod yX5_allows, .selects RX5 yX5_allows yX5_allows] ++ (wsX50 ++ (wsX30 ++ (v_f_X5_sites ++ (v_f_X5_put ++ (v_f_X5_hearPlaces ++ (v_f_X5_allows ++ ([]))))))))
theorem gw_f_X5_begin : v_f_X5_begin.all goodWord = true := by decide +kernel
theorem i_f_X5_begin_X5 : ∀ w ∈ wsX50, w ∈ v_f_X5_begin := fun _ h => List.mem_cons_of_mem _ (List.mem_append_right _ (List.mem_append_left _ h))
theorem i_f_X5_begin_X3 : ∀ w ∈ wsX30, w ∈ v_f_X5_begin := fun _ h => List.mem_cons_of_mem _ (List.mem_append_right _ (List.mem_append_right _ (List.mem_append_left _ h)))
theorem g_f_X5_begin_f_X5_sites_45 : GoodIn v_f_X5_begin (wsV RX5 45 RX5 yX5_sites v_f_X5_sites) := goodIn_app (goodIn_of _ (by decide +kernel)) (goodIn_sub (fun _ h => List.mem_cons_of_mem _ (List.mem_append_right _ (List.mem_append_right _ (List.mem_append_right _ (List.mem_append_left _ h))))) gw_f_X5_sites)
theorem g_f_X5_begin_f_X5_put_52 : GoodIn v_f_X5_begin (wsV RX5 52 RX5 yX5_put v_f_X5_put) := goodIn_app (goodIn_of _ (by decide +kernel)) (goodIn_sub (fun _ h => List.mem_cons_of_mem _ (List.mem_append_right _ (List.mem_append_right _ (List.mem_append_right _ (List.mem_append_right _ (List.mem_append_left _ h)))))) gw_f_X5_put)
theorem g_f_X5_begin_f_X5_hearPlaces_56 : GoodIn v_f_X5_begin (wsV RX5 56 RX5 yX5_hearPlaces v_f_X5_hearPlaces) := goodIn_app (goodIn_of _ (by decide +kernel)) (goodIn_sub (fun _ h => List.mem_cons_of_mem _ (List.mem_append_right _ (List.mem_append_right _ (List.mem_append_right _ (List.mem_append_right _ (List.mem_append_right _ (List.mem_append_left _ h))))))) gw_f_X5_hearPlaces)
theorem g_f_X5_begin_f_X5_allows_59 : GoodIn v_f_X5_begin (wsV RX5 59 RX5 yX5_allows v_f_X5_allows) := goodIn_app (goodIn_of _ (by decide +kernel)) (goodIn_sub (fun _ h => List.mem_cons_of_mem _ (List.mem_append_right _ (List.mem_append_right _ (List.mem_append_right _ (List.mem_append_right _ (List.mem_append_right _ (List.mem_append_right _ (List.mem_append_left _ h)))))))) gw_f_X5_allows)
theorem hd_X5_begin : yX5_begin.cls = RX5 ∧ yX5_begin.cls ≠ "java/lang/invoke/MethodHandle" ∧ yX5_begin.cls ≠ "java/lang/invoke/VarHandle" ∧ (parseMethodDescriptor yX5_begin.desc).map (fun d => d.parameters.length) = some 1 := by decide +kernel
set_option maxHeartbeats 4000000 in
set_option maxRecDepth 100000 in
theorem wb_X5_begin_2 {p : Program} (l : Launch) {e : Env} {s : State} {m : MethodId} {below : List Frame} {meth : Method} {c : Code} {Q : State → Prop} (E : EE) (K : Nat) {a_ a_row a_partners a_share a_leftOver a_o1 a_o1_tape a_o1_rules a_o1_places a_o1_steps : Nat} {c_askedCount : Int32} {c_outcome : Int32} {c_o1_siteCount : Int32} {c_o1_stepCount : Int32} {c_o1_seenRules : Int32} {c_o1_at : Int32} {c_o1_wordStart : Int32} {c_o1_number : Int32} {c_o1_failed : Int32} {c_o1_rules : Nat → Int32} {c_o1_places : Nat → Int32} {x2 : Int32} {c_row : Nat → Int32} (hx : p.tables.exec = Jvm.exec) (hb : c.code = cX5_begin) (hml : c.maxLocals = 3) (hown : s.vm.findClass RX5 = some m.cls) (hts : ∀ w ∈ v_f_X5_begin, w.before #[Value.ref a_, Value.ref a_o1] s = true) (hK : va_K E.1 vwCl (TY E) s) (hN : NX s) {A : Nat → Prop} (hA : ∀ q : Nat, s.heap.size ≤ q → A q) {xx : (Int32 × (Nat → Int32)) ⊕ ((Nat → Int32))} (hC : ∀ (x2 : Int32), ∀ (c_row : Nat → Int32), xx = .inl (x2, c_row) → ∀ (H : Heap) (locs : List Loc) (ls : Array Slot), va_P E.1 vwCl (w_X5_begin E a_ a_row a_partners a_share a_leftOver a_o1 a_o1_tape a_o1_rules a_o1_places a_o1_steps c_askedCount c_outcome c_row c_o1_siteCount c_o1_stepCount c_o1_seenRules c_o1_at c_o1_wordStart c_o1_number c_o1_failed c_o1_rules c_o1_places) H → va_D A (w_X5_begin E a_ a_row a_partners a_share a_leftOver a_o1 a_o1_tape a_o1_rules a_o1_places a_o1_steps c_askedCount c_outcome c_row c_o1_siteCount c_o1_stepCount c_o1_seenRules c_o1_at c_o1_wordStart c_o1_number c_o1_failed c_o1_rules c_o1_places) → va_S A s.heap H locs → lv_has ls 3 [(0, .ref a_), (1, .ref a_o1), (2, .int x2)] → W p l e ({ frames := 2, cells := 0, slots := 0, locals := 52 } : Room) s m #[Value.ref a_, Value.ref a_o1] below meth c H locs 0 0 Q (F0 m 2 ls [])) (hE : ∀ (c_row : Nat → Int32), xx = .inr c_row → ((∀ (H : Heap) (locs : List Loc) (ls : Array Slot), va_P E.1 vwCl (w_X5_begin E a_ a_row a_partners a_share a_leftOver a_o1 a_o1_tape a_o1_rules a_o1_places a_o1_steps c_askedCount c_outcome c_row c_o1_siteCount c_o1_stepCount c_o1_seenRules c_o1_at c_o1_wordStart c_o1_number c_o1_failed c_o1_rules c_o1_places) H → va_D A (w_X5_begin E a_ a_row a_partners a_share a_leftOver a_o1 a_o1_tape a_o1_rules a_o1_places a_o1_steps c_askedCount c_outcome c_row c_o1_siteCount c_o1_stepCount c_o1_seenRules c_o1_at c_o1_wordStart c_o1_number c_o1_failed c_o1_rules c_o1_places) → va_S A s.heap H locs → lv_has ls 3 [(0, .ref a_), (1, .ref a_o1)] → W p l e ({ frames := 2, cells := 0, slots := 0, locals := 52 } : Room) s m #[Value.ref a_, Value.ref a_o1] below meth c H locs 0 0 Q (F0 m 21 ls [])))) (hF : B_X5_begin_2  x2 c_row = some xx) : ∀ (H : Heap) (locs : List Loc) (ls : Array Slot), va_P E.1 vwCl (w_X5_begin E a_ a_row a_partners a_share a_leftOver a_o1 a_o1_tape a_o1_rules a_o1_places a_o1_steps c_askedCount c_outcome c_row c_o1_siteCount c_o1_stepCount c_o1_seenRules c_o1_at c_o1_wordStart c_o1_number c_o1_failed c_o1_rules c_o1_places) H → va_D A (w_X5_begin E a_ a_row a_partners a_share a_leftOver a_o1 a_o1_tape a_o1_rules a_o1_places a_o1_steps c_askedCount c_outcome c_row c_o1_siteCount c_o1_stepCount c_o1_seenRules c_o1_at c_o1_wordStart c_o1_number c_o1_failed c_o1_rules c_o1_places) → va_S A s.heap H locs → lv_has ls 3 [(0, .ref a_), (1, .ref a_o1), (2, .int x2)] → W p l e ({ frames := 2, cells := 0, slots := 0, locals := 52 } : Room) s m #[Value.ref a_, Value.ref a_o1] below meth c H locs 0 0 Q (F0 m 2 ls []) := by
  unfold B_X5_begin_2 at hF
  intro H locs ls hP hD hS hl
  replace hP : va_P E.1 vwCl [(a_, .inr (6, [.ref a_row, .ref a_partners, .int c_askedCount, .int c_outcome, .ref a_share, .ref a_leftOver])), (a_row, .inl (E.2.1, 81, .inl c_row)), (a_o1, .inr (4, [.ref a_o1_tape, .ref a_o1_rules, .ref a_o1_places, .ref a_o1_steps, .int c_o1_siteCount, .int c_o1_stepCount, .int c_o1_seenRules, .int c_o1_at, .int c_o1_wordStart, .int c_o1_number, .int c_o1_failed])), (a_o1_rules, .inl (E.2.1, 3, .inl c_o1_rules)), (a_o1_places, .inl (E.2.1, 16, .inl c_o1_places))] H := hP
  replace hD : va_D A [(a_, .inr (6, [.ref a_row, .ref a_partners, .int c_askedCount, .int c_outcome, .ref a_share, .ref a_leftOver])), (a_row, .inl (E.2.1, 81, .inl c_row)), (a_o1, .inr (4, [.ref a_o1_tape, .ref a_o1_rules, .ref a_o1_places, .ref a_o1_steps, .int c_o1_siteCount, .int c_o1_stepCount, .int c_o1_seenRules, .int c_o1_at, .int c_o1_wordStart, .int c_o1_number, .int c_o1_failed])), (a_o1_rules, .inl (E.2.1, 3, .inl c_o1_rules)), (a_o1_places, .inl (E.2.1, 16, .inl c_o1_places))] := hD
  refine lv_iload_n hx hb dX5_begin_2 rfl (lv_at hl 2 rfl) ?_
  refine lv_bipush (v := 81) hx hb dX5_begin_3 (by decide) ?_
  refine lv_icmp_ge (tgt := 21) hx hb dX5_begin_5 (by decide) (fun c_1 => ?_) (fun c_1 => ?_)
  ·
    replace hF := ip c_1 hF
    cases hF
    exact hE c_row rfl H locs ls (hP.sub [0, 1, 2, 3, 4] rfl) (hD.sub [0, 1, 2, 3, 4] (by decide) rfl) hS (lv_sub hl [0, 1] rfl)
  ·
    replace hF := inn c_1 hF
    refine lv_aload_n hx hb dX5_begin_8 rfl (lv_at hl 0 rfl) ?_
    refine gt_X5_0 (v := .ref a_row) hx hb hts i_f_X5_begin_X5 hown hK hP 0 rfl (hts (.fieldLink RX5 11 "HushWatch$State" "row" "[I") (List.mem_of_getElem? (i := 1) rfl)) rfl dX5_begin_9 ?_
    refine lv_iload_n hx hb dX5_begin_12 rfl (lv_at hl 2 rfl) ?_
    refine lv_iconst (v := 0) hx hb dX5_begin_13 (by decide) ?_
    replace hF := ix_s hF
    obtain ⟨hi_2, hF⟩ := hF
    refine va_iast hx hb hK hP hD hS 1 0 rfl rfl hi_2 dX5_begin_14 (fun H locs hP hD hS => ?_)
    replace hP : va_P E.1 vwCl [(a_, .inr (6, [.ref a_row, .ref a_partners, .int c_askedCount, .int c_outcome, .ref a_share, .ref a_leftOver])), (a_row, .inl (E.2.1, 81, .inl (upd c_row x2.toNatClampNeg (0 : Int32)))), (a_o1, .inr (4, [.ref a_o1_tape, .ref a_o1_rules, .ref a_o1_places, .ref a_o1_steps, .int c_o1_siteCount, .int c_o1_stepCount, .int c_o1_seenRules, .int c_o1_at, .int c_o1_wordStart, .int c_o1_number, .int c_o1_failed])), (a_o1_rules, .inl (E.2.1, 3, .inl c_o1_rules)), (a_o1_places, .inl (E.2.1, 16, .inl c_o1_places))] H := hP
    replace hD : va_D A [(a_, .inr (6, [.ref a_row, .ref a_partners, .int c_askedCount, .int c_outcome, .ref a_share, .ref a_leftOver])), (a_row, .inl (E.2.1, 81, .inl (upd c_row x2.toNatClampNeg (0 : Int32)))), (a_o1, .inr (4, [.ref a_o1_tape, .ref a_o1_rules, .ref a_o1_places, .ref a_o1_steps, .int c_o1_siteCount, .int c_o1_stepCount, .int c_o1_seenRules, .int c_o1_at, .int c_o1_wordStart, .int c_o1_number, .int c_o1_failed])), (a_o1_rules, .inl (E.2.1, 3, .inl c_o1_rules)), (a_o1_places, .inl (E.2.1, 16, .inl c_o1_places))] := hD
    replace hF := nm_s hF
    obtain ⟨f_3, hf_3, hF⟩ := hF
    rw [← hf_3] at hP hD
    refine lv_iinc (v := x2 + (1 : Int32)) (lv' := [(2, .int (x2 + (1 : Int32))), (0, .ref a_), (1, .ref a_o1)]) hx hb dX5_begin_15 hl (k := 2) rfl (rfl) (by decide) rfl (fun ls hl => ?_)
    refine lv_goto (tgt := 2) hx hb dX5_begin_18 (by decide) ?_
    cases hF
    exact hC (x2 + (1 : Int32)) f_3 rfl H locs ls (hP.sub [0, 1, 2, 3, 4] rfl) (hD.sub [0, 1, 2, 3, 4] (by decide) rfl) hS (lv_sub hl [1, 2, 0] rfl)

set_option maxHeartbeats 4000000 in
set_option maxRecDepth 100000 in
theorem lw_X5_begin_2 {p : Program} (l : Launch) {e : Env} {s : State} {m : MethodId} {below : List Frame} {meth : Method} {c : Code} {Q : State → Prop} (E : EE) (K : Nat) {a_ a_row a_partners a_share a_leftOver a_o1 a_o1_tape a_o1_rules a_o1_places a_o1_steps : Nat} {c_askedCount : Int32} {c_outcome : Int32} {c_o1_siteCount : Int32} {c_o1_stepCount : Int32} {c_o1_seenRules : Int32} {c_o1_at : Int32} {c_o1_wordStart : Int32} {c_o1_number : Int32} {c_o1_failed : Int32} {c_o1_rules : Nat → Int32} {c_o1_places : Nat → Int32} (hx : p.tables.exec = Jvm.exec) (hb : c.code = cX5_begin) (hml : c.maxLocals = 3) (hown : s.vm.findClass RX5 = some m.cls) (hts : ∀ w ∈ v_f_X5_begin, w.before #[Value.ref a_, Value.ref a_o1] s = true) (hK : va_K E.1 vwCl (TY E) s) (hN : NX s) {A : Nat → Prop} (hA : ∀ q : Nat, s.heap.size ≤ q → A q) (j9 : Nat) (x2 : Int32) (c_row : Nat → Int32) (c_row' : Nat → Int32) (hL : lpF (fun u9 : Int32 × (Nat → Int32) => B_X5_begin_2  u9.1 u9.2) j9 (x2, c_row) = some c_row') (hX : (∀ (H : Heap) (locs : List Loc) (ls : Array Slot), va_P E.1 vwCl (w_X5_begin E a_ a_row a_partners a_share a_leftOver a_o1 a_o1_tape a_o1_rules a_o1_places a_o1_steps c_askedCount c_outcome c_row' c_o1_siteCount c_o1_stepCount c_o1_seenRules c_o1_at c_o1_wordStart c_o1_number c_o1_failed c_o1_rules c_o1_places) H → va_D A (w_X5_begin E a_ a_row a_partners a_share a_leftOver a_o1 a_o1_tape a_o1_rules a_o1_places a_o1_steps c_askedCount c_outcome c_row' c_o1_siteCount c_o1_stepCount c_o1_seenRules c_o1_at c_o1_wordStart c_o1_number c_o1_failed c_o1_rules c_o1_places) → va_S A s.heap H locs → lv_has ls 3 [(0, .ref a_), (1, .ref a_o1)] → W p l e ({ frames := 2, cells := 0, slots := 0, locals := 52 } : Room) s m #[Value.ref a_, Value.ref a_o1] below meth c H locs 0 0 Q (F0 m 21 ls []))) : ∀ (H : Heap) (locs : List Loc) (ls : Array Slot), va_P E.1 vwCl (w_X5_begin E a_ a_row a_partners a_share a_leftOver a_o1 a_o1_tape a_o1_rules a_o1_places a_o1_steps c_askedCount c_outcome c_row c_o1_siteCount c_o1_stepCount c_o1_seenRules c_o1_at c_o1_wordStart c_o1_number c_o1_failed c_o1_rules c_o1_places) H → va_D A (w_X5_begin E a_ a_row a_partners a_share a_leftOver a_o1 a_o1_tape a_o1_rules a_o1_places a_o1_steps c_askedCount c_outcome c_row c_o1_siteCount c_o1_stepCount c_o1_seenRules c_o1_at c_o1_wordStart c_o1_number c_o1_failed c_o1_rules c_o1_places) → va_S A s.heap H locs → lv_has ls 3 [(0, .ref a_), (1, .ref a_o1), (2, .int x2)] → W p l e ({ frames := 2, cells := 0, slots := 0, locals := 52 } : Room) s m #[Value.ref a_, Value.ref a_o1] below meth c H locs 0 0 Q (F0 m 2 ls []) := by
  exact lp_rule (P := (fun u9 : Int32 × (Nat → Int32) => ∀ (H : Heap) (locs : List Loc) (ls : Array Slot), va_P E.1 vwCl (w_X5_begin E a_ a_row a_partners a_share a_leftOver a_o1 a_o1_tape a_o1_rules a_o1_places a_o1_steps c_askedCount c_outcome u9.2 c_o1_siteCount c_o1_stepCount c_o1_seenRules c_o1_at c_o1_wordStart c_o1_number c_o1_failed c_o1_rules c_o1_places) H → va_D A (w_X5_begin E a_ a_row a_partners a_share a_leftOver a_o1 a_o1_tape a_o1_rules a_o1_places a_o1_steps c_askedCount c_outcome u9.2 c_o1_siteCount c_o1_stepCount c_o1_seenRules c_o1_at c_o1_wordStart c_o1_number c_o1_failed c_o1_rules c_o1_places) → va_S A s.heap H locs → lv_has ls 3 [(0, .ref a_), (1, .ref a_o1), (2, .int u9.1)] → W p l e ({ frames := 2, cells := 0, slots := 0, locals := 52 } : Room) s m #[Value.ref a_, Value.ref a_o1] below meth c H locs 0 0 Q (F0 m 2 ls []))) (R := (fun r9 : (Nat → Int32) => (∀ (H : Heap) (locs : List Loc) (ls : Array Slot), va_P E.1 vwCl (w_X5_begin E a_ a_row a_partners a_share a_leftOver a_o1 a_o1_tape a_o1_rules a_o1_places a_o1_steps c_askedCount c_outcome r9 c_o1_siteCount c_o1_stepCount c_o1_seenRules c_o1_at c_o1_wordStart c_o1_number c_o1_failed c_o1_rules c_o1_places) H → va_D A (w_X5_begin E a_ a_row a_partners a_share a_leftOver a_o1 a_o1_tape a_o1_rules a_o1_places a_o1_steps c_askedCount c_outcome r9 c_o1_siteCount c_o1_stepCount c_o1_seenRules c_o1_at c_o1_wordStart c_o1_number c_o1_failed c_o1_rules c_o1_places) → va_S A s.heap H locs → lv_has ls 3 [(0, .ref a_), (1, .ref a_o1)] → W p l e ({ frames := 2, cells := 0, slots := 0, locals := 52 } : Room) s m #[Value.ref a_, Value.ref a_o1] below meth c H locs 0 0 Q (F0 m 21 ls [])))) (fun u9 xx hF hC hE => wb_X5_begin_2 l E K (c_askedCount := c_askedCount) (c_outcome := c_outcome) (c_o1_siteCount := c_o1_siteCount) (c_o1_stepCount := c_o1_stepCount) (c_o1_seenRules := c_o1_seenRules) (c_o1_at := c_o1_at) (c_o1_wordStart := c_o1_wordStart) (c_o1_number := c_o1_number) (c_o1_failed := c_o1_failed) (c_o1_rules := c_o1_rules) (c_o1_places := c_o1_places) (x2 := u9.1) (c_row := u9.2) hx hb hml hown hts hK hN hA (fun x2 c_row q9 => hC _ q9) (fun c_row q9 => hE _ q9) hF) j9 (x2, c_row) c_row' hL hX

set_option maxHeartbeats 4000000 in
set_option maxRecDepth 100000 in
theorem wb_X5_begin_74 {p : Program} (l : Launch) {e : Env} {s : State} {m : MethodId} {below : List Frame} {meth : Method} {c : Code} {Q : State → Prop} (E : EE) (K : Nat) {a_ a_row a_partners a_share a_leftOver a_o1 a_o1_tape a_o1_rules a_o1_places a_o1_steps : Nat} {c_askedCount : Int32} {c_outcome : Int32} {c_o1_siteCount : Int32} {c_o1_stepCount : Int32} {c_o1_seenRules : Int32} {c_o1_at : Int32} {c_o1_wordStart : Int32} {c_o1_number : Int32} {c_o1_failed : Int32} {c_o1_rules : Nat → Int32} {c_o1_places : Nat → Int32} {x2 : Int32} {c_row : Nat → Int32} (hx : p.tables.exec = Jvm.exec) (hb : c.code = cX5_begin) (hml : c.maxLocals = 3) (hown : s.vm.findClass RX5 = some m.cls) (hts : ∀ w ∈ v_f_X5_begin, w.before #[Value.ref a_, Value.ref a_o1] s = true) (hK : va_K E.1 vwCl (TY E) s) (hN : NX s) {A : Nat → Prop} (hA : ∀ q : Nat, s.heap.size ≤ q → A q) {xx : (Int32 × (Nat → Int32)) ⊕ ((Nat → Int32))} (hC : ∀ (x2 : Int32), ∀ (c_row : Nat → Int32), xx = .inl (x2, c_row) → ∀ (H : Heap) (locs : List Loc) (ls : Array Slot), va_P E.1 vwCl (w_X5_begin E a_ a_row a_partners a_share a_leftOver a_o1 a_o1_tape a_o1_rules a_o1_places a_o1_steps c_askedCount c_outcome c_row c_o1_siteCount c_o1_stepCount c_o1_seenRules c_o1_at c_o1_wordStart c_o1_number c_o1_failed c_o1_rules c_o1_places) H → va_D A (w_X5_begin E a_ a_row a_partners a_share a_leftOver a_o1 a_o1_tape a_o1_rules a_o1_places a_o1_steps c_askedCount c_outcome c_row c_o1_siteCount c_o1_stepCount c_o1_seenRules c_o1_at c_o1_wordStart c_o1_number c_o1_failed c_o1_rules c_o1_places) → va_S A s.heap H locs → lv_has ls 3 [(0, .ref a_), (1, .ref a_o1), (2, .int x2)] → W p l e ({ frames := 2, cells := 0, slots := 0, locals := 52 } : Room) s m #[Value.ref a_, Value.ref a_o1] below meth c H locs 0 0 Q (F0 m 74 ls [])) (hE : ∀ (c_row : Nat → Int32), xx = .inr c_row → ((∀ (H : Heap) (locs : List Loc) (ls : Array Slot), va_P E.1 vwCl (w_X5_begin E a_ a_row a_partners a_share a_leftOver a_o1 a_o1_tape a_o1_rules a_o1_places a_o1_steps c_askedCount c_outcome c_row c_o1_siteCount c_o1_stepCount c_o1_seenRules c_o1_at c_o1_wordStart c_o1_number c_o1_failed c_o1_rules c_o1_places) H → va_D A (w_X5_begin E a_ a_row a_partners a_share a_leftOver a_o1 a_o1_tape a_o1_rules a_o1_places a_o1_steps c_askedCount c_outcome c_row c_o1_siteCount c_o1_stepCount c_o1_seenRules c_o1_at c_o1_wordStart c_o1_number c_o1_failed c_o1_rules c_o1_places) → va_S A s.heap H locs → lv_has ls 3 [(0, .ref a_)] → W p l e ({ frames := 2, cells := 0, slots := 0, locals := 52 } : Room) s m #[Value.ref a_, Value.ref a_o1] below meth c H locs 0 0 Q (F0 m 118 ls [])))) (hF : B_X5_begin_74 c_o1_places x2 c_row = some xx) : ∀ (H : Heap) (locs : List Loc) (ls : Array Slot), va_P E.1 vwCl (w_X5_begin E a_ a_row a_partners a_share a_leftOver a_o1 a_o1_tape a_o1_rules a_o1_places a_o1_steps c_askedCount c_outcome c_row c_o1_siteCount c_o1_stepCount c_o1_seenRules c_o1_at c_o1_wordStart c_o1_number c_o1_failed c_o1_rules c_o1_places) H → va_D A (w_X5_begin E a_ a_row a_partners a_share a_leftOver a_o1 a_o1_tape a_o1_rules a_o1_places a_o1_steps c_askedCount c_outcome c_row c_o1_siteCount c_o1_stepCount c_o1_seenRules c_o1_at c_o1_wordStart c_o1_number c_o1_failed c_o1_rules c_o1_places) → va_S A s.heap H locs → lv_has ls 3 [(0, .ref a_), (1, .ref a_o1), (2, .int x2)] → W p l e ({ frames := 2, cells := 0, slots := 0, locals := 52 } : Room) s m #[Value.ref a_, Value.ref a_o1] below meth c H locs 0 0 Q (F0 m 74 ls []) := by
  unfold B_X5_begin_74 at hF
  intro H locs ls hP hD hS hl
  replace hP : va_P E.1 vwCl [(a_, .inr (6, [.ref a_row, .ref a_partners, .int c_askedCount, .int c_outcome, .ref a_share, .ref a_leftOver])), (a_row, .inl (E.2.1, 81, .inl c_row)), (a_o1, .inr (4, [.ref a_o1_tape, .ref a_o1_rules, .ref a_o1_places, .ref a_o1_steps, .int c_o1_siteCount, .int c_o1_stepCount, .int c_o1_seenRules, .int c_o1_at, .int c_o1_wordStart, .int c_o1_number, .int c_o1_failed])), (a_o1_rules, .inl (E.2.1, 3, .inl c_o1_rules)), (a_o1_places, .inl (E.2.1, 16, .inl c_o1_places))] H := hP
  replace hD : va_D A [(a_, .inr (6, [.ref a_row, .ref a_partners, .int c_askedCount, .int c_outcome, .ref a_share, .ref a_leftOver])), (a_row, .inl (E.2.1, 81, .inl c_row)), (a_o1, .inr (4, [.ref a_o1_tape, .ref a_o1_rules, .ref a_o1_places, .ref a_o1_steps, .int c_o1_siteCount, .int c_o1_stepCount, .int c_o1_seenRules, .int c_o1_at, .int c_o1_wordStart, .int c_o1_number, .int c_o1_failed])), (a_o1_rules, .inl (E.2.1, 3, .inl c_o1_rules)), (a_o1_places, .inl (E.2.1, 16, .inl c_o1_places))] := hD
  refine lv_iload_n hx hb dX5_begin_74 rfl (lv_at hl 2 rfl) ?_
  refine lv_aload_n hx hb dX5_begin_75 rfl (lv_at hl 0 rfl) ?_
  replace hF := bd1_s hF
  obtain ⟨r_10, hc_11, hF⟩ := hF
  have hPc : va_P E.1 vwCl (w_X5_sites E a_ a_row a_partners a_share a_leftOver c_askedCount c_outcome c_row) H := hP.sub (ws' := [(a_, .inr (6, [.ref a_row, .ref a_partners, .int c_askedCount, .int c_outcome, .ref a_share, .ref a_leftOver])), (a_row, .inl (E.2.1, 81, .inl c_row))]) [0, 1] rfl
  have hrc := va_recv hK hPc (ci := 6) (q0 := 0) rfl rfl
  refine pE_i (va_runV (As := []) (rest := [.int x2])  ⟨hx, hb, hml, hown, hts⟩ (f_X5_sites l E (a_ := a_) (a_row := a_row) (a_partners := a_partners) (a_share := a_share) (a_leftOver := a_leftOver) (c_askedCount := c_askedCount) (c_outcome := c_outcome) (c_row := c_row) hc_11) (cwV 0 hts g_f_X5_begin_f_X5_sites_45 rfl rfl rfl hd_X5_sites ⟨Nat.le_of_ble_eq_true rfl, Nat.le_of_ble_eq_true rfl⟩) ⟨pP.blind, hrc, (pP.pre ⟨hK, hN⟩ hPc)⟩ rfl rfl hl.1 rfl (lv_room (Nat.le_of_ble_eq_true rfl)) dX5_begin_76 ⟨Nat.le_of_ble_eq_true rfl, Nat.le_of_ble_eq_true rfl⟩) ?_
  refine lv_icmp_ge (tgt := 118) hx hb dX5_begin_79 (by decide) (fun c_12 => ?_) (fun c_12 => ?_)
  ·
    replace hF := ip c_12 hF
    cases hF
    exact hE c_row rfl H locs ls (hP.sub [0, 1, 2, 3, 4] rfl) (hD.sub [0, 1, 2, 3, 4] (by decide) rfl) hS (lv_sub hl [0] rfl)
  ·
    replace hF := inn c_12 hF
    refine lv_aload_n hx hb dX5_begin_82 rfl (lv_at hl 0 rfl) ?_
    refine lv_iload_n hx hb dX5_begin_83 rfl (lv_at hl 2 rfl) ?_
    refine lv_iconst (v := 0) hx hb dX5_begin_84 (by decide) ?_
    refine lv_aload_n hx hb dX5_begin_85 rfl (lv_at hl 1 rfl) ?_
    refine va_getN (D := E.1) (ci := 4) (v := .ref a_o1_places) (C := RX3) (T := TX3) (N := 11) hx hb hts i_f_X5_begin_X3 hown hK hP 2 rfl rfl 2 (by decide) (nx hN 4 rfl) (fun _ h9 => h9) rfl dX5_begin_86 ?_
    refine lv_iconst (v := 2) hx hb dX5_begin_89 (by decide) ?_
    refine lv_iload_n hx hb dX5_begin_90 rfl (lv_at hl 2 rfl) ?_
    refine lv_imul hx hb dX5_begin_91 ?_
    replace hF := ix_s hF
    obtain ⟨hi_13, hF⟩ := hF
    refine va_iald hx hb hK hP 4 0 rfl rfl hi_13 dX5_begin_92 ?_
    replace hF := bd1_s hF
    obtain ⟨w_14, hc_15, hF⟩ := hF
    obtain ⟨hPc, hDc, hFc⟩ := wcut (wc := (w_X5_put E a_ a_row a_partners a_share a_leftOver c_askedCount c_outcome c_row)) hP hD hS hA [0, 1] (by decide) rfl
    have hrc := va_recv hK hPc (ci := 6) (q0 := 0) rfl rfl
    refine cE_v (wc := (w_X5_put E a_ a_row a_partners a_share a_leftOver c_askedCount c_outcome c_row)) (wr := [(a_o1, .inr (4, [.ref a_o1_tape, .ref a_o1_rules, .ref a_o1_places, .ref a_o1_steps, .int c_o1_siteCount, .int c_o1_stepCount, .int c_o1_seenRules, .int c_o1_at, .int c_o1_wordStart, .int c_o1_number, .int c_o1_failed])), (a_o1_rules, .inl (E.2.1, 3, .inl c_o1_rules)), (a_o1_places, .inl (E.2.1, 16, .inl c_o1_places))]) (w1 := (w_X5_put E a_ a_row a_partners a_share a_leftOver c_askedCount c_outcome w_14)) (va_runV (As := [.int x2, .int (0 : Int32), .int (c_o1_places ((2 : Int32) * x2).toNatClampNeg)]) (rest := [])  ⟨hx, hb, hml, hown, hts⟩ (f_X5_put l E H.size (a_ := a_) (a_row := a_row) (a_partners := a_partners) (a_share := a_share) (a_leftOver := a_leftOver) (p1 := x2) (p2 := (0 : Int32)) (p3 := c_o1_places ((2 : Int32) * x2).toNatClampNeg) (c_askedCount := c_askedCount) (c_outcome := c_outcome) (c_row := c_row) hc_15) (cwV 3 hts g_f_X5_begin_f_X5_put_52 rfl rfl rfl hd_X5_put ⟨Nat.le_of_ble_eq_true rfl, Nat.le_of_ble_eq_true rfl⟩) ⟨pW.blind, hrc, (pW.pre ⟨hK, hN⟩ hPc hDc)⟩ rfl rfl hl.1 rfl (lv_room (Nat.le_of_ble_eq_true rfl)) dX5_begin_93 ⟨Nat.le_of_ble_eq_true rfl, Nat.le_of_ble_eq_true rfl⟩) hS hFc hP hD [0, 1] [2, 3, 4] rfl rfl (by decide) (by decide) (fun H locs hP hD hS => ?_)
    replace hP : va_P E.1 vwCl [(a_o1, .inr (4, [.ref a_o1_tape, .ref a_o1_rules, .ref a_o1_places, .ref a_o1_steps, .int c_o1_siteCount, .int c_o1_stepCount, .int c_o1_seenRules, .int c_o1_at, .int c_o1_wordStart, .int c_o1_number, .int c_o1_failed])), (a_o1_rules, .inl (E.2.1, 3, .inl c_o1_rules)), (a_o1_places, .inl (E.2.1, 16, .inl c_o1_places)), (a_, .inr (6, [.ref a_row, .ref a_partners, .int c_askedCount, .int c_outcome, .ref a_share, .ref a_leftOver])), (a_row, .inl (E.2.1, 81, .inl w_14))] H := hP
    replace hD : va_D A [(a_o1, .inr (4, [.ref a_o1_tape, .ref a_o1_rules, .ref a_o1_places, .ref a_o1_steps, .int c_o1_siteCount, .int c_o1_stepCount, .int c_o1_seenRules, .int c_o1_at, .int c_o1_wordStart, .int c_o1_number, .int c_o1_failed])), (a_o1_rules, .inl (E.2.1, 3, .inl c_o1_rules)), (a_o1_places, .inl (E.2.1, 16, .inl c_o1_places)), (a_, .inr (6, [.ref a_row, .ref a_partners, .int c_askedCount, .int c_outcome, .ref a_share, .ref a_leftOver])), (a_row, .inl (E.2.1, 81, .inl w_14))] := hD
    refine lv_aload_n hx hb dX5_begin_96 rfl (lv_at hl 0 rfl) ?_
    refine lv_iload_n hx hb dX5_begin_97 rfl (lv_at hl 2 rfl) ?_
    refine lv_iconst (v := 1) hx hb dX5_begin_98 (by decide) ?_
    refine lv_aload_n hx hb dX5_begin_99 rfl (lv_at hl 1 rfl) ?_
    refine va_getN (D := E.1) (ci := 4) (v := .ref a_o1_places) (C := RX3) (T := TX3) (N := 11) hx hb hts i_f_X5_begin_X3 hown hK hP 0 rfl rfl 2 (by decide) (nx hN 4 rfl) (fun _ h9 => h9) rfl dX5_begin_100 ?_
    refine lv_iconst (v := 2) hx hb dX5_begin_103 (by decide) ?_
    refine lv_iload_n hx hb dX5_begin_104 rfl (lv_at hl 2 rfl) ?_
    refine lv_imul hx hb dX5_begin_105 ?_
    refine lv_iconst (v := 1) hx hb dX5_begin_106 (by decide) ?_
    refine lv_iadd hx hb dX5_begin_107 ?_
    replace hF := ix_s hF
    obtain ⟨hi_16, hF⟩ := hF
    refine va_iald hx hb hK hP 2 0 rfl rfl hi_16 dX5_begin_108 ?_
    replace hF := bd1_s hF
    obtain ⟨w_17, hc_18, hF⟩ := hF
    obtain ⟨hPc, hDc, hFc⟩ := wcut (wc := (w_X5_put E a_ a_row a_partners a_share a_leftOver c_askedCount c_outcome w_14)) hP hD hS hA [3, 4] (by decide) rfl
    have hrc := va_recv hK hPc (ci := 6) (q0 := 0) rfl rfl
    refine cE_v (wc := (w_X5_put E a_ a_row a_partners a_share a_leftOver c_askedCount c_outcome w_14)) (wr := [(a_o1, .inr (4, [.ref a_o1_tape, .ref a_o1_rules, .ref a_o1_places, .ref a_o1_steps, .int c_o1_siteCount, .int c_o1_stepCount, .int c_o1_seenRules, .int c_o1_at, .int c_o1_wordStart, .int c_o1_number, .int c_o1_failed])), (a_o1_rules, .inl (E.2.1, 3, .inl c_o1_rules)), (a_o1_places, .inl (E.2.1, 16, .inl c_o1_places))]) (w1 := (w_X5_put E a_ a_row a_partners a_share a_leftOver c_askedCount c_outcome w_17)) (va_runV (As := [.int x2, .int (1 : Int32), .int (c_o1_places (((2 : Int32) * x2) + (1 : Int32)).toNatClampNeg)]) (rest := [])  ⟨hx, hb, hml, hown, hts⟩ (f_X5_put l E H.size (a_ := a_) (a_row := a_row) (a_partners := a_partners) (a_share := a_share) (a_leftOver := a_leftOver) (p1 := x2) (p2 := (1 : Int32)) (p3 := c_o1_places (((2 : Int32) * x2) + (1 : Int32)).toNatClampNeg) (c_askedCount := c_askedCount) (c_outcome := c_outcome) (c_row := w_14) hc_18) (cwV 3 hts g_f_X5_begin_f_X5_put_52 rfl rfl rfl hd_X5_put ⟨Nat.le_of_ble_eq_true rfl, Nat.le_of_ble_eq_true rfl⟩) ⟨pW.blind, hrc, (pW.pre ⟨hK, hN⟩ hPc hDc)⟩ rfl rfl hl.1 rfl (lv_room (Nat.le_of_ble_eq_true rfl)) dX5_begin_109 ⟨Nat.le_of_ble_eq_true rfl, Nat.le_of_ble_eq_true rfl⟩) hS hFc hP hD [3, 4] [0, 1, 2] rfl rfl (by decide) (by decide) (fun H locs hP hD hS => ?_)
    replace hP : va_P E.1 vwCl [(a_o1, .inr (4, [.ref a_o1_tape, .ref a_o1_rules, .ref a_o1_places, .ref a_o1_steps, .int c_o1_siteCount, .int c_o1_stepCount, .int c_o1_seenRules, .int c_o1_at, .int c_o1_wordStart, .int c_o1_number, .int c_o1_failed])), (a_o1_rules, .inl (E.2.1, 3, .inl c_o1_rules)), (a_o1_places, .inl (E.2.1, 16, .inl c_o1_places)), (a_, .inr (6, [.ref a_row, .ref a_partners, .int c_askedCount, .int c_outcome, .ref a_share, .ref a_leftOver])), (a_row, .inl (E.2.1, 81, .inl w_17))] H := hP
    replace hD : va_D A [(a_o1, .inr (4, [.ref a_o1_tape, .ref a_o1_rules, .ref a_o1_places, .ref a_o1_steps, .int c_o1_siteCount, .int c_o1_stepCount, .int c_o1_seenRules, .int c_o1_at, .int c_o1_wordStart, .int c_o1_number, .int c_o1_failed])), (a_o1_rules, .inl (E.2.1, 3, .inl c_o1_rules)), (a_o1_places, .inl (E.2.1, 16, .inl c_o1_places)), (a_, .inr (6, [.ref a_row, .ref a_partners, .int c_askedCount, .int c_outcome, .ref a_share, .ref a_leftOver])), (a_row, .inl (E.2.1, 81, .inl w_17))] := hD
    refine lv_iinc (v := x2 + (1 : Int32)) (lv' := [(2, .int (x2 + (1 : Int32))), (0, .ref a_), (1, .ref a_o1)]) hx hb dX5_begin_112 hl (k := 2) rfl (rfl) (by decide) rfl (fun ls hl => ?_)
    refine lv_goto (tgt := 74) hx hb dX5_begin_115 (by decide) ?_
    cases hF
    exact hC (x2 + (1 : Int32)) w_17 rfl H locs ls (hP.sub [3, 4, 0, 1, 2] rfl) (hD.sub [3, 4, 0, 1, 2] (by decide) rfl) hS (lv_sub hl [1, 2, 0] rfl)

set_option maxHeartbeats 4000000 in
set_option maxRecDepth 100000 in
theorem lw_X5_begin_74 {p : Program} (l : Launch) {e : Env} {s : State} {m : MethodId} {below : List Frame} {meth : Method} {c : Code} {Q : State → Prop} (E : EE) (K : Nat) {a_ a_row a_partners a_share a_leftOver a_o1 a_o1_tape a_o1_rules a_o1_places a_o1_steps : Nat} {c_askedCount : Int32} {c_outcome : Int32} {c_o1_siteCount : Int32} {c_o1_stepCount : Int32} {c_o1_seenRules : Int32} {c_o1_at : Int32} {c_o1_wordStart : Int32} {c_o1_number : Int32} {c_o1_failed : Int32} {c_o1_rules : Nat → Int32} {c_o1_places : Nat → Int32} (hx : p.tables.exec = Jvm.exec) (hb : c.code = cX5_begin) (hml : c.maxLocals = 3) (hown : s.vm.findClass RX5 = some m.cls) (hts : ∀ w ∈ v_f_X5_begin, w.before #[Value.ref a_, Value.ref a_o1] s = true) (hK : va_K E.1 vwCl (TY E) s) (hN : NX s) {A : Nat → Prop} (hA : ∀ q : Nat, s.heap.size ≤ q → A q) (j9 : Nat) (x2 : Int32) (c_row : Nat → Int32) (c_row' : Nat → Int32) (hL : lpF (fun u9 : Int32 × (Nat → Int32) => B_X5_begin_74 c_o1_places u9.1 u9.2) j9 (x2, c_row) = some c_row') (hX : (∀ (H : Heap) (locs : List Loc) (ls : Array Slot), va_P E.1 vwCl (w_X5_begin E a_ a_row a_partners a_share a_leftOver a_o1 a_o1_tape a_o1_rules a_o1_places a_o1_steps c_askedCount c_outcome c_row' c_o1_siteCount c_o1_stepCount c_o1_seenRules c_o1_at c_o1_wordStart c_o1_number c_o1_failed c_o1_rules c_o1_places) H → va_D A (w_X5_begin E a_ a_row a_partners a_share a_leftOver a_o1 a_o1_tape a_o1_rules a_o1_places a_o1_steps c_askedCount c_outcome c_row' c_o1_siteCount c_o1_stepCount c_o1_seenRules c_o1_at c_o1_wordStart c_o1_number c_o1_failed c_o1_rules c_o1_places) → va_S A s.heap H locs → lv_has ls 3 [(0, .ref a_)] → W p l e ({ frames := 2, cells := 0, slots := 0, locals := 52 } : Room) s m #[Value.ref a_, Value.ref a_o1] below meth c H locs 0 0 Q (F0 m 118 ls []))) : ∀ (H : Heap) (locs : List Loc) (ls : Array Slot), va_P E.1 vwCl (w_X5_begin E a_ a_row a_partners a_share a_leftOver a_o1 a_o1_tape a_o1_rules a_o1_places a_o1_steps c_askedCount c_outcome c_row c_o1_siteCount c_o1_stepCount c_o1_seenRules c_o1_at c_o1_wordStart c_o1_number c_o1_failed c_o1_rules c_o1_places) H → va_D A (w_X5_begin E a_ a_row a_partners a_share a_leftOver a_o1 a_o1_tape a_o1_rules a_o1_places a_o1_steps c_askedCount c_outcome c_row c_o1_siteCount c_o1_stepCount c_o1_seenRules c_o1_at c_o1_wordStart c_o1_number c_o1_failed c_o1_rules c_o1_places) → va_S A s.heap H locs → lv_has ls 3 [(0, .ref a_), (1, .ref a_o1), (2, .int x2)] → W p l e ({ frames := 2, cells := 0, slots := 0, locals := 52 } : Room) s m #[Value.ref a_, Value.ref a_o1] below meth c H locs 0 0 Q (F0 m 74 ls []) := by
  exact lp_rule (P := (fun u9 : Int32 × (Nat → Int32) => ∀ (H : Heap) (locs : List Loc) (ls : Array Slot), va_P E.1 vwCl (w_X5_begin E a_ a_row a_partners a_share a_leftOver a_o1 a_o1_tape a_o1_rules a_o1_places a_o1_steps c_askedCount c_outcome u9.2 c_o1_siteCount c_o1_stepCount c_o1_seenRules c_o1_at c_o1_wordStart c_o1_number c_o1_failed c_o1_rules c_o1_places) H → va_D A (w_X5_begin E a_ a_row a_partners a_share a_leftOver a_o1 a_o1_tape a_o1_rules a_o1_places a_o1_steps c_askedCount c_outcome u9.2 c_o1_siteCount c_o1_stepCount c_o1_seenRules c_o1_at c_o1_wordStart c_o1_number c_o1_failed c_o1_rules c_o1_places) → va_S A s.heap H locs → lv_has ls 3 [(0, .ref a_), (1, .ref a_o1), (2, .int u9.1)] → W p l e ({ frames := 2, cells := 0, slots := 0, locals := 52 } : Room) s m #[Value.ref a_, Value.ref a_o1] below meth c H locs 0 0 Q (F0 m 74 ls []))) (R := (fun r9 : (Nat → Int32) => (∀ (H : Heap) (locs : List Loc) (ls : Array Slot), va_P E.1 vwCl (w_X5_begin E a_ a_row a_partners a_share a_leftOver a_o1 a_o1_tape a_o1_rules a_o1_places a_o1_steps c_askedCount c_outcome r9 c_o1_siteCount c_o1_stepCount c_o1_seenRules c_o1_at c_o1_wordStart c_o1_number c_o1_failed c_o1_rules c_o1_places) H → va_D A (w_X5_begin E a_ a_row a_partners a_share a_leftOver a_o1 a_o1_tape a_o1_rules a_o1_places a_o1_steps c_askedCount c_outcome r9 c_o1_siteCount c_o1_stepCount c_o1_seenRules c_o1_at c_o1_wordStart c_o1_number c_o1_failed c_o1_rules c_o1_places) → va_S A s.heap H locs → lv_has ls 3 [(0, .ref a_)] → W p l e ({ frames := 2, cells := 0, slots := 0, locals := 52 } : Room) s m #[Value.ref a_, Value.ref a_o1] below meth c H locs 0 0 Q (F0 m 118 ls [])))) (fun u9 xx hF hC hE => wb_X5_begin_74 l E K (c_askedCount := c_askedCount) (c_outcome := c_outcome) (c_o1_siteCount := c_o1_siteCount) (c_o1_stepCount := c_o1_stepCount) (c_o1_seenRules := c_o1_seenRules) (c_o1_at := c_o1_at) (c_o1_wordStart := c_o1_wordStart) (c_o1_number := c_o1_number) (c_o1_failed := c_o1_failed) (c_o1_rules := c_o1_rules) (c_o1_places := c_o1_places) (x2 := u9.1) (c_row := u9.2) hx hb hml hown hts hK hN hA (fun x2 c_row q9 => hC _ q9) (fun c_row q9 => hE _ q9) hF) j9 (x2, c_row) c_row' hL hX

set_option maxHeartbeats 4000000 in
set_option maxRecDepth 100000 in
theorem f_X5_begin (l : Launch) (E : EE) (sz : Nat) (K : Nat) {a_ a_row a_partners a_share a_leftOver a_o1 a_o1_tape a_o1_rules a_o1_places a_o1_steps : Nat} {c_askedCount : Int32} {c_outcome : Int32} {c_row : Nat → Int32} {c_o1_siteCount : Int32} {c_o1_stepCount : Int32} {c_o1_seenRules : Int32} {c_o1_at : Int32} {c_o1_wordStart : Int32} {c_o1_number : Int32} {c_o1_failed : Int32} {c_o1_rules : Nat → Int32} {c_o1_places : Nat → Int32} {n_row : Nat → Int32} (hF : F_X5_begin K c_row c_o1_rules c_o1_places c_o1_siteCount = some n_row) : Met l yX5_begin v_f_X5_begin (({ frames := 2, cells := 0, slots := 0, locals := 52 } : Room)) (va_Pc [.ref a_, .ref a_o1] (pW E sz (w_X5_begin E a_ a_row a_partners a_share a_leftOver a_o1 a_o1_tape a_o1_rules a_o1_places a_o1_steps c_askedCount c_outcome c_row c_o1_siteCount c_o1_stepCount c_o1_seenRules c_o1_at c_o1_wordStart c_o1_number c_o1_failed c_o1_rules c_o1_places))) (va_Qv (fun (_u : Unit) => True) (fun (_u : Unit) tt => va_P E.1 vwCl (w_X5_begin E a_ a_row a_partners a_share a_leftOver a_o1 a_o1_tape a_o1_rules a_o1_places a_o1_steps c_askedCount c_outcome n_row c_o1_siteCount c_o1_stepCount c_o1_seenRules c_o1_at c_o1_wordStart c_o1_number c_o1_failed c_o1_rules c_o1_places) tt.heap ∧ va_D (va_A (w_X5_begin E a_ a_row a_partners a_share a_leftOver a_o1 a_o1_tape a_o1_rules a_o1_places a_o1_steps c_askedCount c_outcome c_row c_o1_siteCount c_o1_stepCount c_o1_seenRules c_o1_at c_o1_wordStart c_o1_number c_o1_failed c_o1_rules c_o1_places) sz) (w_X5_begin E a_ a_row a_partners a_share a_leftOver a_o1 a_o1_tape a_o1_rules a_o1_places a_o1_steps c_askedCount c_outcome n_row c_o1_siteCount c_o1_stepCount c_o1_seenRules c_o1_at c_o1_wordStart c_o1_number c_o1_failed c_o1_rules c_o1_places)) (va_A (w_X5_begin E a_ a_row a_partners a_share a_leftOver a_o1 a_o1_tape a_o1_rules a_o1_places a_o1_steps c_askedCount c_outcome c_row c_o1_siteCount c_o1_stepCount c_o1_seenRules c_o1_at c_o1_wordStart c_o1_number c_o1_failed c_o1_rules c_o1_places) sz)) 0 0 (va_A (w_X5_begin E a_ a_row a_partners a_share a_leftOver a_o1 a_o1_tape a_o1_rules a_o1_places a_o1_steps c_askedCount c_outcome c_row c_o1_siteCount c_o1_stepCount c_o1_seenRules c_o1_at c_o1_wordStart c_o1_number c_o1_failed c_o1_rules c_o1_places) sz) := by
  refine Met.ofW (cc := cX5_begin) (maxL := 3) (ret := none) (by decide) rfl ?_
  intro p e s m args below meth c s₁ B hml hv
  obtain ⟨rfl, hsz, ⟨hK, hN⟩, hP, hD0⟩ := hv
  have hx := B.exec
  have hb := B.bytes
  have hr := B.returns
  have hts := atoms_spec (ws := v_f_X5_begin) B.pre
  have hown : s.vm.findClass RX5 = some m.cls := own_of hd_X5_begin.1 (findClass_of_methodNamed B.named)
  have hlocks : meth.locks = false := B.notSynchronized
  subst hsz
  have hD := hD0.self (sz := s.heap.size)
  generalize hAe : va_A (w_X5_begin E a_ a_row a_partners a_share a_leftOver a_o1 a_o1_tape a_o1_rules a_o1_places a_o1_steps c_askedCount c_outcome c_row c_o1_siteCount c_o1_stepCount c_o1_seenRules c_o1_at c_o1_wordStart c_o1_number c_o1_failed c_o1_rules c_o1_places) s.heap.size = A at hD ⊢
  have hA : ∀ q : Nat, s.heap.size ≤ q → A q := fun q h => by rw [← hAe]; exact Or.inr h
  have hS : va_S A s.heap s.heap [] := va_S.rf
  have hl := lv_entry ([.ref a_, .ref a_o1]) (n := 3) (Nat.le_of_ble_eq_true rfl)
  rw [lg_entry_eq]
  generalize (lg_sl ([.ref a_, .ref a_o1]) ++ List.replicate (3 - (lg_sl ([.ref a_, .ref a_o1])).length) Slot.unset).toArray = ls at hl ⊢
  have hl : lv_has ls 3 [(0, .ref a_), (1, .ref a_o1)] := hl
  obtain ⟨Q, hQ⟩ : ∃ Q : State → Prop, Q = MQ below (va_Qv (fun (_u : Unit) => True) (fun (_u : Unit) tt => va_P E.1 vwCl (w_X5_begin E a_ a_row a_partners a_share a_leftOver a_o1 a_o1_tape a_o1_rules a_o1_places a_o1_steps c_askedCount c_outcome n_row c_o1_siteCount c_o1_stepCount c_o1_seenRules c_o1_at c_o1_wordStart c_o1_number c_o1_failed c_o1_rules c_o1_places) tt.heap ∧ va_D A (w_X5_begin E a_ a_row a_partners a_share a_leftOver a_o1 a_o1_tape a_o1_rules a_o1_places a_o1_steps c_askedCount c_outcome n_row c_o1_siteCount c_o1_stepCount c_o1_seenRules c_o1_at c_o1_wordStart c_o1_number c_o1_failed c_o1_rules c_o1_places)) A) #[Value.ref a_, Value.ref a_o1] s 0 0 A := ⟨_, rfl⟩
  rw [← hQ]
  change W p l e ({ frames := 2, cells := 0, slots := 0, locals := 52 } : Room) s m #[Value.ref a_, Value.ref a_o1] below meth c s.heap [] 0 0 Q (F0 m 0 ls [])
  suffices hh9 : ∀ (H : Heap) (locs : List Loc), va_P E.1 vwCl (w_X5_begin E a_ a_row a_partners a_share a_leftOver a_o1 a_o1_tape a_o1_rules a_o1_places a_o1_steps c_askedCount c_outcome c_row c_o1_siteCount c_o1_stepCount c_o1_seenRules c_o1_at c_o1_wordStart c_o1_number c_o1_failed c_o1_rules c_o1_places) H → va_D A (w_X5_begin E a_ a_row a_partners a_share a_leftOver a_o1 a_o1_tape a_o1_rules a_o1_places a_o1_steps c_askedCount c_outcome c_row c_o1_siteCount c_o1_stepCount c_o1_seenRules c_o1_at c_o1_wordStart c_o1_number c_o1_failed c_o1_rules c_o1_places) → va_S A s.heap H locs → W p l e ({ frames := 2, cells := 0, slots := 0, locals := 52 } : Room) s m #[Value.ref a_, Value.ref a_o1] below meth c H locs 0 0 Q (F0 m 0 ls []) from hh9 s.heap [] hP hD hS
  clear hP hD hS
  intro H locs hP hD hS
  replace hP : va_P E.1 vwCl [(a_, .inr (6, [.ref a_row, .ref a_partners, .int c_askedCount, .int c_outcome, .ref a_share, .ref a_leftOver])), (a_row, .inl (E.2.1, 81, .inl c_row)), (a_o1, .inr (4, [.ref a_o1_tape, .ref a_o1_rules, .ref a_o1_places, .ref a_o1_steps, .int c_o1_siteCount, .int c_o1_stepCount, .int c_o1_seenRules, .int c_o1_at, .int c_o1_wordStart, .int c_o1_number, .int c_o1_failed])), (a_o1_rules, .inl (E.2.1, 3, .inl c_o1_rules)), (a_o1_places, .inl (E.2.1, 16, .inl c_o1_places))] H := hP
  replace hD : va_D A [(a_, .inr (6, [.ref a_row, .ref a_partners, .int c_askedCount, .int c_outcome, .ref a_share, .ref a_leftOver])), (a_row, .inl (E.2.1, 81, .inl c_row)), (a_o1, .inr (4, [.ref a_o1_tape, .ref a_o1_rules, .ref a_o1_places, .ref a_o1_steps, .int c_o1_siteCount, .int c_o1_stepCount, .int c_o1_seenRules, .int c_o1_at, .int c_o1_wordStart, .int c_o1_number, .int c_o1_failed])), (a_o1_rules, .inl (E.2.1, 3, .inl c_o1_rules)), (a_o1_places, .inl (E.2.1, 16, .inl c_o1_places))] := hD
  unfold F_X5_begin at hF
  refine lv_iconst (v := 0) hx hb dX5_begin_0 (by decide) ?_
  refine lv_istore_n (lv' := [(2, .int (0 : Int32)), (0, .ref a_), (1, .ref a_o1)]) hx hb dX5_begin_1 rfl hl (by decide) rfl (fun ls hl => ?_)
  replace hF := bd1_s hF
  obtain ⟨c_row_4, hL_5, hF⟩ := hF
  refine lw_X5_begin_2 l E K (c_askedCount := c_askedCount) (c_outcome := c_outcome) (c_o1_siteCount := c_o1_siteCount) (c_o1_stepCount := c_o1_stepCount) (c_o1_seenRules := c_o1_seenRules) (c_o1_at := c_o1_at) (c_o1_wordStart := c_o1_wordStart) (c_o1_number := c_o1_number) (c_o1_failed := c_o1_failed) (c_o1_rules := c_o1_rules) (c_o1_places := c_o1_places) hx hb hml hown hts hK hN hA K (0 : Int32) c_row c_row_4 hL_5 ?_ H locs ls (hP.sub [0, 1, 2, 3, 4] rfl) (hD.sub [0, 1, 2, 3, 4] (by decide) rfl) hS (lv_sub hl [1, 2, 0] rfl)
  ·
    intro H locs ls hP hD hS hl
    replace hP : va_P E.1 vwCl [(a_, .inr (6, [.ref a_row, .ref a_partners, .int c_askedCount, .int c_outcome, .ref a_share, .ref a_leftOver])), (a_row, .inl (E.2.1, 81, .inl c_row_4)), (a_o1, .inr (4, [.ref a_o1_tape, .ref a_o1_rules, .ref a_o1_places, .ref a_o1_steps, .int c_o1_siteCount, .int c_o1_stepCount, .int c_o1_seenRules, .int c_o1_at, .int c_o1_wordStart, .int c_o1_number, .int c_o1_failed])), (a_o1_rules, .inl (E.2.1, 3, .inl c_o1_rules)), (a_o1_places, .inl (E.2.1, 16, .inl c_o1_places))] H := hP
    replace hD : va_D A [(a_, .inr (6, [.ref a_row, .ref a_partners, .int c_askedCount, .int c_outcome, .ref a_share, .ref a_leftOver])), (a_row, .inl (E.2.1, 81, .inl c_row_4)), (a_o1, .inr (4, [.ref a_o1_tape, .ref a_o1_rules, .ref a_o1_places, .ref a_o1_steps, .int c_o1_siteCount, .int c_o1_stepCount, .int c_o1_seenRules, .int c_o1_at, .int c_o1_wordStart, .int c_o1_number, .int c_o1_failed])), (a_o1_rules, .inl (E.2.1, 3, .inl c_o1_rules)), (a_o1_places, .inl (E.2.1, 16, .inl c_o1_places))] := hD
    refine lv_aload_n hx hb dX5_begin_21 rfl (lv_at hl 0 rfl) ?_
    refine gt_X5_0 (v := .ref a_row) hx hb hts i_f_X5_begin_X5 hown hK hP 0 rfl (hts (.fieldLink RX5 11 "HushWatch$State" "row" "[I") (List.mem_of_getElem? (i := 1) rfl)) rfl dX5_begin_22 ?_
    refine lv_iconst (v := 0) hx hb dX5_begin_25 (by decide) ?_
    refine lv_aload_n hx hb dX5_begin_26 rfl (lv_at hl 1 rfl) ?_
    refine va_getN (D := E.1) (ci := 4) (v := .ref a_o1_rules) (C := RX3) (T := TX3) (N := 11) hx hb hts i_f_X5_begin_X3 hown hK hP 2 rfl rfl 1 (by decide) (nx hN 3 rfl) (fun _ h9 => h9) rfl dX5_begin_27 ?_
    refine lv_iconst (v := 0) hx hb dX5_begin_30 (by decide) ?_
    refine va_iald hx hb hK hP 3 0 rfl rfl (vin rfl) dX5_begin_31 ?_
    refine W.eq (g2 := F0 m 32 ls [.int (c_o1_rules 0), .int (0 : Int32), .ref a_row]) rfl ?_
    refine va_iast hx hb hK hP hD hS 1 0 rfl rfl (vin rfl) dX5_begin_32 (fun H locs hP hD hS => ?_)
    replace hP : va_P E.1 vwCl [(a_, .inr (6, [.ref a_row, .ref a_partners, .int c_askedCount, .int c_outcome, .ref a_share, .ref a_leftOver])), (a_row, .inl (E.2.1, 81, .inl (upd c_row_4 0 (c_o1_rules 0)))), (a_o1, .inr (4, [.ref a_o1_tape, .ref a_o1_rules, .ref a_o1_places, .ref a_o1_steps, .int c_o1_siteCount, .int c_o1_stepCount, .int c_o1_seenRules, .int c_o1_at, .int c_o1_wordStart, .int c_o1_number, .int c_o1_failed])), (a_o1_rules, .inl (E.2.1, 3, .inl c_o1_rules)), (a_o1_places, .inl (E.2.1, 16, .inl c_o1_places))] H := hP
    replace hD : va_D A [(a_, .inr (6, [.ref a_row, .ref a_partners, .int c_askedCount, .int c_outcome, .ref a_share, .ref a_leftOver])), (a_row, .inl (E.2.1, 81, .inl (upd c_row_4 0 (c_o1_rules 0)))), (a_o1, .inr (4, [.ref a_o1_tape, .ref a_o1_rules, .ref a_o1_places, .ref a_o1_steps, .int c_o1_siteCount, .int c_o1_stepCount, .int c_o1_seenRules, .int c_o1_at, .int c_o1_wordStart, .int c_o1_number, .int c_o1_failed])), (a_o1_rules, .inl (E.2.1, 3, .inl c_o1_rules)), (a_o1_places, .inl (E.2.1, 16, .inl c_o1_places))] := hD
    replace hF := nm_s hF
    obtain ⟨f_6, hf_6, hF⟩ := hF
    rw [← hf_6] at hP hD
    refine lv_aload_n hx hb dX5_begin_33 rfl (lv_at hl 0 rfl) ?_
    refine gt_X5_0 (v := .ref a_row) hx hb hts i_f_X5_begin_X5 hown hK hP 0 rfl (hts (.fieldLink RX5 11 "HushWatch$State" "row" "[I") (List.mem_of_getElem? (i := 1) rfl)) rfl dX5_begin_34 ?_
    refine lv_iconst (v := 1) hx hb dX5_begin_37 (by decide) ?_
    refine lv_aload_n hx hb dX5_begin_38 rfl (lv_at hl 1 rfl) ?_
    refine va_getN (D := E.1) (ci := 4) (v := .ref a_o1_rules) (C := RX3) (T := TX3) (N := 11) hx hb hts i_f_X5_begin_X3 hown hK hP 2 rfl rfl 1 (by decide) (nx hN 3 rfl) (fun _ h9 => h9) rfl dX5_begin_39 ?_
    refine lv_iconst (v := 1) hx hb dX5_begin_42 (by decide) ?_
    refine va_iald hx hb hK hP 3 0 rfl rfl (vin rfl) dX5_begin_43 ?_
    refine W.eq (g2 := F0 m 44 ls [.int (c_o1_rules 1), .int (1 : Int32), .ref a_row]) rfl ?_
    refine va_iast hx hb hK hP hD hS 1 0 rfl rfl (vin rfl) dX5_begin_44 (fun H locs hP hD hS => ?_)
    replace hP : va_P E.1 vwCl [(a_, .inr (6, [.ref a_row, .ref a_partners, .int c_askedCount, .int c_outcome, .ref a_share, .ref a_leftOver])), (a_row, .inl (E.2.1, 81, .inl (upd f_6 1 (c_o1_rules 1)))), (a_o1, .inr (4, [.ref a_o1_tape, .ref a_o1_rules, .ref a_o1_places, .ref a_o1_steps, .int c_o1_siteCount, .int c_o1_stepCount, .int c_o1_seenRules, .int c_o1_at, .int c_o1_wordStart, .int c_o1_number, .int c_o1_failed])), (a_o1_rules, .inl (E.2.1, 3, .inl c_o1_rules)), (a_o1_places, .inl (E.2.1, 16, .inl c_o1_places))] H := hP
    replace hD : va_D A [(a_, .inr (6, [.ref a_row, .ref a_partners, .int c_askedCount, .int c_outcome, .ref a_share, .ref a_leftOver])), (a_row, .inl (E.2.1, 81, .inl (upd f_6 1 (c_o1_rules 1)))), (a_o1, .inr (4, [.ref a_o1_tape, .ref a_o1_rules, .ref a_o1_places, .ref a_o1_steps, .int c_o1_siteCount, .int c_o1_stepCount, .int c_o1_seenRules, .int c_o1_at, .int c_o1_wordStart, .int c_o1_number, .int c_o1_failed])), (a_o1_rules, .inl (E.2.1, 3, .inl c_o1_rules)), (a_o1_places, .inl (E.2.1, 16, .inl c_o1_places))] := hD
    replace hF := nm_s hF
    obtain ⟨f_7, hf_7, hF⟩ := hF
    rw [← hf_7] at hP hD
    refine lv_aload_n hx hb dX5_begin_45 rfl (lv_at hl 0 rfl) ?_
    refine gt_X5_0 (v := .ref a_row) hx hb hts i_f_X5_begin_X5 hown hK hP 0 rfl (hts (.fieldLink RX5 11 "HushWatch$State" "row" "[I") (List.mem_of_getElem? (i := 1) rfl)) rfl dX5_begin_46 ?_
    refine lv_iconst (v := 2) hx hb dX5_begin_49 (by decide) ?_
    refine lv_aload_n hx hb dX5_begin_50 rfl (lv_at hl 1 rfl) ?_
    refine va_getN (D := E.1) (ci := 4) (v := .ref a_o1_rules) (C := RX3) (T := TX3) (N := 11) hx hb hts i_f_X5_begin_X3 hown hK hP 2 rfl rfl 1 (by decide) (nx hN 3 rfl) (fun _ h9 => h9) rfl dX5_begin_51 ?_
    refine lv_iconst (v := 2) hx hb dX5_begin_54 (by decide) ?_
    refine va_iald hx hb hK hP 3 0 rfl rfl (vin rfl) dX5_begin_55 ?_
    refine W.eq (g2 := F0 m 56 ls [.int (c_o1_rules 2), .int (2 : Int32), .ref a_row]) rfl ?_
    refine va_iast hx hb hK hP hD hS 1 0 rfl rfl (vin rfl) dX5_begin_56 (fun H locs hP hD hS => ?_)
    replace hP : va_P E.1 vwCl [(a_, .inr (6, [.ref a_row, .ref a_partners, .int c_askedCount, .int c_outcome, .ref a_share, .ref a_leftOver])), (a_row, .inl (E.2.1, 81, .inl (upd f_7 2 (c_o1_rules 2)))), (a_o1, .inr (4, [.ref a_o1_tape, .ref a_o1_rules, .ref a_o1_places, .ref a_o1_steps, .int c_o1_siteCount, .int c_o1_stepCount, .int c_o1_seenRules, .int c_o1_at, .int c_o1_wordStart, .int c_o1_number, .int c_o1_failed])), (a_o1_rules, .inl (E.2.1, 3, .inl c_o1_rules)), (a_o1_places, .inl (E.2.1, 16, .inl c_o1_places))] H := hP
    replace hD : va_D A [(a_, .inr (6, [.ref a_row, .ref a_partners, .int c_askedCount, .int c_outcome, .ref a_share, .ref a_leftOver])), (a_row, .inl (E.2.1, 81, .inl (upd f_7 2 (c_o1_rules 2)))), (a_o1, .inr (4, [.ref a_o1_tape, .ref a_o1_rules, .ref a_o1_places, .ref a_o1_steps, .int c_o1_siteCount, .int c_o1_stepCount, .int c_o1_seenRules, .int c_o1_at, .int c_o1_wordStart, .int c_o1_number, .int c_o1_failed])), (a_o1_rules, .inl (E.2.1, 3, .inl c_o1_rules)), (a_o1_places, .inl (E.2.1, 16, .inl c_o1_places))] := hD
    replace hF := nm_s hF
    obtain ⟨f_8, hf_8, hF⟩ := hF
    rw [← hf_8] at hP hD
    refine lv_aload_n hx hb dX5_begin_57 rfl (lv_at hl 0 rfl) ?_
    refine gt_X5_0 (v := .ref a_row) hx hb hts i_f_X5_begin_X5 hown hK hP 0 rfl (hts (.fieldLink RX5 11 "HushWatch$State" "row" "[I") (List.mem_of_getElem? (i := 1) rfl)) rfl dX5_begin_58 ?_
    refine lv_iconst (v := 3) hx hb dX5_begin_61 (by decide) ?_
    refine lv_aload_n hx hb dX5_begin_62 rfl (lv_at hl 1 rfl) ?_
    refine va_getN (D := E.1) (ci := 4) (v := .int c_o1_siteCount) (C := RX3) (T := TX3) (N := 11) hx hb hts i_f_X5_begin_X3 hown hK hP 2 rfl rfl 4 (by decide) (nx hN 6 rfl) (fun _ h9 => h9) rfl dX5_begin_63 ?_
    refine lv_bipush (v := 8) hx hb dX5_begin_66 (by decide) ?_
    refine va_mmin hx hb (hml.trans hl.1.symm) hown (hts (.methodLink RX5 39 Lib.Math.min.name) (List.mem_of_getElem? (i := 2) rfl)) (hts (.static Lib.Math.min.name) (List.mem_of_getElem? (i := 3) rfl)) (hts (.initialized "java/lang/Math") (List.mem_of_getElem? (i := 4) rfl)) (hts (.code Lib.Math.min.name Lib.Math.min.code 2 (some .int)) (List.mem_of_getElem? (i := 5) rfl)) (Nat.le_of_ble_eq_true rfl) (Nat.le_of_ble_eq_true rfl) (Nat.le_of_ble_eq_true rfl) (Nat.le_of_ble_eq_true rfl) dX5_begin_68 ?_
    refine W.eq (g2 := F0 m 71 ls [.int (minF c_o1_siteCount (8 : Int32)), .int (3 : Int32), .ref a_row]) rfl ?_
    refine va_iast hx hb hK hP hD hS 1 0 rfl rfl (vin rfl) dX5_begin_71 (fun H locs hP hD hS => ?_)
    replace hP : va_P E.1 vwCl [(a_, .inr (6, [.ref a_row, .ref a_partners, .int c_askedCount, .int c_outcome, .ref a_share, .ref a_leftOver])), (a_row, .inl (E.2.1, 81, .inl (upd f_8 3 (minF c_o1_siteCount (8 : Int32))))), (a_o1, .inr (4, [.ref a_o1_tape, .ref a_o1_rules, .ref a_o1_places, .ref a_o1_steps, .int c_o1_siteCount, .int c_o1_stepCount, .int c_o1_seenRules, .int c_o1_at, .int c_o1_wordStart, .int c_o1_number, .int c_o1_failed])), (a_o1_rules, .inl (E.2.1, 3, .inl c_o1_rules)), (a_o1_places, .inl (E.2.1, 16, .inl c_o1_places))] H := hP
    replace hD : va_D A [(a_, .inr (6, [.ref a_row, .ref a_partners, .int c_askedCount, .int c_outcome, .ref a_share, .ref a_leftOver])), (a_row, .inl (E.2.1, 81, .inl (upd f_8 3 (minF c_o1_siteCount (8 : Int32))))), (a_o1, .inr (4, [.ref a_o1_tape, .ref a_o1_rules, .ref a_o1_places, .ref a_o1_steps, .int c_o1_siteCount, .int c_o1_stepCount, .int c_o1_seenRules, .int c_o1_at, .int c_o1_wordStart, .int c_o1_number, .int c_o1_failed])), (a_o1_rules, .inl (E.2.1, 3, .inl c_o1_rules)), (a_o1_places, .inl (E.2.1, 16, .inl c_o1_places))] := hD
    replace hF := nm_s hF
    obtain ⟨f_9, hf_9, hF⟩ := hF
    rw [← hf_9] at hP hD
    refine lv_iconst (v := 0) hx hb dX5_begin_72 (by decide) ?_
    refine lv_istore_n (lv' := [(2, .int (0 : Int32)), (0, .ref a_), (1, .ref a_o1)]) hx hb dX5_begin_73 rfl hl (by decide) rfl (fun ls hl => ?_)
    replace hF := bd1_s hF
    obtain ⟨c_row_19, hL_20, hF⟩ := hF
    refine lw_X5_begin_74 l E K (c_askedCount := c_askedCount) (c_outcome := c_outcome) (c_o1_siteCount := c_o1_siteCount) (c_o1_stepCount := c_o1_stepCount) (c_o1_seenRules := c_o1_seenRules) (c_o1_at := c_o1_at) (c_o1_wordStart := c_o1_wordStart) (c_o1_number := c_o1_number) (c_o1_failed := c_o1_failed) (c_o1_rules := c_o1_rules) (c_o1_places := c_o1_places) hx hb hml hown hts hK hN hA K (0 : Int32) f_9 c_row_19 hL_20 ?_ H locs ls (hP.sub [0, 1, 2, 3, 4] rfl) (hD.sub [0, 1, 2, 3, 4] (by decide) rfl) hS (lv_sub hl [1, 2, 0] rfl)
    ·
      intro H locs ls hP hD hS hl
      replace hP : va_P E.1 vwCl [(a_, .inr (6, [.ref a_row, .ref a_partners, .int c_askedCount, .int c_outcome, .ref a_share, .ref a_leftOver])), (a_row, .inl (E.2.1, 81, .inl c_row_19)), (a_o1, .inr (4, [.ref a_o1_tape, .ref a_o1_rules, .ref a_o1_places, .ref a_o1_steps, .int c_o1_siteCount, .int c_o1_stepCount, .int c_o1_seenRules, .int c_o1_at, .int c_o1_wordStart, .int c_o1_number, .int c_o1_failed])), (a_o1_rules, .inl (E.2.1, 3, .inl c_o1_rules)), (a_o1_places, .inl (E.2.1, 16, .inl c_o1_places))] H := hP
      replace hD : va_D A [(a_, .inr (6, [.ref a_row, .ref a_partners, .int c_askedCount, .int c_outcome, .ref a_share, .ref a_leftOver])), (a_row, .inl (E.2.1, 81, .inl c_row_19)), (a_o1, .inr (4, [.ref a_o1_tape, .ref a_o1_rules, .ref a_o1_places, .ref a_o1_steps, .int c_o1_siteCount, .int c_o1_stepCount, .int c_o1_seenRules, .int c_o1_at, .int c_o1_wordStart, .int c_o1_number, .int c_o1_failed])), (a_o1_rules, .inl (E.2.1, 3, .inl c_o1_rules)), (a_o1_places, .inl (E.2.1, 16, .inl c_o1_places))] := hD
      refine lv_aload_n hx hb dX5_begin_118 rfl (lv_at hl 0 rfl) ?_
      replace hF := bd1_s hF
      obtain ⟨w_21, hc_22, hF⟩ := hF
      obtain ⟨hPc, hDc, hFc⟩ := wcut (wc := (w_X5_hearPlaces E a_ a_row a_partners a_share a_leftOver c_askedCount c_outcome c_row_19)) hP hD hS hA [0, 1] (by decide) rfl
      have hrc := va_recv hK hPc (ci := 6) (q0 := 0) rfl rfl
      refine cE_v (wc := (w_X5_hearPlaces E a_ a_row a_partners a_share a_leftOver c_askedCount c_outcome c_row_19)) (wr := [(a_o1, .inr (4, [.ref a_o1_tape, .ref a_o1_rules, .ref a_o1_places, .ref a_o1_steps, .int c_o1_siteCount, .int c_o1_stepCount, .int c_o1_seenRules, .int c_o1_at, .int c_o1_wordStart, .int c_o1_number, .int c_o1_failed])), (a_o1_rules, .inl (E.2.1, 3, .inl c_o1_rules)), (a_o1_places, .inl (E.2.1, 16, .inl c_o1_places))]) (w1 := (w_X5_hearPlaces E a_ a_row a_partners a_share a_leftOver c_askedCount c_outcome w_21)) (va_runV (As := []) (rest := [])  ⟨hx, hb, hml, hown, hts⟩ (f_X5_hearPlaces l E H.size K (a_ := a_) (a_row := a_row) (a_partners := a_partners) (a_share := a_share) (a_leftOver := a_leftOver) (c_askedCount := c_askedCount) (c_outcome := c_outcome) (c_row := c_row_19) hc_22) (cwV 0 hts g_f_X5_begin_f_X5_hearPlaces_56 rfl rfl rfl hd_X5_hearPlaces ⟨Nat.le_of_ble_eq_true rfl, Nat.le_of_ble_eq_true rfl⟩) ⟨pW.blind, hrc, (pW.pre ⟨hK, hN⟩ hPc hDc)⟩ rfl rfl hl.1 rfl (lv_room (Nat.le_of_ble_eq_true rfl)) dX5_begin_119 ⟨Nat.le_of_ble_eq_true rfl, Nat.le_of_ble_eq_true rfl⟩) hS hFc hP hD [0, 1] [2, 3, 4] rfl rfl (by decide) (by decide) (fun H locs hP hD hS => ?_)
      replace hP : va_P E.1 vwCl [(a_o1, .inr (4, [.ref a_o1_tape, .ref a_o1_rules, .ref a_o1_places, .ref a_o1_steps, .int c_o1_siteCount, .int c_o1_stepCount, .int c_o1_seenRules, .int c_o1_at, .int c_o1_wordStart, .int c_o1_number, .int c_o1_failed])), (a_o1_rules, .inl (E.2.1, 3, .inl c_o1_rules)), (a_o1_places, .inl (E.2.1, 16, .inl c_o1_places)), (a_, .inr (6, [.ref a_row, .ref a_partners, .int c_askedCount, .int c_outcome, .ref a_share, .ref a_leftOver])), (a_row, .inl (E.2.1, 81, .inl w_21))] H := hP
      replace hD : va_D A [(a_o1, .inr (4, [.ref a_o1_tape, .ref a_o1_rules, .ref a_o1_places, .ref a_o1_steps, .int c_o1_siteCount, .int c_o1_stepCount, .int c_o1_seenRules, .int c_o1_at, .int c_o1_wordStart, .int c_o1_number, .int c_o1_failed])), (a_o1_rules, .inl (E.2.1, 3, .inl c_o1_rules)), (a_o1_places, .inl (E.2.1, 16, .inl c_o1_places)), (a_, .inr (6, [.ref a_row, .ref a_partners, .int c_askedCount, .int c_outcome, .ref a_share, .ref a_leftOver])), (a_row, .inl (E.2.1, 81, .inl w_21))] := hD
      refine lv_aload_n hx hb dX5_begin_122 rfl (lv_at hl 0 rfl) ?_
      refine gt_X5_0 (v := .ref a_row) hx hb hts i_f_X5_begin_X5 hown hK hP 3 rfl (hts (.fieldLink RX5 11 "HushWatch$State" "row" "[I") (List.mem_of_getElem? (i := 1) rfl)) rfl dX5_begin_123 ?_
      refine lv_bipush (v := 6) hx hb dX5_begin_126 (by decide) ?_
      refine lv_aload_n hx hb dX5_begin_128 rfl (lv_at hl 0 rfl) ?_
      refine lv_aload_n hx hb dX5_begin_129 rfl (lv_at hl 0 rfl) ?_
      refine gt_X5_0 (v := .ref a_row) hx hb hts i_f_X5_begin_X5 hown hK hP 3 rfl (hts (.fieldLink RX5 11 "HushWatch$State" "row" "[I") (List.mem_of_getElem? (i := 1) rfl)) rfl dX5_begin_130 ?_
      refine lv_iconst (v := 4) hx hb dX5_begin_133 (by decide) ?_
      refine va_iald hx hb hK hP 4 0 rfl rfl (vin rfl) dX5_begin_134 ?_
      refine W.eq (g2 := F0 m 135 ls [.int (w_21 4), .ref a_, .int (6 : Int32), .ref a_row]) rfl ?_
      refine lv_i2l (v := (w_21 4).toInt64) hx hb dX5_begin_135 rfl ?_
      refine lv_aload_n hx hb dX5_begin_136 rfl (lv_at hl 0 rfl) ?_
      refine gt_X5_0 (v := .ref a_row) hx hb hts i_f_X5_begin_X5 hown hK hP 3 rfl (hts (.fieldLink RX5 11 "HushWatch$State" "row" "[I") (List.mem_of_getElem? (i := 1) rfl)) rfl dX5_begin_137 ?_
      refine lv_iconst (v := 5) hx hb dX5_begin_140 (by decide) ?_
      refine va_iald hx hb hK hP 4 0 rfl rfl (vin rfl) dX5_begin_141 ?_
      refine W.eq (g2 := F0 m 142 ls [.int (w_21 5), .long ((w_21 4).toInt64), .ref a_, .int (6 : Int32), .ref a_row]) rfl ?_
      refine lv_i2l (v := (w_21 5).toInt64) hx hb dX5_begin_142 rfl ?_
      replace hF := bd1_s hF
      obtain ⟨r_23, hc_24, hF⟩ := hF
      have hPc : va_P E.1 vwCl (w_X5_allows E a_ a_row a_partners a_share a_leftOver c_askedCount c_outcome w_21) H := hP.sub (ws' := [(a_, .inr (6, [.ref a_row, .ref a_partners, .int c_askedCount, .int c_outcome, .ref a_share, .ref a_leftOver])), (a_row, .inl (E.2.1, 81, .inl w_21))]) [3, 4] rfl
      have hrc := va_recv hK hPc (ci := 6) (q0 := 0) rfl rfl
      refine pE_z (va_runV (As := [.long ((w_21 4).toInt64), .long ((w_21 5).toInt64)]) (rest := [.int (6 : Int32), .ref a_row])  ⟨hx, hb, hml, hown, hts⟩ (f_X5_allows l E (a_ := a_) (a_row := a_row) (a_partners := a_partners) (a_share := a_share) (a_leftOver := a_leftOver) (p1 := (w_21 4).toInt64) (p2 := (w_21 5).toInt64) (c_askedCount := c_askedCount) (c_outcome := c_outcome) (c_row := w_21) hc_24) (cwV 2 hts g_f_X5_begin_f_X5_allows_59 rfl rfl rfl hd_X5_allows ⟨Nat.le_of_ble_eq_true rfl, Nat.le_of_ble_eq_true rfl⟩) ⟨pP.blind, hrc, (pP.pre ⟨hK, hN⟩ hPc)⟩ rfl rfl hl.1 rfl (lv_room (Nat.le_of_ble_eq_true rfl)) dX5_begin_143 ⟨Nat.le_of_ble_eq_true rfl, Nat.le_of_ble_eq_true rfl⟩) (fun hb_25 => ?_)
      refine lv_if_eq (tgt := 153) hx hb dX5_begin_146 (by decide) (fun c_26 => ?_) (fun c_26 => ?_)
      ·
        replace hF := ip c_26 hF
        refine lv_iconst (v := 1) hx hb dX5_begin_153 (by decide) ?_
        refine va_iast hx hb hK hP hD hS 4 0 rfl rfl (vin rfl) dX5_begin_154 (fun H locs hP hD hS => ?_)
        replace hP : va_P E.1 vwCl [(a_o1, .inr (4, [.ref a_o1_tape, .ref a_o1_rules, .ref a_o1_places, .ref a_o1_steps, .int c_o1_siteCount, .int c_o1_stepCount, .int c_o1_seenRules, .int c_o1_at, .int c_o1_wordStart, .int c_o1_number, .int c_o1_failed])), (a_o1_rules, .inl (E.2.1, 3, .inl c_o1_rules)), (a_o1_places, .inl (E.2.1, 16, .inl c_o1_places)), (a_, .inr (6, [.ref a_row, .ref a_partners, .int c_askedCount, .int c_outcome, .ref a_share, .ref a_leftOver])), (a_row, .inl (E.2.1, 81, .inl (upd w_21 6 (1 : Int32))))] H := hP
        replace hD : va_D A [(a_o1, .inr (4, [.ref a_o1_tape, .ref a_o1_rules, .ref a_o1_places, .ref a_o1_steps, .int c_o1_siteCount, .int c_o1_stepCount, .int c_o1_seenRules, .int c_o1_at, .int c_o1_wordStart, .int c_o1_number, .int c_o1_failed])), (a_o1_rules, .inl (E.2.1, 3, .inl c_o1_rules)), (a_o1_places, .inl (E.2.1, 16, .inl c_o1_places)), (a_, .inr (6, [.ref a_row, .ref a_partners, .int c_askedCount, .int c_outcome, .ref a_share, .ref a_leftOver])), (a_row, .inl (E.2.1, 81, .inl (upd w_21 6 (1 : Int32))))] := hD
        replace hF := nm_s hF
        obtain ⟨f_27, hf_27, hF⟩ := hF
        rw [← hf_27] at hP hD
        rw [hQ]
        have h9 := fin9 (P := fun u9 : (Nat → Int32) => va_P E.1 vwCl (w_X5_begin E a_ a_row a_partners a_share a_leftOver a_o1 a_o1_tape a_o1_rules a_o1_places a_o1_steps c_askedCount c_outcome u9 c_o1_siteCount c_o1_stepCount c_o1_seenRules c_o1_at c_o1_wordStart c_o1_number c_o1_failed c_o1_rules c_o1_places) H ∧ va_D A (w_X5_begin E a_ a_row a_partners a_share a_leftOver a_o1 a_o1_tape a_o1_rules a_o1_places a_o1_steps c_askedCount c_outcome u9 c_o1_siteCount c_o1_stepCount c_o1_seenRules c_o1_at c_o1_wordStart c_o1_number c_o1_failed c_o1_rules c_o1_places)) hF ⟨hP.sub [3, 4, 0, 1, 2] rfl, hD.sub [3, 4, 0, 1, 2] (by decide) rfl⟩
        obtain ⟨hP9, hD9⟩ := h9
        exact W.vret hx hb hr (fun tt ht hW => ⟨⟨(), rfl, trivial, ht ▸ hP9, hD9⟩, hS.F ht⟩) hS.2.2 dX5_begin_155
      ·
        replace hF := inn c_26 hF
        refine lv_iconst (v := 0) hx hb dX5_begin_149 (by decide) ?_
        refine lv_goto (tgt := 154) hx hb dX5_begin_150 (by decide) ?_
        refine va_iast hx hb hK hP hD hS 4 0 rfl rfl (vin rfl) dX5_begin_154 (fun H locs hP hD hS => ?_)
        replace hP : va_P E.1 vwCl [(a_o1, .inr (4, [.ref a_o1_tape, .ref a_o1_rules, .ref a_o1_places, .ref a_o1_steps, .int c_o1_siteCount, .int c_o1_stepCount, .int c_o1_seenRules, .int c_o1_at, .int c_o1_wordStart, .int c_o1_number, .int c_o1_failed])), (a_o1_rules, .inl (E.2.1, 3, .inl c_o1_rules)), (a_o1_places, .inl (E.2.1, 16, .inl c_o1_places)), (a_, .inr (6, [.ref a_row, .ref a_partners, .int c_askedCount, .int c_outcome, .ref a_share, .ref a_leftOver])), (a_row, .inl (E.2.1, 81, .inl (upd w_21 6 (0 : Int32))))] H := hP
        replace hD : va_D A [(a_o1, .inr (4, [.ref a_o1_tape, .ref a_o1_rules, .ref a_o1_places, .ref a_o1_steps, .int c_o1_siteCount, .int c_o1_stepCount, .int c_o1_seenRules, .int c_o1_at, .int c_o1_wordStart, .int c_o1_number, .int c_o1_failed])), (a_o1_rules, .inl (E.2.1, 3, .inl c_o1_rules)), (a_o1_places, .inl (E.2.1, 16, .inl c_o1_places)), (a_, .inr (6, [.ref a_row, .ref a_partners, .int c_askedCount, .int c_outcome, .ref a_share, .ref a_leftOver])), (a_row, .inl (E.2.1, 81, .inl (upd w_21 6 (0 : Int32))))] := hD
        replace hF := nm_s hF
        obtain ⟨f_28, hf_28, hF⟩ := hF
        rw [← hf_28] at hP hD
        rw [hQ]
        have h9 := fin9 (P := fun u9 : (Nat → Int32) => va_P E.1 vwCl (w_X5_begin E a_ a_row a_partners a_share a_leftOver a_o1 a_o1_tape a_o1_rules a_o1_places a_o1_steps c_askedCount c_outcome u9 c_o1_siteCount c_o1_stepCount c_o1_seenRules c_o1_at c_o1_wordStart c_o1_number c_o1_failed c_o1_rules c_o1_places) H ∧ va_D A (w_X5_begin E a_ a_row a_partners a_share a_leftOver a_o1 a_o1_tape a_o1_rules a_o1_places a_o1_steps c_askedCount c_outcome u9 c_o1_siteCount c_o1_stepCount c_o1_seenRules c_o1_at c_o1_wordStart c_o1_number c_o1_failed c_o1_rules c_o1_places)) hF ⟨hP.sub [3, 4, 0, 1, 2] rfl, hD.sub [3, 4, 0, 1, 2] (by decide) rfl⟩
        obtain ⟨hP9, hD9⟩ := h9
        exact W.vret hx hb hr (fun tt ht hW => ⟨⟨(), rfl, trivial, ht ▸ hP9, hD9⟩, hS.F ht⟩) hS.2.2 dX5_begin_155

def B_X5_measureShares_23 (p1 : Int32) (c_row : Nat → Int32) (x3 : Int32) (x4 : Int32) (x5 : Int32) : Option ((Int32 × Int32) ⊕ (Int32)) :=
  bd1 (F_X5_sites c_row) (fun r_5 => if r_5 ≤ x5 then some (.inr x4) else if (p1 >>> (x5 &&& (31 : Int32))) &&& (1 : Int32) = (0 : Int32) then some (.inl (x4 + (0 : Int32), x5 + (1 : Int32))) else bd1 (F_X5_drift x5 x3 c_row) (fun r_9 => some (.inl (x4 + r_9, x5 + (1 : Int32)))))
def B_X5_measureShares_12 (K : Nat) (p1 : Int32) (c_row : Nat → Int32) (x2 : Int32) (x3 : Int32) (c_share : Nat → Int32) (c_leftOver : Nat → Int32) : Option ((Int32 × (Nat → Int32) × (Nat → Int32)) ⊕ ((Nat → Int32) × (Nat → Int32))) :=
  if (2 : Int32) ≤ x3 then some (.inr (c_share, c_leftOver)) else bd1 (lpF (fun u9 : Int32 × Int32 => B_X5_measureShares_23 p1 c_row x3 u9.1 u9.2) K ((0 : Int32), (0 : Int32))) (fun x4_11 => bd1 (F_J9_floorDiv_7cf53 x4_11 x2) (fun r_13 => ixF x3 2 (nmF (upd c_share x3.toNatClampNeg r_13) (fun f_16 => bd1 (F_J9_floorMod_7cf53 x4_11 x2) (fun r_17 => ixF x3 2 (nmF (upd c_leftOver x3.toNatClampNeg r_17) (fun f_20 => some (.inl (x3 + (1 : Int32), f_16, f_20)))))))))
def F_X5_measureShares (K : Nat) (p1 : Int32) (c_row : Nat → Int32) (c_share : Nat → Int32) (c_leftOver : Nat → Int32) : Option ((Nat → Int32) × (Nat → Int32)) :=
  bd1 (F_J6_bitCount_0f7a4 p1) (fun r_1 => if r_1 = (0 : Int32) then some (c_share, c_leftOver) else bd2 (lpF (fun u9 : Int32 × (Nat → Int32) × (Nat → Int32) => B_X5_measureShares_12 K p1 c_row r_1 u9.1 u9.2.1 u9.2.2) K ((0 : Int32), c_share, c_leftOver)) (fun c_share_21 c_leftOver_22 => some (c_share_21, c_leftOver_22)))
abbrev w_X5_measureShares (E : EE) (a_ a_row a_partners a_share a_leftOver : Nat) (c_askedCount : Int32) (c_outcome : Int32) (c_row : Nat → Int32) (c_share : Nat → Int32) (c_leftOver : Nat → Int32) : va_W := [(a_, .inr (6, [.ref a_row, .ref a_partners, .int c_askedCount, .int c_outcome, .ref a_share, .ref a_leftOver])), (a_row, .inl (E.2.1, 81, .inl c_row)), (a_share, .inl (E.2.1, 2, .inl c_share)), (a_leftOver, .inl (E.2.1, 2, .inl c_leftOver))]
def v_f_X5_measureShares : List Cond := .code yX5_measureShares cX5_measureShares 6 none :: ([.fieldLink RX5 25 "HushWatch$State" "share" "[I", .fieldLink RX5 28 "HushWatch$State" "leftOver" "[I", .methodLink RX5 171 yJ6_bitCount_0f7a4, .static yJ6_bitCount_0f7a4, .initialized RJ6, .methodLink RX5 45 yX5_sites, .instanceMethod yX5_sites, .selects RX5 yX5_sites yX5_sites, .initialized RX5, .methodLink RX5 72 yX5_drift, .instanceMethod yX5_drift, .selects RX5 yX5_drift yX5_drift, .methodLink RX5 176 yJ9_floorDiv_7cf53, .static yJ9_floorDiv_7cf53, .initialized RJ9, .methodLink RX5 179 yJ9_floorMod_7cf53, .static yJ9_floorMod_7cf53] ++ (v_f_J6_bitCount_0f7a4 ++ (v_f_X5_sites ++ (v_f_X5_drift ++ (wsX50 ++ (v_f_J9_floorDiv_7cf53 ++ (v_f_J9_floorMod_7cf53 ++ ([]))))))))
theorem gw_f_X5_measureShares : v_f_X5_measureShares.all goodWord = true := by decide +kernel
theorem i_f_X5_measureShares_X5 : ∀ w ∈ wsX50, w ∈ v_f_X5_measureShares := fun _ h => List.mem_cons_of_mem _ (List.mem_append_right _ (List.mem_append_right _ (List.mem_append_right _ (List.mem_append_right _ (List.mem_append_left _ h)))))
theorem g_f_X5_measureShares_f_J6_bitCount_0f7a4_171 : GoodIn v_f_X5_measureShares (va_wsS RX5 171 yJ6_bitCount_0f7a4 v_f_J6_bitCount_0f7a4) := goodIn_app (goodIn_of _ (by decide +kernel)) (goodIn_sub (fun _ h => List.mem_cons_of_mem _ (List.mem_append_right _ (List.mem_append_left _ h))) gw_f_J6_bitCount_0f7a4)
theorem g_f_X5_measureShares_f_X5_sites_45 : GoodIn v_f_X5_measureShares (wsV RX5 45 RX5 yX5_sites v_f_X5_sites) := goodIn_app (goodIn_of _ (by decide +kernel)) (goodIn_sub (fun _ h => List.mem_cons_of_mem _ (List.mem_append_right _ (List.mem_append_right _ (List.mem_append_left _ h)))) gw_f_X5_sites)
theorem g_f_X5_measureShares_f_X5_drift_72 : GoodIn v_f_X5_measureShares (wsV RX5 72 RX5 yX5_drift v_f_X5_drift) := goodIn_app (goodIn_of _ (by decide +kernel)) (goodIn_sub (fun _ h => List.mem_cons_of_mem _ (List.mem_append_right _ (List.mem_append_right _ (List.mem_append_right _ (List.mem_append_left _ h))))) gw_f_X5_drift)
theorem g_f_X5_measureShares_f_J9_floorDiv_7cf53_176 : GoodIn v_f_X5_measureShares (va_wsS RX5 176 yJ9_floorDiv_7cf53 v_f_J9_floorDiv_7cf53) := goodIn_app (goodIn_of _ (by decide +kernel)) (goodIn_sub (fun _ h => List.mem_cons_of_mem _ (List.mem_append_right _ (List.mem_append_right _ (List.mem_append_right _ (List.mem_append_right _ (List.mem_append_right _ (List.mem_append_left _ h))))))) gw_f_J9_floorDiv_7cf53)
theorem g_f_X5_measureShares_f_J9_floorMod_7cf53_179 : GoodIn v_f_X5_measureShares (va_wsS RX5 179 yJ9_floorMod_7cf53 v_f_J9_floorMod_7cf53) := goodIn_app (goodIn_of _ (by decide +kernel)) (goodIn_sub (fun _ h => List.mem_cons_of_mem _ (List.mem_append_right _ (List.mem_append_right _ (List.mem_append_right _ (List.mem_append_right _ (List.mem_append_right _ (List.mem_append_right _ (List.mem_append_left _ h)))))))) gw_f_J9_floorMod_7cf53)
theorem hd_X5_measureShares : yX5_measureShares.cls = RX5 ∧ yX5_measureShares.cls ≠ "java/lang/invoke/MethodHandle" ∧ yX5_measureShares.cls ≠ "java/lang/invoke/VarHandle" ∧ (parseMethodDescriptor yX5_measureShares.desc).map (fun d => d.parameters.length) = some 1 := by decide +kernel
set_option maxHeartbeats 4000000 in
set_option maxRecDepth 100000 in
theorem wb_X5_measureShares_23 {p : Program} (l : Launch) {e : Env} {s : State} {m : MethodId} {below : List Frame} {meth : Method} {c : Code} {Q : State → Prop} (E : EE) (K : Nat) {a_ a_row a_partners a_share a_leftOver : Nat} {p1 : Int32} {c_askedCount : Int32} {c_outcome : Int32} {c_row : Nat → Int32} {x2 : Int32} {x3 : Int32} {x4 : Int32} {x5 : Int32} {c_share : Nat → Int32} {c_leftOver : Nat → Int32} (hx : p.tables.exec = Jvm.exec) (hb : c.code = cX5_measureShares) (hml : c.maxLocals = 6) (hown : s.vm.findClass RX5 = some m.cls) (hts : ∀ w ∈ v_f_X5_measureShares, w.before #[Value.ref a_, Value.int p1] s = true) (hK : va_K E.1 vwCl (TY E) s) (hN : NX s) {A : Nat → Prop} (hA : ∀ q : Nat, s.heap.size ≤ q → A q) {xx : (Int32 × Int32) ⊕ (Int32)} (hC : ∀ (x4 : Int32), ∀ (x5 : Int32), xx = .inl (x4, x5) → ∀ (H : Heap) (locs : List Loc) (ls : Array Slot), va_P E.1 vwCl (w_X5_measureShares E a_ a_row a_partners a_share a_leftOver c_askedCount c_outcome c_row c_share c_leftOver) H → va_D A (w_X5_measureShares E a_ a_row a_partners a_share a_leftOver c_askedCount c_outcome c_row c_share c_leftOver) → va_S A s.heap H locs → lv_has ls 6 [(0, .ref a_), (1, .int p1), (2, .int x2), (3, .int x3), (4, .int x4), (5, .int x5)] → W p l e ({ frames := 1, cells := 0, slots := 0, locals := 23 } : Room) s m #[Value.ref a_, Value.int p1] below meth c H locs 0 0 Q (F0 m 23 ls [])) (hE : ∀ (x4 : Int32), xx = .inr x4 → ((∀ (H : Heap) (locs : List Loc) (ls : Array Slot), va_P E.1 vwCl (w_X5_measureShares E a_ a_row a_partners a_share a_leftOver c_askedCount c_outcome c_row c_share c_leftOver) H → va_D A (w_X5_measureShares E a_ a_row a_partners a_share a_leftOver c_askedCount c_outcome c_row c_share c_leftOver) → va_S A s.heap H locs → lv_has ls 6 [(0, .ref a_), (1, .int p1), (2, .int x2), (3, .int x3), (4, .int x4)] → W p l e ({ frames := 1, cells := 0, slots := 0, locals := 23 } : Room) s m #[Value.ref a_, Value.int p1] below meth c H locs 0 0 Q (F0 m 63 ls [])))) (hF : B_X5_measureShares_23 p1 c_row x3 x4 x5 = some xx) : ∀ (H : Heap) (locs : List Loc) (ls : Array Slot), va_P E.1 vwCl (w_X5_measureShares E a_ a_row a_partners a_share a_leftOver c_askedCount c_outcome c_row c_share c_leftOver) H → va_D A (w_X5_measureShares E a_ a_row a_partners a_share a_leftOver c_askedCount c_outcome c_row c_share c_leftOver) → va_S A s.heap H locs → lv_has ls 6 [(0, .ref a_), (1, .int p1), (2, .int x2), (3, .int x3), (4, .int x4), (5, .int x5)] → W p l e ({ frames := 1, cells := 0, slots := 0, locals := 23 } : Room) s m #[Value.ref a_, Value.int p1] below meth c H locs 0 0 Q (F0 m 23 ls []) := by
  unfold B_X5_measureShares_23 at hF
  intro H locs ls hP hD hS hl
  replace hP : va_P E.1 vwCl [(a_, .inr (6, [.ref a_row, .ref a_partners, .int c_askedCount, .int c_outcome, .ref a_share, .ref a_leftOver])), (a_row, .inl (E.2.1, 81, .inl c_row)), (a_share, .inl (E.2.1, 2, .inl c_share)), (a_leftOver, .inl (E.2.1, 2, .inl c_leftOver))] H := hP
  replace hD : va_D A [(a_, .inr (6, [.ref a_row, .ref a_partners, .int c_askedCount, .int c_outcome, .ref a_share, .ref a_leftOver])), (a_row, .inl (E.2.1, 81, .inl c_row)), (a_share, .inl (E.2.1, 2, .inl c_share)), (a_leftOver, .inl (E.2.1, 2, .inl c_leftOver))] := hD
  refine lv_iload hx hb dX5_measureShares_23 (lv_at hl 5 rfl) ?_
  refine lv_aload_n hx hb dX5_measureShares_25 rfl (lv_at hl 0 rfl) ?_
  replace hF := bd1_s hF
  obtain ⟨r_5, hc_6, hF⟩ := hF
  have hPc : va_P E.1 vwCl (w_X5_sites E a_ a_row a_partners a_share a_leftOver c_askedCount c_outcome c_row) H := hP.sub (ws' := [(a_, .inr (6, [.ref a_row, .ref a_partners, .int c_askedCount, .int c_outcome, .ref a_share, .ref a_leftOver])), (a_row, .inl (E.2.1, 81, .inl c_row))]) [0, 1] rfl
  have hrc := va_recv hK hPc (ci := 6) (q0 := 0) rfl rfl
  refine pE_i (va_runV (As := []) (rest := [.int x5])  ⟨hx, hb, hml, hown, hts⟩ (f_X5_sites l E (a_ := a_) (a_row := a_row) (a_partners := a_partners) (a_share := a_share) (a_leftOver := a_leftOver) (c_askedCount := c_askedCount) (c_outcome := c_outcome) (c_row := c_row) hc_6) (cwV 0 hts g_f_X5_measureShares_f_X5_sites_45 rfl rfl rfl hd_X5_sites ⟨Nat.le_of_ble_eq_true rfl, Nat.le_of_ble_eq_true rfl⟩) ⟨pP.blind, hrc, (pP.pre ⟨hK, hN⟩ hPc)⟩ rfl rfl hl.1 rfl (lv_room (Nat.le_of_ble_eq_true rfl)) dX5_measureShares_26 ⟨Nat.le_of_ble_eq_true rfl, Nat.le_of_ble_eq_true rfl⟩) ?_
  refine lv_icmp_ge (tgt := 63) hx hb dX5_measureShares_29 (by decide) (fun c_7 => ?_) (fun c_7 => ?_)
  ·
    replace hF := ip c_7 hF
    cases hF
    exact hE x4 rfl H locs ls (hP.sub [0, 1, 2, 3] rfl) (hD.sub [0, 1, 2, 3] (by decide) rfl) hS (lv_sub hl [0, 1, 2, 3, 4] rfl)
  ·
    replace hF := inn c_7 hF
    refine lv_iload hx hb dX5_measureShares_32 (lv_at hl 4 rfl) ?_
    refine lv_iload_n hx hb dX5_measureShares_34 rfl (lv_at hl 1 rfl) ?_
    refine lv_iload hx hb dX5_measureShares_35 (lv_at hl 5 rfl) ?_
    refine lv_ishr hx hb dX5_measureShares_37 ?_
    refine lv_iconst (v := 1) hx hb dX5_measureShares_38 (by decide) ?_
    refine lv_iand hx hb dX5_measureShares_39 ?_
    refine lv_if_eq (tgt := 53) hx hb dX5_measureShares_40 (by decide) (fun c_8 => ?_) (fun c_8 => ?_)
    ·
      replace hF := ip c_8 hF
      refine lv_iconst (v := 0) hx hb dX5_measureShares_53 (by decide) ?_
      refine lv_iadd hx hb dX5_measureShares_54 ?_
      refine lv_istore (lv' := [(4, .int (x4 + (0 : Int32))), (0, .ref a_), (1, .int p1), (2, .int x2), (3, .int x3), (5, .int x5)]) hx hb dX5_measureShares_55 hl (by decide) rfl (fun ls hl => ?_)
      refine lv_iinc (v := x5 + (1 : Int32)) (lv' := [(5, .int (x5 + (1 : Int32))), (4, .int (x4 + (0 : Int32))), (0, .ref a_), (1, .int p1), (2, .int x2), (3, .int x3)]) hx hb dX5_measureShares_57 hl (k := 5) rfl (rfl) (by decide) rfl (fun ls hl => ?_)
      refine lv_goto (tgt := 23) hx hb dX5_measureShares_60 (by decide) ?_
      cases hF
      exact hC (x4 + (0 : Int32)) (x5 + (1 : Int32)) rfl H locs ls (hP.sub [0, 1, 2, 3] rfl) (hD.sub [0, 1, 2, 3] (by decide) rfl) hS (lv_sub hl [2, 3, 4, 5, 1, 0] rfl)
    ·
      replace hF := inn c_8 hF
      refine lv_aload_n hx hb dX5_measureShares_43 rfl (lv_at hl 0 rfl) ?_
      refine lv_iload hx hb dX5_measureShares_44 (lv_at hl 5 rfl) ?_
      refine lv_iload_n hx hb dX5_measureShares_46 rfl (lv_at hl 3 rfl) ?_
      replace hF := bd1_s hF
      obtain ⟨r_9, hc_10, hF⟩ := hF
      have hPc : va_P E.1 vwCl (w_X5_drift E a_ a_row a_partners a_share a_leftOver c_askedCount c_outcome c_row) H := hP.sub (ws' := [(a_, .inr (6, [.ref a_row, .ref a_partners, .int c_askedCount, .int c_outcome, .ref a_share, .ref a_leftOver])), (a_row, .inl (E.2.1, 81, .inl c_row))]) [0, 1] rfl
      have hrc := va_recv hK hPc (ci := 6) (q0 := 0) rfl rfl
      refine pE_i (va_runV (As := [.int x5, .int x3]) (rest := [.int x4])  ⟨hx, hb, hml, hown, hts⟩ (f_X5_drift l E (a_ := a_) (a_row := a_row) (a_partners := a_partners) (a_share := a_share) (a_leftOver := a_leftOver) (p1 := x5) (p2 := x3) (c_askedCount := c_askedCount) (c_outcome := c_outcome) (c_row := c_row) hc_10) (cwV 2 hts g_f_X5_measureShares_f_X5_drift_72 rfl rfl rfl hd_X5_drift ⟨Nat.le_of_ble_eq_true rfl, Nat.le_of_ble_eq_true rfl⟩) ⟨pP.blind, hrc, (pP.pre ⟨hK, hN⟩ hPc)⟩ rfl rfl hl.1 rfl (lv_room (Nat.le_of_ble_eq_true rfl)) dX5_measureShares_47 ⟨Nat.le_of_ble_eq_true rfl, Nat.le_of_ble_eq_true rfl⟩) ?_
      refine lv_goto (tgt := 54) hx hb dX5_measureShares_50 (by decide) ?_
      refine lv_iadd hx hb dX5_measureShares_54 ?_
      refine lv_istore (lv' := [(4, .int (x4 + r_9)), (0, .ref a_), (1, .int p1), (2, .int x2), (3, .int x3), (5, .int x5)]) hx hb dX5_measureShares_55 hl (by decide) rfl (fun ls hl => ?_)
      refine lv_iinc (v := x5 + (1 : Int32)) (lv' := [(5, .int (x5 + (1 : Int32))), (4, .int (x4 + r_9)), (0, .ref a_), (1, .int p1), (2, .int x2), (3, .int x3)]) hx hb dX5_measureShares_57 hl (k := 5) rfl (rfl) (by decide) rfl (fun ls hl => ?_)
      refine lv_goto (tgt := 23) hx hb dX5_measureShares_60 (by decide) ?_
      cases hF
      exact hC (x4 + r_9) (x5 + (1 : Int32)) rfl H locs ls (hP.sub [0, 1, 2, 3] rfl) (hD.sub [0, 1, 2, 3] (by decide) rfl) hS (lv_sub hl [2, 3, 4, 5, 1, 0] rfl)

set_option maxHeartbeats 4000000 in
set_option maxRecDepth 100000 in
theorem lw_X5_measureShares_23 {p : Program} (l : Launch) {e : Env} {s : State} {m : MethodId} {below : List Frame} {meth : Method} {c : Code} {Q : State → Prop} (E : EE) (K : Nat) {a_ a_row a_partners a_share a_leftOver : Nat} {p1 : Int32} {c_askedCount : Int32} {c_outcome : Int32} {c_row : Nat → Int32} {x2 : Int32} {x3 : Int32} {c_share : Nat → Int32} {c_leftOver : Nat → Int32} (hx : p.tables.exec = Jvm.exec) (hb : c.code = cX5_measureShares) (hml : c.maxLocals = 6) (hown : s.vm.findClass RX5 = some m.cls) (hts : ∀ w ∈ v_f_X5_measureShares, w.before #[Value.ref a_, Value.int p1] s = true) (hK : va_K E.1 vwCl (TY E) s) (hN : NX s) {A : Nat → Prop} (hA : ∀ q : Nat, s.heap.size ≤ q → A q) (j9 : Nat) (x4 : Int32) (x5 : Int32) (x4' : Int32) (hL : lpF (fun u9 : Int32 × Int32 => B_X5_measureShares_23 p1 c_row x3 u9.1 u9.2) j9 (x4, x5) = some x4') (hX : (∀ (H : Heap) (locs : List Loc) (ls : Array Slot), va_P E.1 vwCl (w_X5_measureShares E a_ a_row a_partners a_share a_leftOver c_askedCount c_outcome c_row c_share c_leftOver) H → va_D A (w_X5_measureShares E a_ a_row a_partners a_share a_leftOver c_askedCount c_outcome c_row c_share c_leftOver) → va_S A s.heap H locs → lv_has ls 6 [(0, .ref a_), (1, .int p1), (2, .int x2), (3, .int x3), (4, .int x4')] → W p l e ({ frames := 1, cells := 0, slots := 0, locals := 23 } : Room) s m #[Value.ref a_, Value.int p1] below meth c H locs 0 0 Q (F0 m 63 ls []))) : ∀ (H : Heap) (locs : List Loc) (ls : Array Slot), va_P E.1 vwCl (w_X5_measureShares E a_ a_row a_partners a_share a_leftOver c_askedCount c_outcome c_row c_share c_leftOver) H → va_D A (w_X5_measureShares E a_ a_row a_partners a_share a_leftOver c_askedCount c_outcome c_row c_share c_leftOver) → va_S A s.heap H locs → lv_has ls 6 [(0, .ref a_), (1, .int p1), (2, .int x2), (3, .int x3), (4, .int x4), (5, .int x5)] → W p l e ({ frames := 1, cells := 0, slots := 0, locals := 23 } : Room) s m #[Value.ref a_, Value.int p1] below meth c H locs 0 0 Q (F0 m 23 ls []) := by
  exact lp_rule (P := (fun u9 : Int32 × Int32 => ∀ (H : Heap) (locs : List Loc) (ls : Array Slot), va_P E.1 vwCl (w_X5_measureShares E a_ a_row a_partners a_share a_leftOver c_askedCount c_outcome c_row c_share c_leftOver) H → va_D A (w_X5_measureShares E a_ a_row a_partners a_share a_leftOver c_askedCount c_outcome c_row c_share c_leftOver) → va_S A s.heap H locs → lv_has ls 6 [(0, .ref a_), (1, .int p1), (2, .int x2), (3, .int x3), (4, .int u9.1), (5, .int u9.2)] → W p l e ({ frames := 1, cells := 0, slots := 0, locals := 23 } : Room) s m #[Value.ref a_, Value.int p1] below meth c H locs 0 0 Q (F0 m 23 ls []))) (R := (fun r9 : Int32 => (∀ (H : Heap) (locs : List Loc) (ls : Array Slot), va_P E.1 vwCl (w_X5_measureShares E a_ a_row a_partners a_share a_leftOver c_askedCount c_outcome c_row c_share c_leftOver) H → va_D A (w_X5_measureShares E a_ a_row a_partners a_share a_leftOver c_askedCount c_outcome c_row c_share c_leftOver) → va_S A s.heap H locs → lv_has ls 6 [(0, .ref a_), (1, .int p1), (2, .int x2), (3, .int x3), (4, .int r9)] → W p l e ({ frames := 1, cells := 0, slots := 0, locals := 23 } : Room) s m #[Value.ref a_, Value.int p1] below meth c H locs 0 0 Q (F0 m 63 ls [])))) (fun u9 xx hF hC hE => wb_X5_measureShares_23 l E K (p1 := p1) (c_askedCount := c_askedCount) (c_outcome := c_outcome) (c_row := c_row) (x2 := x2) (x3 := x3) (x4 := u9.1) (x5 := u9.2) (c_share := c_share) (c_leftOver := c_leftOver) hx hb hml hown hts hK hN hA (fun x4 x5 q9 => hC _ q9) (fun x4 q9 => hE _ q9) hF) j9 (x4, x5) x4' hL hX

set_option maxHeartbeats 4000000 in
set_option maxRecDepth 100000 in
theorem wb_X5_measureShares_12 {p : Program} (l : Launch) {e : Env} {s : State} {m : MethodId} {below : List Frame} {meth : Method} {c : Code} {Q : State → Prop} (E : EE) (K : Nat) {a_ a_row a_partners a_share a_leftOver : Nat} {p1 : Int32} {c_askedCount : Int32} {c_outcome : Int32} {c_row : Nat → Int32} {x2 : Int32} {x3 : Int32} {c_share : Nat → Int32} {c_leftOver : Nat → Int32} (hx : p.tables.exec = Jvm.exec) (hb : c.code = cX5_measureShares) (hml : c.maxLocals = 6) (hown : s.vm.findClass RX5 = some m.cls) (hts : ∀ w ∈ v_f_X5_measureShares, w.before #[Value.ref a_, Value.int p1] s = true) (hK : va_K E.1 vwCl (TY E) s) (hN : NX s) {A : Nat → Prop} (hA : ∀ q : Nat, s.heap.size ≤ q → A q) {xx : (Int32 × (Nat → Int32) × (Nat → Int32)) ⊕ ((Nat → Int32) × (Nat → Int32))} (hC : ∀ (x3 : Int32), ∀ (c_share : Nat → Int32), ∀ (c_leftOver : Nat → Int32), xx = .inl (x3, c_share, c_leftOver) → ∀ (H : Heap) (locs : List Loc) (ls : Array Slot), va_P E.1 vwCl (w_X5_measureShares E a_ a_row a_partners a_share a_leftOver c_askedCount c_outcome c_row c_share c_leftOver) H → va_D A (w_X5_measureShares E a_ a_row a_partners a_share a_leftOver c_askedCount c_outcome c_row c_share c_leftOver) → va_S A s.heap H locs → lv_has ls 6 [(0, .ref a_), (1, .int p1), (2, .int x2), (3, .int x3)] → W p l e ({ frames := 1, cells := 0, slots := 0, locals := 23 } : Room) s m #[Value.ref a_, Value.int p1] below meth c H locs 0 0 Q (F0 m 12 ls [])) (hE : ∀ (c_share : Nat → Int32), ∀ (c_leftOver : Nat → Int32), xx = .inr (c_share, c_leftOver) → ((∀ (H : Heap) (locs : List Loc) (ls : Array Slot), va_P E.1 vwCl (w_X5_measureShares E a_ a_row a_partners a_share a_leftOver c_askedCount c_outcome c_row c_share c_leftOver) H → va_D A (w_X5_measureShares E a_ a_row a_partners a_share a_leftOver c_askedCount c_outcome c_row c_share c_leftOver) → va_S A s.heap H locs → lv_has ls 6 [] → W p l e ({ frames := 1, cells := 0, slots := 0, locals := 23 } : Room) s m #[Value.ref a_, Value.int p1] below meth c H locs 0 0 Q (F0 m 93 ls [])))) (hF : B_X5_measureShares_12 K p1 c_row x2 x3 c_share c_leftOver = some xx) : ∀ (H : Heap) (locs : List Loc) (ls : Array Slot), va_P E.1 vwCl (w_X5_measureShares E a_ a_row a_partners a_share a_leftOver c_askedCount c_outcome c_row c_share c_leftOver) H → va_D A (w_X5_measureShares E a_ a_row a_partners a_share a_leftOver c_askedCount c_outcome c_row c_share c_leftOver) → va_S A s.heap H locs → lv_has ls 6 [(0, .ref a_), (1, .int p1), (2, .int x2), (3, .int x3)] → W p l e ({ frames := 1, cells := 0, slots := 0, locals := 23 } : Room) s m #[Value.ref a_, Value.int p1] below meth c H locs 0 0 Q (F0 m 12 ls []) := by
  unfold B_X5_measureShares_12 at hF
  intro H locs ls hP hD hS hl
  replace hP : va_P E.1 vwCl [(a_, .inr (6, [.ref a_row, .ref a_partners, .int c_askedCount, .int c_outcome, .ref a_share, .ref a_leftOver])), (a_row, .inl (E.2.1, 81, .inl c_row)), (a_share, .inl (E.2.1, 2, .inl c_share)), (a_leftOver, .inl (E.2.1, 2, .inl c_leftOver))] H := hP
  replace hD : va_D A [(a_, .inr (6, [.ref a_row, .ref a_partners, .int c_askedCount, .int c_outcome, .ref a_share, .ref a_leftOver])), (a_row, .inl (E.2.1, 81, .inl c_row)), (a_share, .inl (E.2.1, 2, .inl c_share)), (a_leftOver, .inl (E.2.1, 2, .inl c_leftOver))] := hD
  refine lv_iload_n hx hb dX5_measureShares_12 rfl (lv_at hl 3 rfl) ?_
  refine lv_iconst (v := 2) hx hb dX5_measureShares_13 (by decide) ?_
  refine lv_icmp_ge (tgt := 93) hx hb dX5_measureShares_14 (by decide) (fun c_4 => ?_) (fun c_4 => ?_)
  ·
    replace hF := ip c_4 hF
    cases hF
    exact hE c_share c_leftOver rfl H locs ls (hP.sub [0, 1, 2, 3] rfl) (hD.sub [0, 1, 2, 3] (by decide) rfl) hS (lv_sub hl [] rfl)
  ·
    replace hF := inn c_4 hF
    refine lv_iconst (v := 0) hx hb dX5_measureShares_17 (by decide) ?_
    refine lv_istore (lv' := [(4, .int (0 : Int32)), (0, .ref a_), (1, .int p1), (2, .int x2), (3, .int x3)]) hx hb dX5_measureShares_18 hl (by decide) rfl (fun ls hl => ?_)
    refine lv_iconst (v := 0) hx hb dX5_measureShares_20 (by decide) ?_
    refine lv_istore (lv' := [(5, .int (0 : Int32)), (4, .int (0 : Int32)), (0, .ref a_), (1, .int p1), (2, .int x2), (3, .int x3)]) hx hb dX5_measureShares_21 hl (by decide) rfl (fun ls hl => ?_)
    replace hF := bd1_s hF
    obtain ⟨x4_11, hL_12, hF⟩ := hF
    refine lw_X5_measureShares_23 l E K (p1 := p1) (c_askedCount := c_askedCount) (c_outcome := c_outcome) (c_row := c_row) (x2 := x2) (x3 := x3) (c_share := c_share) (c_leftOver := c_leftOver) hx hb hml hown hts hK hN hA K (0 : Int32) (0 : Int32) x4_11 hL_12 ?_ H locs ls (hP.sub [0, 1, 2, 3] rfl) (hD.sub [0, 1, 2, 3] (by decide) rfl) hS (lv_sub hl [2, 3, 4, 5, 1, 0] rfl)
    ·
      intro H locs ls hP hD hS hl
      replace hP : va_P E.1 vwCl [(a_, .inr (6, [.ref a_row, .ref a_partners, .int c_askedCount, .int c_outcome, .ref a_share, .ref a_leftOver])), (a_row, .inl (E.2.1, 81, .inl c_row)), (a_share, .inl (E.2.1, 2, .inl c_share)), (a_leftOver, .inl (E.2.1, 2, .inl c_leftOver))] H := hP
      replace hD : va_D A [(a_, .inr (6, [.ref a_row, .ref a_partners, .int c_askedCount, .int c_outcome, .ref a_share, .ref a_leftOver])), (a_row, .inl (E.2.1, 81, .inl c_row)), (a_share, .inl (E.2.1, 2, .inl c_share)), (a_leftOver, .inl (E.2.1, 2, .inl c_leftOver))] := hD
      refine lv_aload_n hx hb dX5_measureShares_63 rfl (lv_at hl 0 rfl) ?_
      refine gt_X5_4 (v := .ref a_share) hx hb hts i_f_X5_measureShares_X5 hown hK hP 0 rfl (hts (.fieldLink RX5 25 "HushWatch$State" "share" "[I") (List.mem_of_getElem? (i := 1) rfl)) rfl dX5_measureShares_64 ?_
      refine lv_iload_n hx hb dX5_measureShares_67 rfl (lv_at hl 3 rfl) ?_
      refine lv_iload hx hb dX5_measureShares_68 (lv_at hl 4 rfl) ?_
      refine lv_iload_n hx hb dX5_measureShares_70 rfl (lv_at hl 2 rfl) ?_
      replace hF := bd1_s hF
      obtain ⟨r_13, hc_14, hF⟩ := hF
      have hPc : va_P E.1 vwCl [] H := fun k q h => by simp at h
      refine pE_i (va_runS (As := [.int x4_11, .int x2]) (rest := [.int x3, .ref a_share])  ⟨hx, hb, hml, hown, hts⟩ (f_J9_floorDiv_7cf53 l E (p0 := x4_11) (p1 := x2) hc_14) (va_cwS 2 hts g_f_X5_measureShares_f_J9_floorDiv_7cf53_176 rfl rfl rfl hd_J9_floorDiv_7cf53.2 ⟨Nat.le_of_ble_eq_true rfl, Nat.le_of_ble_eq_true rfl⟩) ⟨pP.blind, (pP.pre ⟨hK, hN⟩ hPc)⟩ rfl rfl hl.1 rfl (lv_room (Nat.le_of_ble_eq_true rfl)) dX5_measureShares_71 ⟨Nat.le_of_ble_eq_true rfl, Nat.le_of_ble_eq_true rfl⟩) ?_
      replace hF := ix_s hF
      obtain ⟨hi_15, hF⟩ := hF
      refine va_iast hx hb hK hP hD hS 2 0 rfl rfl hi_15 dX5_measureShares_74 (fun H locs hP hD hS => ?_)
      replace hP : va_P E.1 vwCl [(a_, .inr (6, [.ref a_row, .ref a_partners, .int c_askedCount, .int c_outcome, .ref a_share, .ref a_leftOver])), (a_row, .inl (E.2.1, 81, .inl c_row)), (a_share, .inl (E.2.1, 2, .inl (upd c_share x3.toNatClampNeg r_13))), (a_leftOver, .inl (E.2.1, 2, .inl c_leftOver))] H := hP
      replace hD : va_D A [(a_, .inr (6, [.ref a_row, .ref a_partners, .int c_askedCount, .int c_outcome, .ref a_share, .ref a_leftOver])), (a_row, .inl (E.2.1, 81, .inl c_row)), (a_share, .inl (E.2.1, 2, .inl (upd c_share x3.toNatClampNeg r_13))), (a_leftOver, .inl (E.2.1, 2, .inl c_leftOver))] := hD
      replace hF := nm_s hF
      obtain ⟨f_16, hf_16, hF⟩ := hF
      rw [← hf_16] at hP hD
      refine lv_aload_n hx hb dX5_measureShares_75 rfl (lv_at hl 0 rfl) ?_
      refine gt_X5_5 (v := .ref a_leftOver) hx hb hts i_f_X5_measureShares_X5 hown hK hP 0 rfl (hts (.fieldLink RX5 28 "HushWatch$State" "leftOver" "[I") (List.mem_of_getElem? (i := 2) rfl)) rfl dX5_measureShares_76 ?_
      refine lv_iload_n hx hb dX5_measureShares_79 rfl (lv_at hl 3 rfl) ?_
      refine lv_iload hx hb dX5_measureShares_80 (lv_at hl 4 rfl) ?_
      refine lv_iload_n hx hb dX5_measureShares_82 rfl (lv_at hl 2 rfl) ?_
      replace hF := bd1_s hF
      obtain ⟨r_17, hc_18, hF⟩ := hF
      have hPc : va_P E.1 vwCl [] H := fun k q h => by simp at h
      refine pE_i (va_runS (As := [.int x4_11, .int x2]) (rest := [.int x3, .ref a_leftOver])  ⟨hx, hb, hml, hown, hts⟩ (f_J9_floorMod_7cf53 l E (p0 := x4_11) (p1 := x2) hc_18) (va_cwS 2 hts g_f_X5_measureShares_f_J9_floorMod_7cf53_179 rfl rfl rfl hd_J9_floorMod_7cf53.2 ⟨Nat.le_of_ble_eq_true rfl, Nat.le_of_ble_eq_true rfl⟩) ⟨pP.blind, (pP.pre ⟨hK, hN⟩ hPc)⟩ rfl rfl hl.1 rfl (lv_room (Nat.le_of_ble_eq_true rfl)) dX5_measureShares_83 ⟨Nat.le_of_ble_eq_true rfl, Nat.le_of_ble_eq_true rfl⟩) ?_
      replace hF := ix_s hF
      obtain ⟨hi_19, hF⟩ := hF
      refine va_iast hx hb hK hP hD hS 3 0 rfl rfl hi_19 dX5_measureShares_86 (fun H locs hP hD hS => ?_)
      replace hP : va_P E.1 vwCl [(a_, .inr (6, [.ref a_row, .ref a_partners, .int c_askedCount, .int c_outcome, .ref a_share, .ref a_leftOver])), (a_row, .inl (E.2.1, 81, .inl c_row)), (a_share, .inl (E.2.1, 2, .inl f_16)), (a_leftOver, .inl (E.2.1, 2, .inl (upd c_leftOver x3.toNatClampNeg r_17)))] H := hP
      replace hD : va_D A [(a_, .inr (6, [.ref a_row, .ref a_partners, .int c_askedCount, .int c_outcome, .ref a_share, .ref a_leftOver])), (a_row, .inl (E.2.1, 81, .inl c_row)), (a_share, .inl (E.2.1, 2, .inl f_16)), (a_leftOver, .inl (E.2.1, 2, .inl (upd c_leftOver x3.toNatClampNeg r_17)))] := hD
      replace hF := nm_s hF
      obtain ⟨f_20, hf_20, hF⟩ := hF
      rw [← hf_20] at hP hD
      refine lv_iinc (v := x3 + (1 : Int32)) (lv' := [(3, .int (x3 + (1 : Int32))), (0, .ref a_), (1, .int p1), (2, .int x2), (4, .int x4_11)]) hx hb dX5_measureShares_87 hl (k := 3) rfl (rfl) (by decide) rfl (fun ls hl => ?_)
      refine lv_goto (tgt := 12) hx hb dX5_measureShares_90 (by decide) ?_
      cases hF
      exact hC (x3 + (1 : Int32)) f_16 f_20 rfl H locs ls (hP.sub [0, 1, 2, 3] rfl) (hD.sub [0, 1, 2, 3] (by decide) rfl) hS (lv_sub hl [1, 2, 3, 0] rfl)

set_option maxHeartbeats 4000000 in
set_option maxRecDepth 100000 in
theorem lw_X5_measureShares_12 {p : Program} (l : Launch) {e : Env} {s : State} {m : MethodId} {below : List Frame} {meth : Method} {c : Code} {Q : State → Prop} (E : EE) (K : Nat) {a_ a_row a_partners a_share a_leftOver : Nat} {p1 : Int32} {c_askedCount : Int32} {c_outcome : Int32} {c_row : Nat → Int32} {x2 : Int32} (hx : p.tables.exec = Jvm.exec) (hb : c.code = cX5_measureShares) (hml : c.maxLocals = 6) (hown : s.vm.findClass RX5 = some m.cls) (hts : ∀ w ∈ v_f_X5_measureShares, w.before #[Value.ref a_, Value.int p1] s = true) (hK : va_K E.1 vwCl (TY E) s) (hN : NX s) {A : Nat → Prop} (hA : ∀ q : Nat, s.heap.size ≤ q → A q) (j9 : Nat) (x3 : Int32) (c_share : Nat → Int32) (c_leftOver : Nat → Int32) (c_share' : Nat → Int32) (c_leftOver' : Nat → Int32) (hL : lpF (fun u9 : Int32 × (Nat → Int32) × (Nat → Int32) => B_X5_measureShares_12 K p1 c_row x2 u9.1 u9.2.1 u9.2.2) j9 (x3, c_share, c_leftOver) = some (c_share', c_leftOver')) (hX : (∀ (H : Heap) (locs : List Loc) (ls : Array Slot), va_P E.1 vwCl (w_X5_measureShares E a_ a_row a_partners a_share a_leftOver c_askedCount c_outcome c_row c_share' c_leftOver') H → va_D A (w_X5_measureShares E a_ a_row a_partners a_share a_leftOver c_askedCount c_outcome c_row c_share' c_leftOver') → va_S A s.heap H locs → lv_has ls 6 [] → W p l e ({ frames := 1, cells := 0, slots := 0, locals := 23 } : Room) s m #[Value.ref a_, Value.int p1] below meth c H locs 0 0 Q (F0 m 93 ls []))) : ∀ (H : Heap) (locs : List Loc) (ls : Array Slot), va_P E.1 vwCl (w_X5_measureShares E a_ a_row a_partners a_share a_leftOver c_askedCount c_outcome c_row c_share c_leftOver) H → va_D A (w_X5_measureShares E a_ a_row a_partners a_share a_leftOver c_askedCount c_outcome c_row c_share c_leftOver) → va_S A s.heap H locs → lv_has ls 6 [(0, .ref a_), (1, .int p1), (2, .int x2), (3, .int x3)] → W p l e ({ frames := 1, cells := 0, slots := 0, locals := 23 } : Room) s m #[Value.ref a_, Value.int p1] below meth c H locs 0 0 Q (F0 m 12 ls []) := by
  exact lp_rule (P := (fun u9 : Int32 × (Nat → Int32) × (Nat → Int32) => ∀ (H : Heap) (locs : List Loc) (ls : Array Slot), va_P E.1 vwCl (w_X5_measureShares E a_ a_row a_partners a_share a_leftOver c_askedCount c_outcome c_row u9.2.1 u9.2.2) H → va_D A (w_X5_measureShares E a_ a_row a_partners a_share a_leftOver c_askedCount c_outcome c_row u9.2.1 u9.2.2) → va_S A s.heap H locs → lv_has ls 6 [(0, .ref a_), (1, .int p1), (2, .int x2), (3, .int u9.1)] → W p l e ({ frames := 1, cells := 0, slots := 0, locals := 23 } : Room) s m #[Value.ref a_, Value.int p1] below meth c H locs 0 0 Q (F0 m 12 ls []))) (R := (fun r9 : (Nat → Int32) × (Nat → Int32) => (∀ (H : Heap) (locs : List Loc) (ls : Array Slot), va_P E.1 vwCl (w_X5_measureShares E a_ a_row a_partners a_share a_leftOver c_askedCount c_outcome c_row r9.1 r9.2) H → va_D A (w_X5_measureShares E a_ a_row a_partners a_share a_leftOver c_askedCount c_outcome c_row r9.1 r9.2) → va_S A s.heap H locs → lv_has ls 6 [] → W p l e ({ frames := 1, cells := 0, slots := 0, locals := 23 } : Room) s m #[Value.ref a_, Value.int p1] below meth c H locs 0 0 Q (F0 m 93 ls [])))) (fun u9 xx hF hC hE => wb_X5_measureShares_12 l E K (p1 := p1) (c_askedCount := c_askedCount) (c_outcome := c_outcome) (c_row := c_row) (x2 := x2) (x3 := u9.1) (c_share := u9.2.1) (c_leftOver := u9.2.2) hx hb hml hown hts hK hN hA (fun x3 c_share c_leftOver q9 => hC _ q9) (fun c_share c_leftOver q9 => hE _ q9) hF) j9 (x3, c_share, c_leftOver) (c_share', c_leftOver') hL hX

set_option maxHeartbeats 4000000 in
set_option maxRecDepth 100000 in
theorem f_X5_measureShares (l : Launch) (E : EE) (sz : Nat) (K : Nat) {a_ a_row a_partners a_share a_leftOver : Nat} {p1 : Int32} {c_askedCount : Int32} {c_outcome : Int32} {c_row : Nat → Int32} {c_share : Nat → Int32} {c_leftOver : Nat → Int32} {n_share : Nat → Int32} {n_leftOver : Nat → Int32} (hF : F_X5_measureShares K p1 c_row c_share c_leftOver = some (n_share, n_leftOver)) : Met l yX5_measureShares v_f_X5_measureShares (({ frames := 1, cells := 0, slots := 0, locals := 23 } : Room)) (va_Pc [.ref a_, .int p1] (pW E sz (w_X5_measureShares E a_ a_row a_partners a_share a_leftOver c_askedCount c_outcome c_row c_share c_leftOver))) (va_Qv (fun (_u : Unit) => True) (fun (_u : Unit) tt => va_P E.1 vwCl (w_X5_measureShares E a_ a_row a_partners a_share a_leftOver c_askedCount c_outcome c_row n_share n_leftOver) tt.heap ∧ va_D (va_A (w_X5_measureShares E a_ a_row a_partners a_share a_leftOver c_askedCount c_outcome c_row c_share c_leftOver) sz) (w_X5_measureShares E a_ a_row a_partners a_share a_leftOver c_askedCount c_outcome c_row n_share n_leftOver)) (va_A (w_X5_measureShares E a_ a_row a_partners a_share a_leftOver c_askedCount c_outcome c_row c_share c_leftOver) sz)) 0 0 (va_A (w_X5_measureShares E a_ a_row a_partners a_share a_leftOver c_askedCount c_outcome c_row c_share c_leftOver) sz) := by
  refine Met.ofW (cc := cX5_measureShares) (maxL := 6) (ret := none) (by decide) rfl ?_
  intro p e s m args below meth c s₁ B hml hv
  obtain ⟨rfl, hsz, ⟨hK, hN⟩, hP, hD0⟩ := hv
  have hx := B.exec
  have hb := B.bytes
  have hr := B.returns
  have hts := atoms_spec (ws := v_f_X5_measureShares) B.pre
  have hown : s.vm.findClass RX5 = some m.cls := own_of hd_X5_measureShares.1 (findClass_of_methodNamed B.named)
  have hlocks : meth.locks = false := B.notSynchronized
  subst hsz
  have hD := hD0.self (sz := s.heap.size)
  generalize hAe : va_A (w_X5_measureShares E a_ a_row a_partners a_share a_leftOver c_askedCount c_outcome c_row c_share c_leftOver) s.heap.size = A at hD ⊢
  have hA : ∀ q : Nat, s.heap.size ≤ q → A q := fun q h => by rw [← hAe]; exact Or.inr h
  have hS : va_S A s.heap s.heap [] := va_S.rf
  have hl := lv_entry ([.ref a_, .int p1]) (n := 6) (Nat.le_of_ble_eq_true rfl)
  rw [lg_entry_eq]
  generalize (lg_sl ([.ref a_, .int p1]) ++ List.replicate (6 - (lg_sl ([.ref a_, .int p1])).length) Slot.unset).toArray = ls at hl ⊢
  have hl : lv_has ls 6 [(0, .ref a_), (1, .int p1)] := hl
  obtain ⟨Q, hQ⟩ : ∃ Q : State → Prop, Q = MQ below (va_Qv (fun (_u : Unit) => True) (fun (_u : Unit) tt => va_P E.1 vwCl (w_X5_measureShares E a_ a_row a_partners a_share a_leftOver c_askedCount c_outcome c_row n_share n_leftOver) tt.heap ∧ va_D A (w_X5_measureShares E a_ a_row a_partners a_share a_leftOver c_askedCount c_outcome c_row n_share n_leftOver)) A) #[Value.ref a_, Value.int p1] s 0 0 A := ⟨_, rfl⟩
  rw [← hQ]
  change W p l e ({ frames := 1, cells := 0, slots := 0, locals := 23 } : Room) s m #[Value.ref a_, Value.int p1] below meth c s.heap [] 0 0 Q (F0 m 0 ls [])
  suffices hh9 : ∀ (H : Heap) (locs : List Loc), va_P E.1 vwCl (w_X5_measureShares E a_ a_row a_partners a_share a_leftOver c_askedCount c_outcome c_row c_share c_leftOver) H → va_D A (w_X5_measureShares E a_ a_row a_partners a_share a_leftOver c_askedCount c_outcome c_row c_share c_leftOver) → va_S A s.heap H locs → W p l e ({ frames := 1, cells := 0, slots := 0, locals := 23 } : Room) s m #[Value.ref a_, Value.int p1] below meth c H locs 0 0 Q (F0 m 0 ls []) from hh9 s.heap [] hP hD hS
  clear hP hD hS
  intro H locs hP hD hS
  replace hP : va_P E.1 vwCl [(a_, .inr (6, [.ref a_row, .ref a_partners, .int c_askedCount, .int c_outcome, .ref a_share, .ref a_leftOver])), (a_row, .inl (E.2.1, 81, .inl c_row)), (a_share, .inl (E.2.1, 2, .inl c_share)), (a_leftOver, .inl (E.2.1, 2, .inl c_leftOver))] H := hP
  replace hD : va_D A [(a_, .inr (6, [.ref a_row, .ref a_partners, .int c_askedCount, .int c_outcome, .ref a_share, .ref a_leftOver])), (a_row, .inl (E.2.1, 81, .inl c_row)), (a_share, .inl (E.2.1, 2, .inl c_share)), (a_leftOver, .inl (E.2.1, 2, .inl c_leftOver))] := hD
  unfold F_X5_measureShares at hF
  refine lv_iload_n hx hb dX5_measureShares_0 rfl (lv_at hl 1 rfl) ?_
  replace hF := bd1_s hF
  obtain ⟨r_1, hc_2, hF⟩ := hF
  have hPc : va_P E.1 vwCl [] H := fun k q h => by simp at h
  refine pE_i (va_runS (As := [.int p1]) (rest := [])  ⟨hx, hb, hml, hown, hts⟩ (f_J6_bitCount_0f7a4 l E (p0 := p1) hc_2) (va_cwS 1 hts g_f_X5_measureShares_f_J6_bitCount_0f7a4_171 rfl rfl rfl hd_J6_bitCount_0f7a4.2 ⟨Nat.le_of_ble_eq_true rfl, Nat.le_of_ble_eq_true rfl⟩) ⟨pP.blind, (pP.pre ⟨hK, hN⟩ hPc)⟩ rfl rfl hl.1 rfl (lv_room (Nat.le_of_ble_eq_true rfl)) dX5_measureShares_1 ⟨Nat.le_of_ble_eq_true rfl, Nat.le_of_ble_eq_true rfl⟩) ?_
  refine lv_istore_n (lv' := [(2, .int r_1), (0, .ref a_), (1, .int p1)]) hx hb dX5_measureShares_4 rfl hl (by decide) rfl (fun ls hl => ?_)
  refine lv_iload_n hx hb dX5_measureShares_5 rfl (lv_at hl 0 rfl) ?_
  refine lv_if_ne (tgt := 10) hx hb dX5_measureShares_6 (by decide) (fun c_3 => ?_) (fun c_3 => ?_)
  ·
    replace hF := inn c_3 hF
    refine lv_iconst (v := 0) hx hb dX5_measureShares_10 (by decide) ?_
    refine lv_istore_n (lv' := [(3, .int (0 : Int32)), (2, .int r_1), (0, .ref a_), (1, .int p1)]) hx hb dX5_measureShares_11 rfl hl (by decide) rfl (fun ls hl => ?_)
    replace hF := bd2_s hF
    obtain ⟨c_share_21, c_leftOver_22, hL_23, hF⟩ := hF
    refine lw_X5_measureShares_12 l E K (p1 := p1) (c_askedCount := c_askedCount) (c_outcome := c_outcome) (c_row := c_row) (x2 := r_1) hx hb hml hown hts hK hN hA K (0 : Int32) c_share c_leftOver c_share_21 c_leftOver_22 hL_23 ?_ H locs ls (hP.sub [0, 1, 2, 3] rfl) (hD.sub [0, 1, 2, 3] (by decide) rfl) hS (lv_sub hl [2, 3, 1, 0] rfl)
    ·
      intro H locs ls hP hD hS hl
      replace hP : va_P E.1 vwCl [(a_, .inr (6, [.ref a_row, .ref a_partners, .int c_askedCount, .int c_outcome, .ref a_share, .ref a_leftOver])), (a_row, .inl (E.2.1, 81, .inl c_row)), (a_share, .inl (E.2.1, 2, .inl c_share_21)), (a_leftOver, .inl (E.2.1, 2, .inl c_leftOver_22))] H := hP
      replace hD : va_D A [(a_, .inr (6, [.ref a_row, .ref a_partners, .int c_askedCount, .int c_outcome, .ref a_share, .ref a_leftOver])), (a_row, .inl (E.2.1, 81, .inl c_row)), (a_share, .inl (E.2.1, 2, .inl c_share_21)), (a_leftOver, .inl (E.2.1, 2, .inl c_leftOver_22))] := hD
      rw [hQ]
      have h9 := fin9 (P := fun u9 : (Nat → Int32) × (Nat → Int32) => va_P E.1 vwCl (w_X5_measureShares E a_ a_row a_partners a_share a_leftOver c_askedCount c_outcome c_row u9.1 u9.2) H ∧ va_D A (w_X5_measureShares E a_ a_row a_partners a_share a_leftOver c_askedCount c_outcome c_row u9.1 u9.2)) hF ⟨hP, hD⟩
      obtain ⟨hP9, hD9⟩ := h9
      exact W.vret hx hb hr (fun tt ht hW => ⟨⟨(), rfl, trivial, ht ▸ hP9, hD9⟩, hS.F ht⟩) hS.2.2 dX5_measureShares_93
  ·
    replace hF := ip c_3 hF
    rw [hQ]
    have h9 := fin9 (P := fun u9 : (Nat → Int32) × (Nat → Int32) => va_P E.1 vwCl (w_X5_measureShares E a_ a_row a_partners a_share a_leftOver c_askedCount c_outcome c_row u9.1 u9.2) H ∧ va_D A (w_X5_measureShares E a_ a_row a_partners a_share a_leftOver c_askedCount c_outcome c_row u9.1 u9.2)) hF ⟨hP, hD⟩
    obtain ⟨hP9, hD9⟩ := h9
    exact W.vret hx hb hr (fun tt ht hW => ⟨⟨(), rfl, trivial, ht ▸ hP9, hD9⟩, hS.F ht⟩) hS.2.2 dX5_measureShares_9

def F_X5_isAbove (c_row : Nat → Int32) : Option (Int32) :=
  if c_row 6 = (0 : Int32) then some (0 : Int32) else some (1 : Int32)
abbrev w_X5_isAbove (E : EE) (a_ a_row a_partners a_share a_leftOver : Nat) (c_askedCount : Int32) (c_outcome : Int32) (c_row : Nat → Int32) : va_W := [(a_, .inr (6, [.ref a_row, .ref a_partners, .int c_askedCount, .int c_outcome, .ref a_share, .ref a_leftOver])), (a_row, .inl (E.2.1, 81, .inl c_row))]
def v_f_X5_isAbove : List Cond := .code yX5_isAbove cX5_isAbove 1 (some .boolean) :: ([.fieldLink RX5 11 "HushWatch$State" "row" "[I"] ++ (wsX50 ++ ([])))
theorem gw_f_X5_isAbove : v_f_X5_isAbove.all goodWord = true := by decide +kernel
theorem i_f_X5_isAbove_X5 : ∀ w ∈ wsX50, w ∈ v_f_X5_isAbove := fun _ h => List.mem_cons_of_mem _ (List.mem_append_right _ (List.mem_append_left _ h))
theorem hd_X5_isAbove : yX5_isAbove.cls = RX5 ∧ yX5_isAbove.cls ≠ "java/lang/invoke/MethodHandle" ∧ yX5_isAbove.cls ≠ "java/lang/invoke/VarHandle" ∧ (parseMethodDescriptor yX5_isAbove.desc).map (fun d => d.parameters.length) = some 0 := by decide +kernel
set_option maxHeartbeats 4000000 in
set_option maxRecDepth 100000 in
theorem f_X5_isAbove (l : Launch) (E : EE) {a_ a_row a_partners a_share a_leftOver : Nat} {c_askedCount : Int32} {c_outcome : Int32} {c_row : Nat → Int32} {rr : Int32} (hF : F_X5_isAbove c_row = some rr) : Met l yX5_isAbove v_f_X5_isAbove (({ frames := 0, cells := 0, slots := 0, locals := 0 } : Room)) (va_Pc [.ref a_] (pP E (w_X5_isAbove E a_ a_row a_partners a_share a_leftOver c_askedCount c_outcome c_row))) (vp_Si (fun q : Int32 => q = rr ∧ (q = 0 ∨ q = 1))) 0 0 (fun _ => False) := by
  refine Met.ofW (cc := cX5_isAbove) (maxL := 1) (ret := (some .boolean)) (by decide) rfl ?_
  intro p e s m args below meth c s₁ B hml hv
  obtain ⟨rfl, ⟨hK, hN⟩, hP⟩ := hv
  have hx := B.exec
  have hb := B.bytes
  have hr := B.returns
  have hts := atoms_spec (ws := v_f_X5_isAbove) B.pre
  have hown : s.vm.findClass RX5 = some m.cls := own_of hd_X5_isAbove.1 (findClass_of_methodNamed B.named)
  have hlocks : meth.locks = false := B.notSynchronized
  replace hP : va_P E.1 vwCl [(a_, .inr (6, [.ref a_row, .ref a_partners, .int c_askedCount, .int c_outcome, .ref a_share, .ref a_leftOver])), (a_row, .inl (E.2.1, 81, .inl c_row))] s.heap := hP
  have hl := lv_entry ([.ref a_]) (n := 1) (Nat.le_of_ble_eq_true rfl)
  rw [lg_entry_eq]
  generalize (lg_sl ([.ref a_]) ++ List.replicate (1 - (lg_sl ([.ref a_])).length) Slot.unset).toArray = ls at hl ⊢
  have hl : lv_has ls 1 [(0, .ref a_)] := hl
  obtain ⟨Q, hQ⟩ : ∃ Q : State → Prop, Q = MQ below (vp_Si (fun q : Int32 => q = rr ∧ (q = 0 ∨ q = 1))) #[Value.ref a_] s 0 0 (fun _ => False) := ⟨_, rfl⟩
  rw [← hQ]
  change W p l e ({ frames := 0, cells := 0, slots := 0, locals := 0 } : Room) s m #[Value.ref a_] below meth c s.heap [] 0 0 Q (F0 m 0 ls [])
  unfold F_X5_isAbove at hF
  refine lv_aload_n hx hb dX5_isAbove_0 rfl (lv_at hl 0 rfl) ?_
  refine gt_X5_0 (v := .ref a_row) hx hb hts i_f_X5_isAbove_X5 hown hK hP 0 rfl (hts (.fieldLink RX5 11 "HushWatch$State" "row" "[I") (List.mem_of_getElem? (i := 1) rfl)) rfl dX5_isAbove_1 ?_
  refine lv_bipush (v := 6) hx hb dX5_isAbove_4 (by decide) ?_
  refine va_iald hx hb hK hP 1 0 rfl rfl (vin rfl) dX5_isAbove_6 ?_
  refine W.eq (g2 := F0 m 7 ls [.int (c_row 6)]) rfl ?_
  refine lv_if_eq (tgt := 14) hx hb dX5_isAbove_7 (by decide) (fun c_1 => ?_) (fun c_1 => ?_)
  ·
    replace hF := ip c_1 hF
    refine lv_iconst (v := 0) hx hb dX5_isAbove_14 (by decide) ?_
    rw [hQ]
    obtain e9_0 := inj1 hF
    exact W.zret (v := (0 : Int32)) hx hb hr rfl (fun tt ht hW => ⟨_, rfl, ⟨e9_0, Or.inl rfl⟩, ht⟩) (fun _ h => by cases h) dX5_isAbove_15
  ·
    replace hF := inn c_1 hF
    refine lv_iconst (v := 1) hx hb dX5_isAbove_10 (by decide) ?_
    refine lv_goto (tgt := 15) hx hb dX5_isAbove_11 (by decide) ?_
    rw [hQ]
    obtain e9_0 := inj1 hF
    exact W.zret (v := (1 : Int32)) hx hb hr rfl (fun tt ht hW => ⟨_, rfl, ⟨e9_0, Or.inr rfl⟩, ht⟩) (fun _ h => by cases h) dX5_isAbove_15

def F_X5_isQuietDrift (p1 : Int32) (p2 : Int32) (c_row : Nat → Int32) : Option (Int32) :=
  bd1 (F_X5_isAbove c_row) (fun r_1 => if r_1 = (0 : Int32) then bd1 (F_X5_valueOf (((c_row 4) + ((c_row 3) * p1)).toInt64) (((c_row 5) + ((c_row 3) * p2)).toInt64) c_row) (fun r_5 => if (0 : Int32) ≤ lg_cmp r_5 ((c_row 1).toInt64) then some (0 : Int32) else some (1 : Int32)) else if p1 = (0 : Int32) then if p2 = (0 : Int32) then some (1 : Int32) else some (0 : Int32) else some (0 : Int32))
abbrev w_X5_isQuietDrift (E : EE) (a_ a_row a_partners a_share a_leftOver : Nat) (c_askedCount : Int32) (c_outcome : Int32) (c_row : Nat → Int32) : va_W := [(a_, .inr (6, [.ref a_row, .ref a_partners, .int c_askedCount, .int c_outcome, .ref a_share, .ref a_leftOver])), (a_row, .inl (E.2.1, 81, .inl c_row))]
def v_f_X5_isQuietDrift : List Cond := .code yX5_isQuietDrift cX5_isQuietDrift 3 (some .boolean) :: ([.fieldLink RX5 11 "HushWatch$State" "row" "[I", .methodLink RX5 83 yX5_isAbove, .instanceMethod yX5_isAbove, .selects RX5 yX5_isAbove yX5_isAbove, .initialized RX5, .methodLink RX5 75 yX5_valueOf, .instanceMethod yX5_valueOf, .selects RX5 yX5_valueOf yX5_valueOf] ++ (v_f_X5_isAbove ++ (wsX50 ++ (v_f_X5_valueOf ++ ([])))))
theorem gw_f_X5_isQuietDrift : v_f_X5_isQuietDrift.all goodWord = true := by decide +kernel
theorem i_f_X5_isQuietDrift_X5 : ∀ w ∈ wsX50, w ∈ v_f_X5_isQuietDrift := fun _ h => List.mem_cons_of_mem _ (List.mem_append_right _ (List.mem_append_right _ (List.mem_append_left _ h)))
theorem g_f_X5_isQuietDrift_f_X5_isAbove_83 : GoodIn v_f_X5_isQuietDrift (wsV RX5 83 RX5 yX5_isAbove v_f_X5_isAbove) := goodIn_app (goodIn_of _ (by decide +kernel)) (goodIn_sub (fun _ h => List.mem_cons_of_mem _ (List.mem_append_right _ (List.mem_append_left _ h))) gw_f_X5_isAbove)
theorem g_f_X5_isQuietDrift_f_X5_valueOf_75 : GoodIn v_f_X5_isQuietDrift (wsV RX5 75 RX5 yX5_valueOf v_f_X5_valueOf) := goodIn_app (goodIn_of _ (by decide +kernel)) (goodIn_sub (fun _ h => List.mem_cons_of_mem _ (List.mem_append_right _ (List.mem_append_right _ (List.mem_append_right _ (List.mem_append_left _ h))))) gw_f_X5_valueOf)
theorem hd_X5_isQuietDrift : yX5_isQuietDrift.cls = RX5 ∧ yX5_isQuietDrift.cls ≠ "java/lang/invoke/MethodHandle" ∧ yX5_isQuietDrift.cls ≠ "java/lang/invoke/VarHandle" ∧ (parseMethodDescriptor yX5_isQuietDrift.desc).map (fun d => d.parameters.length) = some 2 := by decide +kernel
set_option maxHeartbeats 4000000 in
set_option maxRecDepth 100000 in
theorem f_X5_isQuietDrift (l : Launch) (E : EE) {a_ a_row a_partners a_share a_leftOver : Nat} {p1 : Int32} {p2 : Int32} {c_askedCount : Int32} {c_outcome : Int32} {c_row : Nat → Int32} {rr : Int32} (hF : F_X5_isQuietDrift p1 p2 c_row = some rr) : Met l yX5_isQuietDrift v_f_X5_isQuietDrift (({ frames := 1, cells := 0, slots := 0, locals := 28 } : Room)) (va_Pc [.ref a_, .int p1, .int p2] (pP E (w_X5_isQuietDrift E a_ a_row a_partners a_share a_leftOver c_askedCount c_outcome c_row))) (vp_Si (fun q : Int32 => q = rr ∧ (q = 0 ∨ q = 1))) 0 0 (fun _ => False) := by
  refine Met.ofW (cc := cX5_isQuietDrift) (maxL := 3) (ret := (some .boolean)) (by decide) rfl ?_
  intro p e s m args below meth c s₁ B hml hv
  obtain ⟨rfl, ⟨hK, hN⟩, hP⟩ := hv
  have hx := B.exec
  have hb := B.bytes
  have hr := B.returns
  have hts := atoms_spec (ws := v_f_X5_isQuietDrift) B.pre
  have hown : s.vm.findClass RX5 = some m.cls := own_of hd_X5_isQuietDrift.1 (findClass_of_methodNamed B.named)
  have hlocks : meth.locks = false := B.notSynchronized
  replace hP : va_P E.1 vwCl [(a_, .inr (6, [.ref a_row, .ref a_partners, .int c_askedCount, .int c_outcome, .ref a_share, .ref a_leftOver])), (a_row, .inl (E.2.1, 81, .inl c_row))] s.heap := hP
  have hl := lv_entry ([.ref a_, .int p1, .int p2]) (n := 3) (Nat.le_of_ble_eq_true rfl)
  rw [lg_entry_eq]
  generalize (lg_sl ([.ref a_, .int p1, .int p2]) ++ List.replicate (3 - (lg_sl ([.ref a_, .int p1, .int p2])).length) Slot.unset).toArray = ls at hl ⊢
  have hl : lv_has ls 3 [(0, .ref a_), (1, .int p1), (2, .int p2)] := hl
  obtain ⟨Q, hQ⟩ : ∃ Q : State → Prop, Q = MQ below (vp_Si (fun q : Int32 => q = rr ∧ (q = 0 ∨ q = 1))) #[Value.ref a_, Value.int p1, Value.int p2] s 0 0 (fun _ => False) := ⟨_, rfl⟩
  rw [← hQ]
  change W p l e ({ frames := 1, cells := 0, slots := 0, locals := 28 } : Room) s m #[Value.ref a_, Value.int p1, Value.int p2] below meth c s.heap [] 0 0 Q (F0 m 0 ls [])
  unfold F_X5_isQuietDrift at hF
  refine lv_aload_n hx hb dX5_isQuietDrift_0 rfl (lv_at hl 0 rfl) ?_
  replace hF := bd1_s hF
  obtain ⟨r_1, hc_2, hF⟩ := hF
  have hPc : va_P E.1 vwCl (w_X5_isAbove E a_ a_row a_partners a_share a_leftOver c_askedCount c_outcome c_row) s.heap := hP.sub (ws' := [(a_, .inr (6, [.ref a_row, .ref a_partners, .int c_askedCount, .int c_outcome, .ref a_share, .ref a_leftOver])), (a_row, .inl (E.2.1, 81, .inl c_row))]) [0, 1] rfl
  have hrc := va_recv hK hPc (ci := 6) (q0 := 0) rfl rfl
  refine pE_z (va_runV (As := []) (rest := [])  ⟨hx, hb, hml, hown, hts⟩ (f_X5_isAbove l E (a_ := a_) (a_row := a_row) (a_partners := a_partners) (a_share := a_share) (a_leftOver := a_leftOver) (c_askedCount := c_askedCount) (c_outcome := c_outcome) (c_row := c_row) hc_2) (cwV 0 hts g_f_X5_isQuietDrift_f_X5_isAbove_83 rfl rfl rfl hd_X5_isAbove ⟨Nat.le_of_ble_eq_true rfl, Nat.le_of_ble_eq_true rfl⟩) ⟨pP.blind, hrc, (pP.pre ⟨hK, hN⟩ hPc)⟩ rfl rfl hl.1 rfl (lv_room (Nat.le_of_ble_eq_true rfl)) dX5_isQuietDrift_1 ⟨Nat.le_of_ble_eq_true rfl, Nat.le_of_ble_eq_true rfl⟩) (fun hb_3 => ?_)
  refine lv_if_eq (tgt := 21) hx hb dX5_isQuietDrift_4 (by decide) (fun c_4 => ?_) (fun c_4 => ?_)
  ·
    replace hF := ip c_4 hF
    refine lv_aload_n hx hb dX5_isQuietDrift_21 rfl (lv_at hl 0 rfl) ?_
    refine lv_aload_n hx hb dX5_isQuietDrift_22 rfl (lv_at hl 0 rfl) ?_
    refine gt_X5_0 (v := .ref a_row) hx hb hts i_f_X5_isQuietDrift_X5 hown hK hP 0 rfl (hts (.fieldLink RX5 11 "HushWatch$State" "row" "[I") (List.mem_of_getElem? (i := 1) rfl)) rfl dX5_isQuietDrift_23 ?_
    refine lv_iconst (v := 4) hx hb dX5_isQuietDrift_26 (by decide) ?_
    refine va_iald hx hb hK hP 1 0 rfl rfl (vin rfl) dX5_isQuietDrift_27 ?_
    refine W.eq (g2 := F0 m 28 ls [.int (c_row 4), .ref a_]) rfl ?_
    refine lv_aload_n hx hb dX5_isQuietDrift_28 rfl (lv_at hl 0 rfl) ?_
    refine gt_X5_0 (v := .ref a_row) hx hb hts i_f_X5_isQuietDrift_X5 hown hK hP 0 rfl (hts (.fieldLink RX5 11 "HushWatch$State" "row" "[I") (List.mem_of_getElem? (i := 1) rfl)) rfl dX5_isQuietDrift_29 ?_
    refine lv_iconst (v := 3) hx hb dX5_isQuietDrift_32 (by decide) ?_
    refine va_iald hx hb hK hP 1 0 rfl rfl (vin rfl) dX5_isQuietDrift_33 ?_
    refine W.eq (g2 := F0 m 34 ls [.int (c_row 3), .int (c_row 4), .ref a_]) rfl ?_
    refine lv_iload_n hx hb dX5_isQuietDrift_34 rfl (lv_at hl 1 rfl) ?_
    refine lv_imul hx hb dX5_isQuietDrift_35 ?_
    refine lv_iadd hx hb dX5_isQuietDrift_36 ?_
    refine lv_i2l (v := ((c_row 4) + ((c_row 3) * p1)).toInt64) hx hb dX5_isQuietDrift_37 rfl ?_
    refine lv_aload_n hx hb dX5_isQuietDrift_38 rfl (lv_at hl 0 rfl) ?_
    refine gt_X5_0 (v := .ref a_row) hx hb hts i_f_X5_isQuietDrift_X5 hown hK hP 0 rfl (hts (.fieldLink RX5 11 "HushWatch$State" "row" "[I") (List.mem_of_getElem? (i := 1) rfl)) rfl dX5_isQuietDrift_39 ?_
    refine lv_iconst (v := 5) hx hb dX5_isQuietDrift_42 (by decide) ?_
    refine va_iald hx hb hK hP 1 0 rfl rfl (vin rfl) dX5_isQuietDrift_43 ?_
    refine W.eq (g2 := F0 m 44 ls [.int (c_row 5), .long (((c_row 4) + ((c_row 3) * p1)).toInt64), .ref a_]) rfl ?_
    refine lv_aload_n hx hb dX5_isQuietDrift_44 rfl (lv_at hl 0 rfl) ?_
    refine gt_X5_0 (v := .ref a_row) hx hb hts i_f_X5_isQuietDrift_X5 hown hK hP 0 rfl (hts (.fieldLink RX5 11 "HushWatch$State" "row" "[I") (List.mem_of_getElem? (i := 1) rfl)) rfl dX5_isQuietDrift_45 ?_
    refine lv_iconst (v := 3) hx hb dX5_isQuietDrift_48 (by decide) ?_
    refine va_iald hx hb hK hP 1 0 rfl rfl (vin rfl) dX5_isQuietDrift_49 ?_
    refine W.eq (g2 := F0 m 50 ls [.int (c_row 3), .int (c_row 5), .long (((c_row 4) + ((c_row 3) * p1)).toInt64), .ref a_]) rfl ?_
    refine lv_iload_n hx hb dX5_isQuietDrift_50 rfl (lv_at hl 2 rfl) ?_
    refine lv_imul hx hb dX5_isQuietDrift_51 ?_
    refine lv_iadd hx hb dX5_isQuietDrift_52 ?_
    refine lv_i2l (v := ((c_row 5) + ((c_row 3) * p2)).toInt64) hx hb dX5_isQuietDrift_53 rfl ?_
    replace hF := bd1_s hF
    obtain ⟨r_5, hc_6, hF⟩ := hF
    have hPc : va_P E.1 vwCl (w_X5_valueOf E a_ a_row a_partners a_share a_leftOver c_askedCount c_outcome c_row) s.heap := hP.sub (ws' := [(a_, .inr (6, [.ref a_row, .ref a_partners, .int c_askedCount, .int c_outcome, .ref a_share, .ref a_leftOver])), (a_row, .inl (E.2.1, 81, .inl c_row))]) [0, 1] rfl
    have hrc := va_recv hK hPc (ci := 6) (q0 := 0) rfl rfl
    refine pE_l (va_runV (As := [.long (((c_row 4) + ((c_row 3) * p1)).toInt64), .long (((c_row 5) + ((c_row 3) * p2)).toInt64)]) (rest := [])  ⟨hx, hb, hml, hown, hts⟩ (f_X5_valueOf l E (a_ := a_) (a_row := a_row) (a_partners := a_partners) (a_share := a_share) (a_leftOver := a_leftOver) (p1 := ((c_row 4) + ((c_row 3) * p1)).toInt64) (p2 := ((c_row 5) + ((c_row 3) * p2)).toInt64) (c_askedCount := c_askedCount) (c_outcome := c_outcome) (c_row := c_row) hc_6) (cwV 2 hts g_f_X5_isQuietDrift_f_X5_valueOf_75 rfl rfl rfl hd_X5_valueOf ⟨Nat.le_of_ble_eq_true rfl, Nat.le_of_ble_eq_true rfl⟩) ⟨pP.blind, hrc, (pP.pre ⟨hK, hN⟩ hPc)⟩ rfl rfl hl.1 rfl (lv_room (Nat.le_of_ble_eq_true rfl)) dX5_isQuietDrift_54 ⟨Nat.le_of_ble_eq_true rfl, Nat.le_of_ble_eq_true rfl⟩) ?_
    refine lv_aload_n hx hb dX5_isQuietDrift_57 rfl (lv_at hl 0 rfl) ?_
    refine gt_X5_0 (v := .ref a_row) hx hb hts i_f_X5_isQuietDrift_X5 hown hK hP 0 rfl (hts (.fieldLink RX5 11 "HushWatch$State" "row" "[I") (List.mem_of_getElem? (i := 1) rfl)) rfl dX5_isQuietDrift_58 ?_
    refine lv_iconst (v := 1) hx hb dX5_isQuietDrift_61 (by decide) ?_
    refine va_iald hx hb hK hP 1 0 rfl rfl (vin rfl) dX5_isQuietDrift_62 ?_
    refine W.eq (g2 := F0 m 63 ls [.int (c_row 1), .long r_5]) rfl ?_
    refine lv_i2l (v := (c_row 1).toInt64) hx hb dX5_isQuietDrift_63 rfl ?_
    refine W.lcmp hx hb dX5_isQuietDrift_64 ?_
    refine lv_if_ge (tgt := 72) hx hb dX5_isQuietDrift_65 (by decide) (fun c_7 => ?_) (fun c_7 => ?_)
    ·
      replace hF := ip c_7 hF
      refine lv_iconst (v := 0) hx hb dX5_isQuietDrift_72 (by decide) ?_
      rw [hQ]
      obtain e9_0 := inj1 hF
      exact W.zret (v := (0 : Int32)) hx hb hr rfl (fun tt ht hW => ⟨_, rfl, ⟨e9_0, Or.inl rfl⟩, ht⟩) (fun _ h => by cases h) dX5_isQuietDrift_73
    ·
      replace hF := inn c_7 hF
      refine lv_iconst (v := 1) hx hb dX5_isQuietDrift_68 (by decide) ?_
      refine lv_goto (tgt := 73) hx hb dX5_isQuietDrift_69 (by decide) ?_
      rw [hQ]
      obtain e9_0 := inj1 hF
      exact W.zret (v := (1 : Int32)) hx hb hr rfl (fun tt ht hW => ⟨_, rfl, ⟨e9_0, Or.inr rfl⟩, ht⟩) (fun _ h => by cases h) dX5_isQuietDrift_73
  ·
    replace hF := inn c_4 hF
    refine lv_iload_n hx hb dX5_isQuietDrift_7 rfl (lv_at hl 1 rfl) ?_
    refine lv_if_ne (tgt := 19) hx hb dX5_isQuietDrift_8 (by decide) (fun c_8 => ?_) (fun c_8 => ?_)
    ·
      replace hF := inn c_8 hF
      refine lv_iconst (v := 0) hx hb dX5_isQuietDrift_19 (by decide) ?_
      rw [hQ]
      obtain e9_0 := inj1 hF
      exact W.zret (v := (0 : Int32)) hx hb hr rfl (fun tt ht hW => ⟨_, rfl, ⟨e9_0, Or.inl rfl⟩, ht⟩) (fun _ h => by cases h) dX5_isQuietDrift_20
    ·
      replace hF := ip c_8 hF
      refine lv_iload_n hx hb dX5_isQuietDrift_11 rfl (lv_at hl 2 rfl) ?_
      refine lv_if_ne (tgt := 19) hx hb dX5_isQuietDrift_12 (by decide) (fun c_9 => ?_) (fun c_9 => ?_)
      ·
        replace hF := inn c_9 hF
        refine lv_iconst (v := 0) hx hb dX5_isQuietDrift_19 (by decide) ?_
        rw [hQ]
        obtain e9_0 := inj1 hF
        exact W.zret (v := (0 : Int32)) hx hb hr rfl (fun tt ht hW => ⟨_, rfl, ⟨e9_0, Or.inl rfl⟩, ht⟩) (fun _ h => by cases h) dX5_isQuietDrift_20
      ·
        replace hF := ip c_9 hF
        refine lv_iconst (v := 1) hx hb dX5_isQuietDrift_15 (by decide) ?_
        refine lv_goto (tgt := 20) hx hb dX5_isQuietDrift_16 (by decide) ?_
        rw [hQ]
        obtain e9_0 := inj1 hF
        exact W.zret (v := (1 : Int32)) hx hb hr rfl (fun tt ht hW => ⟨_, rfl, ⟨e9_0, Or.inr rfl⟩, ht⟩) (fun _ h => by cases h) dX5_isQuietDrift_20
end
-- 20.st03
section
def dl_X5_canShare_20_st03_0 : List (Nat × Instr × Nat) := [(9, .iload_n 3, 1), (10, .aload_n 0, 1), (11, .invokevirtual 45, 3), (14, .if_icmp .ge 44, 3), (17, .iload_n 1, 1), (18, .iload_n 3, 1), (19, .ishr, 1), (20, .iconst 1, 1), (21, .iand, 1), (22, .ifCond .ne 6, 3), (28, .aload_n 0, 1), (29, .aload_n 0, 1), (30, .iload_n 2, 1), (31, .iconst 0, 1), (32, .invokevirtual 168, 3), (35, .aload_n 0, 1), (36, .iload_n 2, 1), (37, .iconst 1, 1), (38, .invokevirtual 168, 3), (41, .invokevirtual 87, 3), (44, .ifCond .ne 5, 3), (49, .iinc 2 1, 3), (52, .iinc 3 1, 3), (55, .goto (-46), 3), (25, .goto 27, 3), (0, .aload_n 0, 1), (1, .iload_n 1, 1), (2, .invokevirtual 165, 3), (5, .iconst 0, 1), (6, .istore_n 2, 1), (7, .iconst 0, 1), (8, .istore_n 3, 1), (47, .iconst 0, 1), (48, .ireturn, 1), (58, .iconst 1, 1), (59, .ireturn, 1)]
set_option maxRecDepth 100000 in
theorem dall_X5_canShare_20_st03_0 : dchk cX5_canShare dl_X5_canShare_20_st03_0 = true := by decide +kernel
theorem dX5_canShare_9 : decode cX5_canShare 9 = .ok (.iload_n 3, 1) := dchk_at dall_X5_canShare_20_st03_0 (k := 0) rfl
theorem dX5_canShare_10 : decode cX5_canShare 10 = .ok (.aload_n 0, 1) := dchk_at dall_X5_canShare_20_st03_0 (k := 1) rfl
theorem dX5_canShare_11 : decode cX5_canShare 11 = .ok (.invokevirtual 45, 3) := dchk_at dall_X5_canShare_20_st03_0 (k := 2) rfl
theorem dX5_canShare_14 : decode cX5_canShare 14 = .ok (.if_icmp .ge 44, 3) := dchk_at dall_X5_canShare_20_st03_0 (k := 3) rfl
theorem dX5_canShare_17 : decode cX5_canShare 17 = .ok (.iload_n 1, 1) := dchk_at dall_X5_canShare_20_st03_0 (k := 4) rfl
theorem dX5_canShare_18 : decode cX5_canShare 18 = .ok (.iload_n 3, 1) := dchk_at dall_X5_canShare_20_st03_0 (k := 5) rfl
theorem dX5_canShare_19 : decode cX5_canShare 19 = .ok (.ishr, 1) := dchk_at dall_X5_canShare_20_st03_0 (k := 6) rfl
theorem dX5_canShare_20 : decode cX5_canShare 20 = .ok (.iconst 1, 1) := dchk_at dall_X5_canShare_20_st03_0 (k := 7) rfl
theorem dX5_canShare_21 : decode cX5_canShare 21 = .ok (.iand, 1) := dchk_at dall_X5_canShare_20_st03_0 (k := 8) rfl
theorem dX5_canShare_22 : decode cX5_canShare 22 = .ok (.ifCond .ne 6, 3) := dchk_at dall_X5_canShare_20_st03_0 (k := 9) rfl
theorem dX5_canShare_28 : decode cX5_canShare 28 = .ok (.aload_n 0, 1) := dchk_at dall_X5_canShare_20_st03_0 (k := 10) rfl
theorem dX5_canShare_29 : decode cX5_canShare 29 = .ok (.aload_n 0, 1) := dchk_at dall_X5_canShare_20_st03_0 (k := 11) rfl
theorem dX5_canShare_30 : decode cX5_canShare 30 = .ok (.iload_n 2, 1) := dchk_at dall_X5_canShare_20_st03_0 (k := 12) rfl
theorem dX5_canShare_31 : decode cX5_canShare 31 = .ok (.iconst 0, 1) := dchk_at dall_X5_canShare_20_st03_0 (k := 13) rfl
theorem dX5_canShare_32 : decode cX5_canShare 32 = .ok (.invokevirtual 168, 3) := dchk_at dall_X5_canShare_20_st03_0 (k := 14) rfl
theorem dX5_canShare_35 : decode cX5_canShare 35 = .ok (.aload_n 0, 1) := dchk_at dall_X5_canShare_20_st03_0 (k := 15) rfl
theorem dX5_canShare_36 : decode cX5_canShare 36 = .ok (.iload_n 2, 1) := dchk_at dall_X5_canShare_20_st03_0 (k := 16) rfl
theorem dX5_canShare_37 : decode cX5_canShare 37 = .ok (.iconst 1, 1) := dchk_at dall_X5_canShare_20_st03_0 (k := 17) rfl
theorem dX5_canShare_38 : decode cX5_canShare 38 = .ok (.invokevirtual 168, 3) := dchk_at dall_X5_canShare_20_st03_0 (k := 18) rfl
theorem dX5_canShare_41 : decode cX5_canShare 41 = .ok (.invokevirtual 87, 3) := dchk_at dall_X5_canShare_20_st03_0 (k := 19) rfl
theorem dX5_canShare_44 : decode cX5_canShare 44 = .ok (.ifCond .ne 5, 3) := dchk_at dall_X5_canShare_20_st03_0 (k := 20) rfl
theorem dX5_canShare_49 : decode cX5_canShare 49 = .ok (.iinc 2 1, 3) := dchk_at dall_X5_canShare_20_st03_0 (k := 21) rfl
theorem dX5_canShare_52 : decode cX5_canShare 52 = .ok (.iinc 3 1, 3) := dchk_at dall_X5_canShare_20_st03_0 (k := 22) rfl
theorem dX5_canShare_55 : decode cX5_canShare 55 = .ok (.goto (-46), 3) := dchk_at dall_X5_canShare_20_st03_0 (k := 23) rfl
theorem dX5_canShare_25 : decode cX5_canShare 25 = .ok (.goto 27, 3) := dchk_at dall_X5_canShare_20_st03_0 (k := 24) rfl
theorem dX5_canShare_0 : decode cX5_canShare 0 = .ok (.aload_n 0, 1) := dchk_at dall_X5_canShare_20_st03_0 (k := 25) rfl
theorem dX5_canShare_1 : decode cX5_canShare 1 = .ok (.iload_n 1, 1) := dchk_at dall_X5_canShare_20_st03_0 (k := 26) rfl
theorem dX5_canShare_2 : decode cX5_canShare 2 = .ok (.invokevirtual 165, 3) := dchk_at dall_X5_canShare_20_st03_0 (k := 27) rfl
theorem dX5_canShare_5 : decode cX5_canShare 5 = .ok (.iconst 0, 1) := dchk_at dall_X5_canShare_20_st03_0 (k := 28) rfl
theorem dX5_canShare_6 : decode cX5_canShare 6 = .ok (.istore_n 2, 1) := dchk_at dall_X5_canShare_20_st03_0 (k := 29) rfl
theorem dX5_canShare_7 : decode cX5_canShare 7 = .ok (.iconst 0, 1) := dchk_at dall_X5_canShare_20_st03_0 (k := 30) rfl
theorem dX5_canShare_8 : decode cX5_canShare 8 = .ok (.istore_n 3, 1) := dchk_at dall_X5_canShare_20_st03_0 (k := 31) rfl
theorem dX5_canShare_47 : decode cX5_canShare 47 = .ok (.iconst 0, 1) := dchk_at dall_X5_canShare_20_st03_0 (k := 32) rfl
theorem dX5_canShare_48 : decode cX5_canShare 48 = .ok (.ireturn, 1) := dchk_at dall_X5_canShare_20_st03_0 (k := 33) rfl
theorem dX5_canShare_58 : decode cX5_canShare 58 = .ok (.iconst 1, 1) := dchk_at dall_X5_canShare_20_st03_0 (k := 34) rfl
theorem dX5_canShare_59 : decode cX5_canShare 59 = .ok (.ireturn, 1) := dchk_at dall_X5_canShare_20_st03_0 (k := 35) rfl
def dl_X5_copyFrom_20_st03_0 : List (Nat × Instr × Nat) := [(0, .aload_n 1, 1), (1, .getfield 11, 3), (4, .iconst 0, 1), (5, .aload_n 0, 1), (6, .getfield 11, 3), (9, .iconst 0, 1), (10, .bipush 81, 2), (12, .invokestatic 63, 3), (15, .return_, 1)]
set_option maxRecDepth 100000 in
theorem dall_X5_copyFrom_20_st03_0 : dchk cX5_copyFrom dl_X5_copyFrom_20_st03_0 = true := by decide +kernel
theorem dX5_copyFrom_0 : decode cX5_copyFrom 0 = .ok (.aload_n 1, 1) := dchk_at dall_X5_copyFrom_20_st03_0 (k := 0) rfl
theorem dX5_copyFrom_1 : decode cX5_copyFrom 1 = .ok (.getfield 11, 3) := dchk_at dall_X5_copyFrom_20_st03_0 (k := 1) rfl
theorem dX5_copyFrom_4 : decode cX5_copyFrom 4 = .ok (.iconst 0, 1) := dchk_at dall_X5_copyFrom_20_st03_0 (k := 2) rfl
theorem dX5_copyFrom_5 : decode cX5_copyFrom 5 = .ok (.aload_n 0, 1) := dchk_at dall_X5_copyFrom_20_st03_0 (k := 3) rfl
theorem dX5_copyFrom_6 : decode cX5_copyFrom 6 = .ok (.getfield 11, 3) := dchk_at dall_X5_copyFrom_20_st03_0 (k := 4) rfl
theorem dX5_copyFrom_9 : decode cX5_copyFrom 9 = .ok (.iconst 0, 1) := dchk_at dall_X5_copyFrom_20_st03_0 (k := 5) rfl
theorem dX5_copyFrom_10 : decode cX5_copyFrom 10 = .ok (.bipush 81, 2) := dchk_at dall_X5_copyFrom_20_st03_0 (k := 6) rfl
theorem dX5_copyFrom_12 : decode cX5_copyFrom 12 = .ok (.invokestatic 63, 3) := dchk_at dall_X5_copyFrom_20_st03_0 (k := 7) rfl
theorem dX5_copyFrom_15 : decode cX5_copyFrom 15 = .ok (.return_, 1) := dchk_at dall_X5_copyFrom_20_st03_0 (k := 8) rfl
def dl_X5_shift_20_st03_0 : List (Nat × Instr × Nat) := [(0, .aload_n 0, 1), (1, .iload_n 1, 1), (2, .iconst 0, 1), (3, .aload_n 0, 1), (4, .iload_n 1, 1), (5, .iconst 0, 1), (6, .invokevirtual 69, 3), (9, .iload_n 2, 1), (10, .iadd, 1), (11, .invokevirtual 52, 3), (14, .aload_n 0, 1), (15, .iload_n 1, 1), (16, .iconst 1, 1), (17, .aload_n 0, 1), (18, .iload_n 1, 1), (19, .iconst 1, 1), (20, .invokevirtual 69, 3), (23, .iload_n 3, 1), (24, .iadd, 1), (25, .invokevirtual 52, 3), (28, .return_, 1)]
set_option maxRecDepth 100000 in
theorem dall_X5_shift_20_st03_0 : dchk cX5_shift dl_X5_shift_20_st03_0 = true := by decide +kernel
theorem dX5_shift_0 : decode cX5_shift 0 = .ok (.aload_n 0, 1) := dchk_at dall_X5_shift_20_st03_0 (k := 0) rfl
theorem dX5_shift_1 : decode cX5_shift 1 = .ok (.iload_n 1, 1) := dchk_at dall_X5_shift_20_st03_0 (k := 1) rfl
theorem dX5_shift_2 : decode cX5_shift 2 = .ok (.iconst 0, 1) := dchk_at dall_X5_shift_20_st03_0 (k := 2) rfl
theorem dX5_shift_3 : decode cX5_shift 3 = .ok (.aload_n 0, 1) := dchk_at dall_X5_shift_20_st03_0 (k := 3) rfl
theorem dX5_shift_4 : decode cX5_shift 4 = .ok (.iload_n 1, 1) := dchk_at dall_X5_shift_20_st03_0 (k := 4) rfl
theorem dX5_shift_5 : decode cX5_shift 5 = .ok (.iconst 0, 1) := dchk_at dall_X5_shift_20_st03_0 (k := 5) rfl
theorem dX5_shift_6 : decode cX5_shift 6 = .ok (.invokevirtual 69, 3) := dchk_at dall_X5_shift_20_st03_0 (k := 6) rfl
theorem dX5_shift_9 : decode cX5_shift 9 = .ok (.iload_n 2, 1) := dchk_at dall_X5_shift_20_st03_0 (k := 7) rfl
theorem dX5_shift_10 : decode cX5_shift 10 = .ok (.iadd, 1) := dchk_at dall_X5_shift_20_st03_0 (k := 8) rfl
theorem dX5_shift_11 : decode cX5_shift 11 = .ok (.invokevirtual 52, 3) := dchk_at dall_X5_shift_20_st03_0 (k := 9) rfl
theorem dX5_shift_14 : decode cX5_shift 14 = .ok (.aload_n 0, 1) := dchk_at dall_X5_shift_20_st03_0 (k := 10) rfl
theorem dX5_shift_15 : decode cX5_shift 15 = .ok (.iload_n 1, 1) := dchk_at dall_X5_shift_20_st03_0 (k := 11) rfl
theorem dX5_shift_16 : decode cX5_shift 16 = .ok (.iconst 1, 1) := dchk_at dall_X5_shift_20_st03_0 (k := 12) rfl
theorem dX5_shift_17 : decode cX5_shift 17 = .ok (.aload_n 0, 1) := dchk_at dall_X5_shift_20_st03_0 (k := 13) rfl
theorem dX5_shift_18 : decode cX5_shift 18 = .ok (.iload_n 1, 1) := dchk_at dall_X5_shift_20_st03_0 (k := 14) rfl
theorem dX5_shift_19 : decode cX5_shift 19 = .ok (.iconst 1, 1) := dchk_at dall_X5_shift_20_st03_0 (k := 15) rfl
theorem dX5_shift_20 : decode cX5_shift 20 = .ok (.invokevirtual 69, 3) := dchk_at dall_X5_shift_20_st03_0 (k := 16) rfl
theorem dX5_shift_23 : decode cX5_shift 23 = .ok (.iload_n 3, 1) := dchk_at dall_X5_shift_20_st03_0 (k := 17) rfl
theorem dX5_shift_24 : decode cX5_shift 24 = .ok (.iadd, 1) := dchk_at dall_X5_shift_20_st03_0 (k := 18) rfl
theorem dX5_shift_25 : decode cX5_shift 25 = .ok (.invokevirtual 52, 3) := dchk_at dall_X5_shift_20_st03_0 (k := 19) rfl
theorem dX5_shift_28 : decode cX5_shift 28 = .ok (.return_, 1) := dchk_at dall_X5_shift_20_st03_0 (k := 20) rfl
def dl_X5_isQuiet_20_st03_0 : List (Nat × Instr × Nat) := [(0, .aload_n 0, 1), (1, .aload_n 0, 1), (2, .iload_n 1, 1), (3, .iconst 0, 1), (4, .invokevirtual 72, 3), (7, .aload_n 0, 1), (8, .iload_n 1, 1), (9, .iconst 1, 1), (10, .invokevirtual 72, 3), (13, .invokevirtual 87, 3), (16, .ireturn, 1)]
set_option maxRecDepth 100000 in
theorem dall_X5_isQuiet_20_st03_0 : dchk cX5_isQuiet dl_X5_isQuiet_20_st03_0 = true := by decide +kernel
theorem dX5_isQuiet_0 : decode cX5_isQuiet 0 = .ok (.aload_n 0, 1) := dchk_at dall_X5_isQuiet_20_st03_0 (k := 0) rfl
theorem dX5_isQuiet_1 : decode cX5_isQuiet 1 = .ok (.aload_n 0, 1) := dchk_at dall_X5_isQuiet_20_st03_0 (k := 1) rfl
theorem dX5_isQuiet_2 : decode cX5_isQuiet 2 = .ok (.iload_n 1, 1) := dchk_at dall_X5_isQuiet_20_st03_0 (k := 2) rfl
theorem dX5_isQuiet_3 : decode cX5_isQuiet 3 = .ok (.iconst 0, 1) := dchk_at dall_X5_isQuiet_20_st03_0 (k := 3) rfl
theorem dX5_isQuiet_4 : decode cX5_isQuiet 4 = .ok (.invokevirtual 72, 3) := dchk_at dall_X5_isQuiet_20_st03_0 (k := 4) rfl
theorem dX5_isQuiet_7 : decode cX5_isQuiet 7 = .ok (.aload_n 0, 1) := dchk_at dall_X5_isQuiet_20_st03_0 (k := 5) rfl
theorem dX5_isQuiet_8 : decode cX5_isQuiet 8 = .ok (.iload_n 1, 1) := dchk_at dall_X5_isQuiet_20_st03_0 (k := 6) rfl
theorem dX5_isQuiet_9 : decode cX5_isQuiet 9 = .ok (.iconst 1, 1) := dchk_at dall_X5_isQuiet_20_st03_0 (k := 7) rfl
theorem dX5_isQuiet_10 : decode cX5_isQuiet 10 = .ok (.invokevirtual 72, 3) := dchk_at dall_X5_isQuiet_20_st03_0 (k := 8) rfl
theorem dX5_isQuiet_13 : decode cX5_isQuiet 13 = .ok (.invokevirtual 87, 3) := dchk_at dall_X5_isQuiet_20_st03_0 (k := 9) rfl
theorem dX5_isQuiet_16 : decode cX5_isQuiet 16 = .ok (.ireturn, 1) := dchk_at dall_X5_isQuiet_20_st03_0 (k := 10) rfl
def dl_X5_isFrozen_20_st03_0 : List (Nat × Instr × Nat) := [(0, .aload_n 0, 1), (1, .iload_n 1, 1), (2, .invokevirtual 79, 3), (5, .ifCond .eq 21, 3), (26, .iconst 0, 1), (27, .ireturn, 1), (8, .aload_n 0, 1), (9, .getfield 11, 3), (12, .bipush 7, 2), (14, .iaload, 1), (15, .iload_n 1, 1), (16, .ishr, 1), (17, .iconst 1, 1), (18, .iand, 1), (19, .ifCond .eq 7, 3), (22, .iconst 1, 1), (23, .goto 4, 3)]
set_option maxRecDepth 100000 in
theorem dall_X5_isFrozen_20_st03_0 : dchk cX5_isFrozen dl_X5_isFrozen_20_st03_0 = true := by decide +kernel
theorem dX5_isFrozen_0 : decode cX5_isFrozen 0 = .ok (.aload_n 0, 1) := dchk_at dall_X5_isFrozen_20_st03_0 (k := 0) rfl
theorem dX5_isFrozen_1 : decode cX5_isFrozen 1 = .ok (.iload_n 1, 1) := dchk_at dall_X5_isFrozen_20_st03_0 (k := 1) rfl
theorem dX5_isFrozen_2 : decode cX5_isFrozen 2 = .ok (.invokevirtual 79, 3) := dchk_at dall_X5_isFrozen_20_st03_0 (k := 2) rfl
theorem dX5_isFrozen_5 : decode cX5_isFrozen 5 = .ok (.ifCond .eq 21, 3) := dchk_at dall_X5_isFrozen_20_st03_0 (k := 3) rfl
theorem dX5_isFrozen_26 : decode cX5_isFrozen 26 = .ok (.iconst 0, 1) := dchk_at dall_X5_isFrozen_20_st03_0 (k := 4) rfl
theorem dX5_isFrozen_27 : decode cX5_isFrozen 27 = .ok (.ireturn, 1) := dchk_at dall_X5_isFrozen_20_st03_0 (k := 5) rfl
theorem dX5_isFrozen_8 : decode cX5_isFrozen 8 = .ok (.aload_n 0, 1) := dchk_at dall_X5_isFrozen_20_st03_0 (k := 6) rfl
theorem dX5_isFrozen_9 : decode cX5_isFrozen 9 = .ok (.getfield 11, 3) := dchk_at dall_X5_isFrozen_20_st03_0 (k := 7) rfl
theorem dX5_isFrozen_12 : decode cX5_isFrozen 12 = .ok (.bipush 7, 2) := dchk_at dall_X5_isFrozen_20_st03_0 (k := 8) rfl
theorem dX5_isFrozen_14 : decode cX5_isFrozen 14 = .ok (.iaload, 1) := dchk_at dall_X5_isFrozen_20_st03_0 (k := 9) rfl
theorem dX5_isFrozen_15 : decode cX5_isFrozen 15 = .ok (.iload_n 1, 1) := dchk_at dall_X5_isFrozen_20_st03_0 (k := 10) rfl
theorem dX5_isFrozen_16 : decode cX5_isFrozen 16 = .ok (.ishr, 1) := dchk_at dall_X5_isFrozen_20_st03_0 (k := 11) rfl
theorem dX5_isFrozen_17 : decode cX5_isFrozen 17 = .ok (.iconst 1, 1) := dchk_at dall_X5_isFrozen_20_st03_0 (k := 12) rfl
theorem dX5_isFrozen_18 : decode cX5_isFrozen 18 = .ok (.iand, 1) := dchk_at dall_X5_isFrozen_20_st03_0 (k := 13) rfl
theorem dX5_isFrozen_19 : decode cX5_isFrozen 19 = .ok (.ifCond .eq 7, 3) := dchk_at dall_X5_isFrozen_20_st03_0 (k := 14) rfl
theorem dX5_isFrozen_22 : decode cX5_isFrozen 22 = .ok (.iconst 1, 1) := dchk_at dall_X5_isFrozen_20_st03_0 (k := 15) rfl
theorem dX5_isFrozen_23 : decode cX5_isFrozen 23 = .ok (.goto 4, 3) := dchk_at dall_X5_isFrozen_20_st03_0 (k := 16) rfl
def dl_X5_noteAsked_20_st03_0 : List (Nat × Instr × Nat) := [(0, .aload_n 0, 1), (1, .getfield 18, 3), (4, .bipush 8, 2), (6, .if_icmp .ge 23, 3), (29, .return_, 1), (9, .aload_n 0, 1), (10, .getfield 15, 3), (13, .aload_n 0, 1), (14, .getfield 18, 3), (17, .iload_n 1, 1), (18, .iastore, 1), (19, .aload_n 0, 1), (20, .dup, 1), (21, .getfield 18, 3), (24, .iconst 1, 1), (25, .iadd, 1), (26, .putfield 18, 3)]
set_option maxRecDepth 100000 in
theorem dall_X5_noteAsked_20_st03_0 : dchk cX5_noteAsked dl_X5_noteAsked_20_st03_0 = true := by decide +kernel
theorem dX5_noteAsked_0 : decode cX5_noteAsked 0 = .ok (.aload_n 0, 1) := dchk_at dall_X5_noteAsked_20_st03_0 (k := 0) rfl
theorem dX5_noteAsked_1 : decode cX5_noteAsked 1 = .ok (.getfield 18, 3) := dchk_at dall_X5_noteAsked_20_st03_0 (k := 1) rfl
theorem dX5_noteAsked_4 : decode cX5_noteAsked 4 = .ok (.bipush 8, 2) := dchk_at dall_X5_noteAsked_20_st03_0 (k := 2) rfl
theorem dX5_noteAsked_6 : decode cX5_noteAsked 6 = .ok (.if_icmp .ge 23, 3) := dchk_at dall_X5_noteAsked_20_st03_0 (k := 3) rfl
theorem dX5_noteAsked_29 : decode cX5_noteAsked 29 = .ok (.return_, 1) := dchk_at dall_X5_noteAsked_20_st03_0 (k := 4) rfl
theorem dX5_noteAsked_9 : decode cX5_noteAsked 9 = .ok (.aload_n 0, 1) := dchk_at dall_X5_noteAsked_20_st03_0 (k := 5) rfl
theorem dX5_noteAsked_10 : decode cX5_noteAsked 10 = .ok (.getfield 15, 3) := dchk_at dall_X5_noteAsked_20_st03_0 (k := 6) rfl
theorem dX5_noteAsked_13 : decode cX5_noteAsked 13 = .ok (.aload_n 0, 1) := dchk_at dall_X5_noteAsked_20_st03_0 (k := 7) rfl
theorem dX5_noteAsked_14 : decode cX5_noteAsked 14 = .ok (.getfield 18, 3) := dchk_at dall_X5_noteAsked_20_st03_0 (k := 8) rfl
theorem dX5_noteAsked_17 : decode cX5_noteAsked 17 = .ok (.iload_n 1, 1) := dchk_at dall_X5_noteAsked_20_st03_0 (k := 9) rfl
theorem dX5_noteAsked_18 : decode cX5_noteAsked 18 = .ok (.iastore, 1) := dchk_at dall_X5_noteAsked_20_st03_0 (k := 10) rfl
theorem dX5_noteAsked_19 : decode cX5_noteAsked 19 = .ok (.aload_n 0, 1) := dchk_at dall_X5_noteAsked_20_st03_0 (k := 11) rfl
theorem dX5_noteAsked_20 : decode cX5_noteAsked 20 = .ok (.dup, 1) := dchk_at dall_X5_noteAsked_20_st03_0 (k := 12) rfl
theorem dX5_noteAsked_21 : decode cX5_noteAsked 21 = .ok (.getfield 18, 3) := dchk_at dall_X5_noteAsked_20_st03_0 (k := 13) rfl
theorem dX5_noteAsked_24 : decode cX5_noteAsked 24 = .ok (.iconst 1, 1) := dchk_at dall_X5_noteAsked_20_st03_0 (k := 14) rfl
theorem dX5_noteAsked_25 : decode cX5_noteAsked 25 = .ok (.iadd, 1) := dchk_at dall_X5_noteAsked_20_st03_0 (k := 15) rfl
theorem dX5_noteAsked_26 : decode cX5_noteAsked 26 = .ok (.putfield 18, 3) := dchk_at dall_X5_noteAsked_20_st03_0 (k := 16) rfl
def dl_X5_hearAll_20_st03_0 : List (Nat × Instr × Nat) := [(41, .istore_n 1, 1), (42, .iload_n 1, 1), (43, .aload_n 0, 1), (44, .getfield 11, 3), (47, .bipush 6, 2), (49, .iaload, 1), (50, .if_icmp .eq 14, 3), (64, .aload_n 0, 1), (65, .getfield 11, 3), (68, .bipush 6, 2), (70, .iload_n 1, 1), (71, .iastore, 1), (72, .return_, 1), (53, .aload_n 0, 1), (54, .getfield 11, 3), (57, .bipush 15, 2), (59, .dup2, 1), (60, .iaload, 1), (61, .iconst 1, 1), (62, .iadd, 1), (63, .iastore, 1), (0, .aload_n 0, 1), (1, .invokevirtual 56, 3), (4, .aload_n 0, 1), (5, .getfield 11, 3), (8, .bipush 14, 2), (10, .dup2, 1), (11, .iaload, 1), (12, .iconst 1, 1), (13, .iadd, 1), (14, .iastore, 1), (15, .aload_n 0, 1), (16, .aload_n 0, 1), (17, .getfield 11, 3), (20, .iconst 4, 1), (21, .iaload, 1), (22, .i2l, 1), (23, .aload_n 0, 1), (24, .getfield 11, 3), (27, .iconst 5, 1), (28, .iaload, 1), (29, .i2l, 1), (30, .invokevirtual 59, 3), (33, .ifCond .eq 7, 3), (40, .iconst 1, 1), (36, .iconst 0, 1), (37, .goto 4, 3)]
set_option maxRecDepth 100000 in
theorem dall_X5_hearAll_20_st03_0 : dchk cX5_hearAll dl_X5_hearAll_20_st03_0 = true := by decide +kernel
theorem dX5_hearAll_41 : decode cX5_hearAll 41 = .ok (.istore_n 1, 1) := dchk_at dall_X5_hearAll_20_st03_0 (k := 0) rfl
theorem dX5_hearAll_42 : decode cX5_hearAll 42 = .ok (.iload_n 1, 1) := dchk_at dall_X5_hearAll_20_st03_0 (k := 1) rfl
theorem dX5_hearAll_43 : decode cX5_hearAll 43 = .ok (.aload_n 0, 1) := dchk_at dall_X5_hearAll_20_st03_0 (k := 2) rfl
theorem dX5_hearAll_44 : decode cX5_hearAll 44 = .ok (.getfield 11, 3) := dchk_at dall_X5_hearAll_20_st03_0 (k := 3) rfl
theorem dX5_hearAll_47 : decode cX5_hearAll 47 = .ok (.bipush 6, 2) := dchk_at dall_X5_hearAll_20_st03_0 (k := 4) rfl
theorem dX5_hearAll_49 : decode cX5_hearAll 49 = .ok (.iaload, 1) := dchk_at dall_X5_hearAll_20_st03_0 (k := 5) rfl
theorem dX5_hearAll_50 : decode cX5_hearAll 50 = .ok (.if_icmp .eq 14, 3) := dchk_at dall_X5_hearAll_20_st03_0 (k := 6) rfl
theorem dX5_hearAll_64 : decode cX5_hearAll 64 = .ok (.aload_n 0, 1) := dchk_at dall_X5_hearAll_20_st03_0 (k := 7) rfl
theorem dX5_hearAll_65 : decode cX5_hearAll 65 = .ok (.getfield 11, 3) := dchk_at dall_X5_hearAll_20_st03_0 (k := 8) rfl
theorem dX5_hearAll_68 : decode cX5_hearAll 68 = .ok (.bipush 6, 2) := dchk_at dall_X5_hearAll_20_st03_0 (k := 9) rfl
theorem dX5_hearAll_70 : decode cX5_hearAll 70 = .ok (.iload_n 1, 1) := dchk_at dall_X5_hearAll_20_st03_0 (k := 10) rfl
theorem dX5_hearAll_71 : decode cX5_hearAll 71 = .ok (.iastore, 1) := dchk_at dall_X5_hearAll_20_st03_0 (k := 11) rfl
theorem dX5_hearAll_72 : decode cX5_hearAll 72 = .ok (.return_, 1) := dchk_at dall_X5_hearAll_20_st03_0 (k := 12) rfl
theorem dX5_hearAll_53 : decode cX5_hearAll 53 = .ok (.aload_n 0, 1) := dchk_at dall_X5_hearAll_20_st03_0 (k := 13) rfl
theorem dX5_hearAll_54 : decode cX5_hearAll 54 = .ok (.getfield 11, 3) := dchk_at dall_X5_hearAll_20_st03_0 (k := 14) rfl
theorem dX5_hearAll_57 : decode cX5_hearAll 57 = .ok (.bipush 15, 2) := dchk_at dall_X5_hearAll_20_st03_0 (k := 15) rfl
theorem dX5_hearAll_59 : decode cX5_hearAll 59 = .ok (.dup2, 1) := dchk_at dall_X5_hearAll_20_st03_0 (k := 16) rfl
theorem dX5_hearAll_60 : decode cX5_hearAll 60 = .ok (.iaload, 1) := dchk_at dall_X5_hearAll_20_st03_0 (k := 17) rfl
theorem dX5_hearAll_61 : decode cX5_hearAll 61 = .ok (.iconst 1, 1) := dchk_at dall_X5_hearAll_20_st03_0 (k := 18) rfl
theorem dX5_hearAll_62 : decode cX5_hearAll 62 = .ok (.iadd, 1) := dchk_at dall_X5_hearAll_20_st03_0 (k := 19) rfl
theorem dX5_hearAll_63 : decode cX5_hearAll 63 = .ok (.iastore, 1) := dchk_at dall_X5_hearAll_20_st03_0 (k := 20) rfl
theorem dX5_hearAll_0 : decode cX5_hearAll 0 = .ok (.aload_n 0, 1) := dchk_at dall_X5_hearAll_20_st03_0 (k := 21) rfl
theorem dX5_hearAll_1 : decode cX5_hearAll 1 = .ok (.invokevirtual 56, 3) := dchk_at dall_X5_hearAll_20_st03_0 (k := 22) rfl
theorem dX5_hearAll_4 : decode cX5_hearAll 4 = .ok (.aload_n 0, 1) := dchk_at dall_X5_hearAll_20_st03_0 (k := 23) rfl
theorem dX5_hearAll_5 : decode cX5_hearAll 5 = .ok (.getfield 11, 3) := dchk_at dall_X5_hearAll_20_st03_0 (k := 24) rfl
theorem dX5_hearAll_8 : decode cX5_hearAll 8 = .ok (.bipush 14, 2) := dchk_at dall_X5_hearAll_20_st03_0 (k := 25) rfl
theorem dX5_hearAll_10 : decode cX5_hearAll 10 = .ok (.dup2, 1) := dchk_at dall_X5_hearAll_20_st03_0 (k := 26) rfl
theorem dX5_hearAll_11 : decode cX5_hearAll 11 = .ok (.iaload, 1) := dchk_at dall_X5_hearAll_20_st03_0 (k := 27) rfl
theorem dX5_hearAll_12 : decode cX5_hearAll 12 = .ok (.iconst 1, 1) := dchk_at dall_X5_hearAll_20_st03_0 (k := 28) rfl
theorem dX5_hearAll_13 : decode cX5_hearAll 13 = .ok (.iadd, 1) := dchk_at dall_X5_hearAll_20_st03_0 (k := 29) rfl
theorem dX5_hearAll_14 : decode cX5_hearAll 14 = .ok (.iastore, 1) := dchk_at dall_X5_hearAll_20_st03_0 (k := 30) rfl
theorem dX5_hearAll_15 : decode cX5_hearAll 15 = .ok (.aload_n 0, 1) := dchk_at dall_X5_hearAll_20_st03_0 (k := 31) rfl
theorem dX5_hearAll_16 : decode cX5_hearAll 16 = .ok (.aload_n 0, 1) := dchk_at dall_X5_hearAll_20_st03_0 (k := 32) rfl
theorem dX5_hearAll_17 : decode cX5_hearAll 17 = .ok (.getfield 11, 3) := dchk_at dall_X5_hearAll_20_st03_0 (k := 33) rfl
theorem dX5_hearAll_20 : decode cX5_hearAll 20 = .ok (.iconst 4, 1) := dchk_at dall_X5_hearAll_20_st03_0 (k := 34) rfl
theorem dX5_hearAll_21 : decode cX5_hearAll 21 = .ok (.iaload, 1) := dchk_at dall_X5_hearAll_20_st03_0 (k := 35) rfl
theorem dX5_hearAll_22 : decode cX5_hearAll 22 = .ok (.i2l, 1) := dchk_at dall_X5_hearAll_20_st03_0 (k := 36) rfl
theorem dX5_hearAll_23 : decode cX5_hearAll 23 = .ok (.aload_n 0, 1) := dchk_at dall_X5_hearAll_20_st03_0 (k := 37) rfl
theorem dX5_hearAll_24 : decode cX5_hearAll 24 = .ok (.getfield 11, 3) := dchk_at dall_X5_hearAll_20_st03_0 (k := 38) rfl
theorem dX5_hearAll_27 : decode cX5_hearAll 27 = .ok (.iconst 5, 1) := dchk_at dall_X5_hearAll_20_st03_0 (k := 39) rfl
theorem dX5_hearAll_28 : decode cX5_hearAll 28 = .ok (.iaload, 1) := dchk_at dall_X5_hearAll_20_st03_0 (k := 40) rfl
theorem dX5_hearAll_29 : decode cX5_hearAll 29 = .ok (.i2l, 1) := dchk_at dall_X5_hearAll_20_st03_0 (k := 41) rfl
theorem dX5_hearAll_30 : decode cX5_hearAll 30 = .ok (.invokevirtual 59, 3) := dchk_at dall_X5_hearAll_20_st03_0 (k := 42) rfl
theorem dX5_hearAll_33 : decode cX5_hearAll 33 = .ok (.ifCond .eq 7, 3) := dchk_at dall_X5_hearAll_20_st03_0 (k := 43) rfl
theorem dX5_hearAll_40 : decode cX5_hearAll 40 = .ok (.iconst 1, 1) := dchk_at dall_X5_hearAll_20_st03_0 (k := 44) rfl
theorem dX5_hearAll_36 : decode cX5_hearAll 36 = .ok (.iconst 0, 1) := dchk_at dall_X5_hearAll_20_st03_0 (k := 45) rfl
theorem dX5_hearAll_37 : decode cX5_hearAll 37 = .ok (.goto 4, 3) := dchk_at dall_X5_hearAll_20_st03_0 (k := 46) rfl
def B_X5_canShare_9 (p1 : Int32) (c_row : Nat → Int32) (c_share : Nat → Int32) (c_leftOver : Nat → Int32) (x2 : Int32) (x3 : Int32) : Option ((Int32 × Int32) ⊕ (Nat)) :=
  bd1 (F_X5_sites c_row) (fun r_4 => if r_4 ≤ x3 then some (.inr 1) else if (p1 >>> (x3 &&& (31 : Int32))) &&& (1 : Int32) = (0 : Int32) then some (.inl (x2, x3 + (1 : Int32))) else bd1 (F_X5_shareOf x2 (0 : Int32) c_share c_leftOver) (fun r_8 => bd1 (F_X5_shareOf x2 (1 : Int32) c_share c_leftOver) (fun r_10 => bd1 (F_X5_isQuietDrift r_8 r_10 c_row) (fun r_12 => if r_12 = (0 : Int32) then some (.inr 0) else some (.inl (x2 + (1 : Int32), x3 + (1 : Int32)))))))
def F_X5_canShare (K : Nat) (p1 : Int32) (c_row : Nat → Int32) (c_share : Nat → Int32) (c_leftOver : Nat → Int32) : Option (Int32 × (Nat → Int32) × (Nat → Int32)) :=
  bd2 (F_X5_measureShares K p1 c_row c_share c_leftOver) (fun w_1 w_2 => bd1 (lpF (fun u9 : Int32 × Int32 => B_X5_canShare_9 p1 c_row w_1 w_2 u9.1 u9.2) K ((0 : Int32), (0 : Int32))) (fun t_16 => if t_16 = 0 then some ((0 : Int32), w_1, w_2) else if t_16 = 1 then some ((1 : Int32), w_1, w_2) else none))
abbrev w_X5_canShare (E : EE) (a_ a_row a_partners a_share a_leftOver : Nat) (c_askedCount : Int32) (c_outcome : Int32) (c_row : Nat → Int32) (c_share : Nat → Int32) (c_leftOver : Nat → Int32) : va_W := [(a_, .inr (6, [.ref a_row, .ref a_partners, .int c_askedCount, .int c_outcome, .ref a_share, .ref a_leftOver])), (a_row, .inl (E.2.1, 81, .inl c_row)), (a_share, .inl (E.2.1, 2, .inl c_share)), (a_leftOver, .inl (E.2.1, 2, .inl c_leftOver))]
def v_f_X5_canShare : List Cond := .code yX5_canShare cX5_canShare 4 (some .boolean) :: ([.methodLink RX5 165 yX5_measureShares, .instanceMethod yX5_measureShares, .selects RX5 yX5_measureShares yX5_measureShares, .initialized RX5, .methodLink RX5 45 yX5_sites, .instanceMethod yX5_sites, .selects RX5 yX5_sites yX5_sites, .methodLink RX5 168 yX5_shareOf, .instanceMethod yX5_shareOf, .selects RX5 yX5_shareOf yX5_shareOf, .methodLink RX5 87 yX5_isQuietDrift, .instanceMethod yX5_isQuietDrift, .selects RX5 yX5_isQuietDrift yX5_isQuietDrift] ++ (v_f_X5_measureShares ++ (v_f_X5_sites ++ (v_f_X5_shareOf ++ (v_f_X5_isQuietDrift ++ ([]))))))
theorem gw_f_X5_canShare : v_f_X5_canShare.all goodWord = true := by decide +kernel
theorem g_f_X5_canShare_f_X5_measureShares_165 : GoodIn v_f_X5_canShare (wsV RX5 165 RX5 yX5_measureShares v_f_X5_measureShares) := goodIn_app (goodIn_of _ (by decide +kernel)) (goodIn_sub (fun _ h => List.mem_cons_of_mem _ (List.mem_append_right _ (List.mem_append_left _ h))) gw_f_X5_measureShares)
theorem g_f_X5_canShare_f_X5_sites_45 : GoodIn v_f_X5_canShare (wsV RX5 45 RX5 yX5_sites v_f_X5_sites) := goodIn_app (goodIn_of _ (by decide +kernel)) (goodIn_sub (fun _ h => List.mem_cons_of_mem _ (List.mem_append_right _ (List.mem_append_right _ (List.mem_append_left _ h)))) gw_f_X5_sites)
theorem g_f_X5_canShare_f_X5_shareOf_168 : GoodIn v_f_X5_canShare (wsV RX5 168 RX5 yX5_shareOf v_f_X5_shareOf) := goodIn_app (goodIn_of _ (by decide +kernel)) (goodIn_sub (fun _ h => List.mem_cons_of_mem _ (List.mem_append_right _ (List.mem_append_right _ (List.mem_append_right _ (List.mem_append_left _ h))))) gw_f_X5_shareOf)
theorem g_f_X5_canShare_f_X5_isQuietDrift_87 : GoodIn v_f_X5_canShare (wsV RX5 87 RX5 yX5_isQuietDrift v_f_X5_isQuietDrift) := goodIn_app (goodIn_of _ (by decide +kernel)) (goodIn_sub (fun _ h => List.mem_cons_of_mem _ (List.mem_append_right _ (List.mem_append_right _ (List.mem_append_right _ (List.mem_append_right _ (List.mem_append_left _ h)))))) gw_f_X5_isQuietDrift)
theorem hd_X5_canShare : yX5_canShare.cls = RX5 ∧ yX5_canShare.cls ≠ "java/lang/invoke/MethodHandle" ∧ yX5_canShare.cls ≠ "java/lang/invoke/VarHandle" ∧ (parseMethodDescriptor yX5_canShare.desc).map (fun d => d.parameters.length) = some 1 := by decide +kernel
set_option maxHeartbeats 4000000 in
set_option maxRecDepth 100000 in
theorem wb_X5_canShare_9 {p : Program} (l : Launch) {e : Env} {s : State} {m : MethodId} {below : List Frame} {meth : Method} {c : Code} {Q : State → Prop} (E : EE) (K : Nat) {a_ a_row a_partners a_share a_leftOver : Nat} {p1 : Int32} {c_askedCount : Int32} {c_outcome : Int32} {c_row : Nat → Int32} {x2 : Int32} {x3 : Int32} {c_share : Nat → Int32} {c_leftOver : Nat → Int32} (hx : p.tables.exec = Jvm.exec) (hb : c.code = cX5_canShare) (hml : c.maxLocals = 4) (hown : s.vm.findClass RX5 = some m.cls) (hts : ∀ w ∈ v_f_X5_canShare, w.before #[Value.ref a_, Value.int p1] s = true) (hK : va_K E.1 vwCl (TY E) s) (hN : NX s) {A : Nat → Prop} (hA : ∀ q : Nat, s.heap.size ≤ q → A q) {xx : (Int32 × Int32) ⊕ (Nat)} (hC : ∀ (x2 : Int32), ∀ (x3 : Int32), xx = .inl (x2, x3) → ∀ (H : Heap) (locs : List Loc) (ls : Array Slot), va_P E.1 vwCl (w_X5_canShare E a_ a_row a_partners a_share a_leftOver c_askedCount c_outcome c_row c_share c_leftOver) H → va_D A (w_X5_canShare E a_ a_row a_partners a_share a_leftOver c_askedCount c_outcome c_row c_share c_leftOver) → va_S A s.heap H locs → lv_has ls 4 [(0, .ref a_), (1, .int p1), (2, .int x2), (3, .int x3)] → W p l e ({ frames := 2, cells := 0, slots := 0, locals := 50 } : Room) s m #[Value.ref a_, Value.int p1] below meth c H locs 0 0 Q (F0 m 9 ls [])) (hE : ∀ (t9 : Nat), xx = .inr t9 → ((t9 = 0 → ∀ (H : Heap) (locs : List Loc) (ls : Array Slot), va_P E.1 vwCl (w_X5_canShare E a_ a_row a_partners a_share a_leftOver c_askedCount c_outcome c_row c_share c_leftOver) H → va_D A (w_X5_canShare E a_ a_row a_partners a_share a_leftOver c_askedCount c_outcome c_row c_share c_leftOver) → va_S A s.heap H locs → lv_has ls 4 [] → W p l e ({ frames := 2, cells := 0, slots := 0, locals := 50 } : Room) s m #[Value.ref a_, Value.int p1] below meth c H locs 0 0 Q (F0 m 47 ls [])) ∧ (t9 = 1 → ∀ (H : Heap) (locs : List Loc) (ls : Array Slot), va_P E.1 vwCl (w_X5_canShare E a_ a_row a_partners a_share a_leftOver c_askedCount c_outcome c_row c_share c_leftOver) H → va_D A (w_X5_canShare E a_ a_row a_partners a_share a_leftOver c_askedCount c_outcome c_row c_share c_leftOver) → va_S A s.heap H locs → lv_has ls 4 [] → W p l e ({ frames := 2, cells := 0, slots := 0, locals := 50 } : Room) s m #[Value.ref a_, Value.int p1] below meth c H locs 0 0 Q (F0 m 58 ls [])))) (hF : B_X5_canShare_9 p1 c_row c_share c_leftOver x2 x3 = some xx) : ∀ (H : Heap) (locs : List Loc) (ls : Array Slot), va_P E.1 vwCl (w_X5_canShare E a_ a_row a_partners a_share a_leftOver c_askedCount c_outcome c_row c_share c_leftOver) H → va_D A (w_X5_canShare E a_ a_row a_partners a_share a_leftOver c_askedCount c_outcome c_row c_share c_leftOver) → va_S A s.heap H locs → lv_has ls 4 [(0, .ref a_), (1, .int p1), (2, .int x2), (3, .int x3)] → W p l e ({ frames := 2, cells := 0, slots := 0, locals := 50 } : Room) s m #[Value.ref a_, Value.int p1] below meth c H locs 0 0 Q (F0 m 9 ls []) := by
  unfold B_X5_canShare_9 at hF
  intro H locs ls hP hD hS hl
  replace hP : va_P E.1 vwCl [(a_, .inr (6, [.ref a_row, .ref a_partners, .int c_askedCount, .int c_outcome, .ref a_share, .ref a_leftOver])), (a_row, .inl (E.2.1, 81, .inl c_row)), (a_share, .inl (E.2.1, 2, .inl c_share)), (a_leftOver, .inl (E.2.1, 2, .inl c_leftOver))] H := hP
  replace hD : va_D A [(a_, .inr (6, [.ref a_row, .ref a_partners, .int c_askedCount, .int c_outcome, .ref a_share, .ref a_leftOver])), (a_row, .inl (E.2.1, 81, .inl c_row)), (a_share, .inl (E.2.1, 2, .inl c_share)), (a_leftOver, .inl (E.2.1, 2, .inl c_leftOver))] := hD
  refine lv_iload_n hx hb dX5_canShare_9 rfl (lv_at hl 3 rfl) ?_
  refine lv_aload_n hx hb dX5_canShare_10 rfl (lv_at hl 0 rfl) ?_
  replace hF := bd1_s hF
  obtain ⟨r_4, hc_5, hF⟩ := hF
  have hPc : va_P E.1 vwCl (w_X5_sites E a_ a_row a_partners a_share a_leftOver c_askedCount c_outcome c_row) H := hP.sub (ws' := [(a_, .inr (6, [.ref a_row, .ref a_partners, .int c_askedCount, .int c_outcome, .ref a_share, .ref a_leftOver])), (a_row, .inl (E.2.1, 81, .inl c_row))]) [0, 1] rfl
  have hrc := va_recv hK hPc (ci := 6) (q0 := 0) rfl rfl
  refine pE_i (va_runV (As := []) (rest := [.int x3])  ⟨hx, hb, hml, hown, hts⟩ (f_X5_sites l E (a_ := a_) (a_row := a_row) (a_partners := a_partners) (a_share := a_share) (a_leftOver := a_leftOver) (c_askedCount := c_askedCount) (c_outcome := c_outcome) (c_row := c_row) hc_5) (cwV 0 hts g_f_X5_canShare_f_X5_sites_45 rfl rfl rfl hd_X5_sites ⟨Nat.le_of_ble_eq_true rfl, Nat.le_of_ble_eq_true rfl⟩) ⟨pP.blind, hrc, (pP.pre ⟨hK, hN⟩ hPc)⟩ rfl rfl hl.1 rfl (lv_room (Nat.le_of_ble_eq_true rfl)) dX5_canShare_11 ⟨Nat.le_of_ble_eq_true rfl, Nat.le_of_ble_eq_true rfl⟩) ?_
  refine lv_icmp_ge (tgt := 58) hx hb dX5_canShare_14 (by decide) (fun c_6 => ?_) (fun c_6 => ?_)
  ·
    replace hF := ip c_6 hF
    cases hF
    exact (hE 1  rfl).2 rfl H locs ls (hP.sub [0, 1, 2, 3] rfl) (hD.sub [0, 1, 2, 3] (by decide) rfl) hS (lv_sub hl [] rfl)
  ·
    replace hF := inn c_6 hF
    refine lv_iload_n hx hb dX5_canShare_17 rfl (lv_at hl 1 rfl) ?_
    refine lv_iload_n hx hb dX5_canShare_18 rfl (lv_at hl 3 rfl) ?_
    refine lv_ishr hx hb dX5_canShare_19 ?_
    refine lv_iconst (v := 1) hx hb dX5_canShare_20 (by decide) ?_
    refine lv_iand hx hb dX5_canShare_21 ?_
    refine lv_if_ne (tgt := 28) hx hb dX5_canShare_22 (by decide) (fun c_7 => ?_) (fun c_7 => ?_)
    ·
      replace hF := inn c_7 hF
      refine lv_aload_n hx hb dX5_canShare_28 rfl (lv_at hl 0 rfl) ?_
      refine lv_aload_n hx hb dX5_canShare_29 rfl (lv_at hl 0 rfl) ?_
      refine lv_iload_n hx hb dX5_canShare_30 rfl (lv_at hl 2 rfl) ?_
      refine lv_iconst (v := 0) hx hb dX5_canShare_31 (by decide) ?_
      replace hF := bd1_s hF
      obtain ⟨r_8, hc_9, hF⟩ := hF
      have hPc : va_P E.1 vwCl (w_X5_shareOf E a_ a_row a_partners a_share a_leftOver c_askedCount c_outcome c_share c_leftOver) H := hP.sub (ws' := [(a_, .inr (6, [.ref a_row, .ref a_partners, .int c_askedCount, .int c_outcome, .ref a_share, .ref a_leftOver])), (a_share, .inl (E.2.1, 2, .inl c_share)), (a_leftOver, .inl (E.2.1, 2, .inl c_leftOver))]) [0, 2, 3] rfl
      have hrc := va_recv hK hPc (ci := 6) (q0 := 0) rfl rfl
      refine pE_i (va_runV (As := [.int x2, .int (0 : Int32)]) (rest := [.ref a_])  ⟨hx, hb, hml, hown, hts⟩ (f_X5_shareOf l E (a_ := a_) (a_row := a_row) (a_partners := a_partners) (a_share := a_share) (a_leftOver := a_leftOver) (p1 := x2) (p2 := (0 : Int32)) (c_askedCount := c_askedCount) (c_outcome := c_outcome) (c_share := c_share) (c_leftOver := c_leftOver) hc_9) (cwV 2 hts g_f_X5_canShare_f_X5_shareOf_168 rfl rfl rfl hd_X5_shareOf ⟨Nat.le_of_ble_eq_true rfl, Nat.le_of_ble_eq_true rfl⟩) ⟨pP.blind, hrc, (pP.pre ⟨hK, hN⟩ hPc)⟩ rfl rfl hl.1 rfl (lv_room (Nat.le_of_ble_eq_true rfl)) dX5_canShare_32 ⟨Nat.le_of_ble_eq_true rfl, Nat.le_of_ble_eq_true rfl⟩) ?_
      refine lv_aload_n hx hb dX5_canShare_35 rfl (lv_at hl 0 rfl) ?_
      refine lv_iload_n hx hb dX5_canShare_36 rfl (lv_at hl 2 rfl) ?_
      refine lv_iconst (v := 1) hx hb dX5_canShare_37 (by decide) ?_
      replace hF := bd1_s hF
      obtain ⟨r_10, hc_11, hF⟩ := hF
      have hPc : va_P E.1 vwCl (w_X5_shareOf E a_ a_row a_partners a_share a_leftOver c_askedCount c_outcome c_share c_leftOver) H := hP.sub (ws' := [(a_, .inr (6, [.ref a_row, .ref a_partners, .int c_askedCount, .int c_outcome, .ref a_share, .ref a_leftOver])), (a_share, .inl (E.2.1, 2, .inl c_share)), (a_leftOver, .inl (E.2.1, 2, .inl c_leftOver))]) [0, 2, 3] rfl
      have hrc := va_recv hK hPc (ci := 6) (q0 := 0) rfl rfl
      refine pE_i (va_runV (As := [.int x2, .int (1 : Int32)]) (rest := [.int r_8, .ref a_])  ⟨hx, hb, hml, hown, hts⟩ (f_X5_shareOf l E (a_ := a_) (a_row := a_row) (a_partners := a_partners) (a_share := a_share) (a_leftOver := a_leftOver) (p1 := x2) (p2 := (1 : Int32)) (c_askedCount := c_askedCount) (c_outcome := c_outcome) (c_share := c_share) (c_leftOver := c_leftOver) hc_11) (cwV 2 hts g_f_X5_canShare_f_X5_shareOf_168 rfl rfl rfl hd_X5_shareOf ⟨Nat.le_of_ble_eq_true rfl, Nat.le_of_ble_eq_true rfl⟩) ⟨pP.blind, hrc, (pP.pre ⟨hK, hN⟩ hPc)⟩ rfl rfl hl.1 rfl (lv_room (Nat.le_of_ble_eq_true rfl)) dX5_canShare_38 ⟨Nat.le_of_ble_eq_true rfl, Nat.le_of_ble_eq_true rfl⟩) ?_
      replace hF := bd1_s hF
      obtain ⟨r_12, hc_13, hF⟩ := hF
      have hPc : va_P E.1 vwCl (w_X5_isQuietDrift E a_ a_row a_partners a_share a_leftOver c_askedCount c_outcome c_row) H := hP.sub (ws' := [(a_, .inr (6, [.ref a_row, .ref a_partners, .int c_askedCount, .int c_outcome, .ref a_share, .ref a_leftOver])), (a_row, .inl (E.2.1, 81, .inl c_row))]) [0, 1] rfl
      have hrc := va_recv hK hPc (ci := 6) (q0 := 0) rfl rfl
      refine pE_z (va_runV (As := [.int r_8, .int r_10]) (rest := [])  ⟨hx, hb, hml, hown, hts⟩ (f_X5_isQuietDrift l E (a_ := a_) (a_row := a_row) (a_partners := a_partners) (a_share := a_share) (a_leftOver := a_leftOver) (p1 := r_8) (p2 := r_10) (c_askedCount := c_askedCount) (c_outcome := c_outcome) (c_row := c_row) hc_13) (cwV 2 hts g_f_X5_canShare_f_X5_isQuietDrift_87 rfl rfl rfl hd_X5_isQuietDrift ⟨Nat.le_of_ble_eq_true rfl, Nat.le_of_ble_eq_true rfl⟩) ⟨pP.blind, hrc, (pP.pre ⟨hK, hN⟩ hPc)⟩ rfl rfl hl.1 rfl (lv_room (Nat.le_of_ble_eq_true rfl)) dX5_canShare_41 ⟨Nat.le_of_ble_eq_true rfl, Nat.le_of_ble_eq_true rfl⟩) (fun hb_14 => ?_)
      refine lv_if_ne (tgt := 49) hx hb dX5_canShare_44 (by decide) (fun c_15 => ?_) (fun c_15 => ?_)
      ·
        replace hF := inn c_15 hF
        refine lv_iinc (v := x2 + (1 : Int32)) (lv' := [(2, .int (x2 + (1 : Int32))), (0, .ref a_), (1, .int p1), (3, .int x3)]) hx hb dX5_canShare_49 hl (k := 2) rfl (rfl) (by decide) rfl (fun ls hl => ?_)
        refine lv_iinc (v := x3 + (1 : Int32)) (lv' := [(3, .int (x3 + (1 : Int32))), (2, .int (x2 + (1 : Int32))), (0, .ref a_), (1, .int p1)]) hx hb dX5_canShare_52 hl (k := 3) rfl (rfl) (by decide) rfl (fun ls hl => ?_)
        refine lv_goto (tgt := 9) hx hb dX5_canShare_55 (by decide) ?_
        cases hF
        exact hC (x2 + (1 : Int32)) (x3 + (1 : Int32)) rfl H locs ls (hP.sub [0, 1, 2, 3] rfl) (hD.sub [0, 1, 2, 3] (by decide) rfl) hS (lv_sub hl [2, 3, 1, 0] rfl)
      ·
        replace hF := ip c_15 hF
        cases hF
        exact (hE 0  rfl).1 rfl H locs ls (hP.sub [0, 1, 2, 3] rfl) (hD.sub [0, 1, 2, 3] (by decide) rfl) hS (lv_sub hl [] rfl)
    ·
      replace hF := ip c_7 hF
      refine lv_goto (tgt := 52) hx hb dX5_canShare_25 (by decide) ?_
      refine lv_iinc (v := x3 + (1 : Int32)) (lv' := [(3, .int (x3 + (1 : Int32))), (0, .ref a_), (1, .int p1), (2, .int x2)]) hx hb dX5_canShare_52 hl (k := 3) rfl (rfl) (by decide) rfl (fun ls hl => ?_)
      refine lv_goto (tgt := 9) hx hb dX5_canShare_55 (by decide) ?_
      cases hF
      exact hC x2 (x3 + (1 : Int32)) rfl H locs ls (hP.sub [0, 1, 2, 3] rfl) (hD.sub [0, 1, 2, 3] (by decide) rfl) hS (lv_sub hl [1, 2, 3, 0] rfl)

set_option maxHeartbeats 4000000 in
set_option maxRecDepth 100000 in
theorem lw_X5_canShare_9 {p : Program} (l : Launch) {e : Env} {s : State} {m : MethodId} {below : List Frame} {meth : Method} {c : Code} {Q : State → Prop} (E : EE) (K : Nat) {a_ a_row a_partners a_share a_leftOver : Nat} {p1 : Int32} {c_askedCount : Int32} {c_outcome : Int32} {c_row : Nat → Int32} {c_share : Nat → Int32} {c_leftOver : Nat → Int32} (hx : p.tables.exec = Jvm.exec) (hb : c.code = cX5_canShare) (hml : c.maxLocals = 4) (hown : s.vm.findClass RX5 = some m.cls) (hts : ∀ w ∈ v_f_X5_canShare, w.before #[Value.ref a_, Value.int p1] s = true) (hK : va_K E.1 vwCl (TY E) s) (hN : NX s) {A : Nat → Prop} (hA : ∀ q : Nat, s.heap.size ≤ q → A q) (j9 : Nat) (x2 : Int32) (x3 : Int32) (t9' : Nat) (hL : lpF (fun u9 : Int32 × Int32 => B_X5_canShare_9 p1 c_row c_share c_leftOver u9.1 u9.2) j9 (x2, x3) = some t9') (hX : (t9' = 0 → ∀ (H : Heap) (locs : List Loc) (ls : Array Slot), va_P E.1 vwCl (w_X5_canShare E a_ a_row a_partners a_share a_leftOver c_askedCount c_outcome c_row c_share c_leftOver) H → va_D A (w_X5_canShare E a_ a_row a_partners a_share a_leftOver c_askedCount c_outcome c_row c_share c_leftOver) → va_S A s.heap H locs → lv_has ls 4 [] → W p l e ({ frames := 2, cells := 0, slots := 0, locals := 50 } : Room) s m #[Value.ref a_, Value.int p1] below meth c H locs 0 0 Q (F0 m 47 ls [])) ∧ (t9' = 1 → ∀ (H : Heap) (locs : List Loc) (ls : Array Slot), va_P E.1 vwCl (w_X5_canShare E a_ a_row a_partners a_share a_leftOver c_askedCount c_outcome c_row c_share c_leftOver) H → va_D A (w_X5_canShare E a_ a_row a_partners a_share a_leftOver c_askedCount c_outcome c_row c_share c_leftOver) → va_S A s.heap H locs → lv_has ls 4 [] → W p l e ({ frames := 2, cells := 0, slots := 0, locals := 50 } : Room) s m #[Value.ref a_, Value.int p1] below meth c H locs 0 0 Q (F0 m 58 ls []))) : ∀ (H : Heap) (locs : List Loc) (ls : Array Slot), va_P E.1 vwCl (w_X5_canShare E a_ a_row a_partners a_share a_leftOver c_askedCount c_outcome c_row c_share c_leftOver) H → va_D A (w_X5_canShare E a_ a_row a_partners a_share a_leftOver c_askedCount c_outcome c_row c_share c_leftOver) → va_S A s.heap H locs → lv_has ls 4 [(0, .ref a_), (1, .int p1), (2, .int x2), (3, .int x3)] → W p l e ({ frames := 2, cells := 0, slots := 0, locals := 50 } : Room) s m #[Value.ref a_, Value.int p1] below meth c H locs 0 0 Q (F0 m 9 ls []) := by
  exact lp_rule (P := (fun u9 : Int32 × Int32 => ∀ (H : Heap) (locs : List Loc) (ls : Array Slot), va_P E.1 vwCl (w_X5_canShare E a_ a_row a_partners a_share a_leftOver c_askedCount c_outcome c_row c_share c_leftOver) H → va_D A (w_X5_canShare E a_ a_row a_partners a_share a_leftOver c_askedCount c_outcome c_row c_share c_leftOver) → va_S A s.heap H locs → lv_has ls 4 [(0, .ref a_), (1, .int p1), (2, .int u9.1), (3, .int u9.2)] → W p l e ({ frames := 2, cells := 0, slots := 0, locals := 50 } : Room) s m #[Value.ref a_, Value.int p1] below meth c H locs 0 0 Q (F0 m 9 ls []))) (R := (fun r9 : Nat => (r9 = 0 → ∀ (H : Heap) (locs : List Loc) (ls : Array Slot), va_P E.1 vwCl (w_X5_canShare E a_ a_row a_partners a_share a_leftOver c_askedCount c_outcome c_row c_share c_leftOver) H → va_D A (w_X5_canShare E a_ a_row a_partners a_share a_leftOver c_askedCount c_outcome c_row c_share c_leftOver) → va_S A s.heap H locs → lv_has ls 4 [] → W p l e ({ frames := 2, cells := 0, slots := 0, locals := 50 } : Room) s m #[Value.ref a_, Value.int p1] below meth c H locs 0 0 Q (F0 m 47 ls [])) ∧ (r9 = 1 → ∀ (H : Heap) (locs : List Loc) (ls : Array Slot), va_P E.1 vwCl (w_X5_canShare E a_ a_row a_partners a_share a_leftOver c_askedCount c_outcome c_row c_share c_leftOver) H → va_D A (w_X5_canShare E a_ a_row a_partners a_share a_leftOver c_askedCount c_outcome c_row c_share c_leftOver) → va_S A s.heap H locs → lv_has ls 4 [] → W p l e ({ frames := 2, cells := 0, slots := 0, locals := 50 } : Room) s m #[Value.ref a_, Value.int p1] below meth c H locs 0 0 Q (F0 m 58 ls [])))) (fun u9 xx hF hC hE => wb_X5_canShare_9 l E K (p1 := p1) (c_askedCount := c_askedCount) (c_outcome := c_outcome) (c_row := c_row) (x2 := u9.1) (x3 := u9.2) (c_share := c_share) (c_leftOver := c_leftOver) hx hb hml hown hts hK hN hA (fun x2 x3 q9 => hC _ q9) (fun t9 q9 => hE _ q9) hF) j9 (x2, x3) t9' hL hX

set_option maxHeartbeats 4000000 in
set_option maxRecDepth 100000 in
theorem f_X5_canShare (l : Launch) (E : EE) (sz : Nat) (K : Nat) {a_ a_row a_partners a_share a_leftOver : Nat} {p1 : Int32} {c_askedCount : Int32} {c_outcome : Int32} {c_row : Nat → Int32} {c_share : Nat → Int32} {c_leftOver : Nat → Int32} {rr : Int32} {n_share : Nat → Int32} {n_leftOver : Nat → Int32} (hF : F_X5_canShare K p1 c_row c_share c_leftOver = some (rr, n_share, n_leftOver)) : Met l yX5_canShare v_f_X5_canShare (({ frames := 2, cells := 0, slots := 0, locals := 50 } : Room)) (va_Pc [.ref a_, .int p1] (pW E sz (w_X5_canShare E a_ a_row a_partners a_share a_leftOver c_askedCount c_outcome c_row c_share c_leftOver))) (va_Qi (fun (q : Int32) (_u : Unit) => q = rr ∧ (q = 0 ∨ q = 1)) (fun (_u : Unit) tt => va_P E.1 vwCl (w_X5_canShare E a_ a_row a_partners a_share a_leftOver c_askedCount c_outcome c_row n_share n_leftOver) tt.heap ∧ va_D (va_A (w_X5_canShare E a_ a_row a_partners a_share a_leftOver c_askedCount c_outcome c_row c_share c_leftOver) sz) (w_X5_canShare E a_ a_row a_partners a_share a_leftOver c_askedCount c_outcome c_row n_share n_leftOver)) (va_A (w_X5_canShare E a_ a_row a_partners a_share a_leftOver c_askedCount c_outcome c_row c_share c_leftOver) sz)) 0 0 (va_A (w_X5_canShare E a_ a_row a_partners a_share a_leftOver c_askedCount c_outcome c_row c_share c_leftOver) sz) := by
  refine Met.ofW (cc := cX5_canShare) (maxL := 4) (ret := (some .boolean)) (by decide) rfl ?_
  intro p e s m args below meth c s₁ B hml hv
  obtain ⟨rfl, hsz, ⟨hK, hN⟩, hP, hD0⟩ := hv
  have hx := B.exec
  have hb := B.bytes
  have hr := B.returns
  have hts := atoms_spec (ws := v_f_X5_canShare) B.pre
  have hown : s.vm.findClass RX5 = some m.cls := own_of hd_X5_canShare.1 (findClass_of_methodNamed B.named)
  have hlocks : meth.locks = false := B.notSynchronized
  subst hsz
  have hD := hD0.self (sz := s.heap.size)
  generalize hAe : va_A (w_X5_canShare E a_ a_row a_partners a_share a_leftOver c_askedCount c_outcome c_row c_share c_leftOver) s.heap.size = A at hD ⊢
  have hA : ∀ q : Nat, s.heap.size ≤ q → A q := fun q h => by rw [← hAe]; exact Or.inr h
  have hS : va_S A s.heap s.heap [] := va_S.rf
  have hl := lv_entry ([.ref a_, .int p1]) (n := 4) (Nat.le_of_ble_eq_true rfl)
  rw [lg_entry_eq]
  generalize (lg_sl ([.ref a_, .int p1]) ++ List.replicate (4 - (lg_sl ([.ref a_, .int p1])).length) Slot.unset).toArray = ls at hl ⊢
  have hl : lv_has ls 4 [(0, .ref a_), (1, .int p1)] := hl
  obtain ⟨Q, hQ⟩ : ∃ Q : State → Prop, Q = MQ below (va_Qi (fun (q : Int32) (_u : Unit) => q = rr ∧ (q = 0 ∨ q = 1)) (fun (_u : Unit) tt => va_P E.1 vwCl (w_X5_canShare E a_ a_row a_partners a_share a_leftOver c_askedCount c_outcome c_row n_share n_leftOver) tt.heap ∧ va_D A (w_X5_canShare E a_ a_row a_partners a_share a_leftOver c_askedCount c_outcome c_row n_share n_leftOver)) A) #[Value.ref a_, Value.int p1] s 0 0 A := ⟨_, rfl⟩
  rw [← hQ]
  change W p l e ({ frames := 2, cells := 0, slots := 0, locals := 50 } : Room) s m #[Value.ref a_, Value.int p1] below meth c s.heap [] 0 0 Q (F0 m 0 ls [])
  suffices hh9 : ∀ (H : Heap) (locs : List Loc), va_P E.1 vwCl (w_X5_canShare E a_ a_row a_partners a_share a_leftOver c_askedCount c_outcome c_row c_share c_leftOver) H → va_D A (w_X5_canShare E a_ a_row a_partners a_share a_leftOver c_askedCount c_outcome c_row c_share c_leftOver) → va_S A s.heap H locs → W p l e ({ frames := 2, cells := 0, slots := 0, locals := 50 } : Room) s m #[Value.ref a_, Value.int p1] below meth c H locs 0 0 Q (F0 m 0 ls []) from hh9 s.heap [] hP hD hS
  clear hP hD hS
  intro H locs hP hD hS
  replace hP : va_P E.1 vwCl [(a_, .inr (6, [.ref a_row, .ref a_partners, .int c_askedCount, .int c_outcome, .ref a_share, .ref a_leftOver])), (a_row, .inl (E.2.1, 81, .inl c_row)), (a_share, .inl (E.2.1, 2, .inl c_share)), (a_leftOver, .inl (E.2.1, 2, .inl c_leftOver))] H := hP
  replace hD : va_D A [(a_, .inr (6, [.ref a_row, .ref a_partners, .int c_askedCount, .int c_outcome, .ref a_share, .ref a_leftOver])), (a_row, .inl (E.2.1, 81, .inl c_row)), (a_share, .inl (E.2.1, 2, .inl c_share)), (a_leftOver, .inl (E.2.1, 2, .inl c_leftOver))] := hD
  unfold F_X5_canShare at hF
  refine lv_aload_n hx hb dX5_canShare_0 rfl (lv_at hl 0 rfl) ?_
  refine lv_iload_n hx hb dX5_canShare_1 rfl (lv_at hl 1 rfl) ?_
  replace hF := bd2_s hF
  obtain ⟨w_1, w_2, hc_3, hF⟩ := hF
  obtain ⟨hPc, hDc, hFc⟩ := wcut (wc := (w_X5_measureShares E a_ a_row a_partners a_share a_leftOver c_askedCount c_outcome c_row c_share c_leftOver)) hP hD hS hA [0, 1, 2, 3] (by decide) rfl
  have hrc := va_recv hK hPc (ci := 6) (q0 := 0) rfl rfl
  refine cE_v (wc := (w_X5_measureShares E a_ a_row a_partners a_share a_leftOver c_askedCount c_outcome c_row c_share c_leftOver)) (wr := []) (w1 := (w_X5_measureShares E a_ a_row a_partners a_share a_leftOver c_askedCount c_outcome c_row w_1 w_2)) (va_runV (As := [.int p1]) (rest := [])  ⟨hx, hb, hml, hown, hts⟩ (f_X5_measureShares l E H.size K (a_ := a_) (a_row := a_row) (a_partners := a_partners) (a_share := a_share) (a_leftOver := a_leftOver) (p1 := p1) (c_askedCount := c_askedCount) (c_outcome := c_outcome) (c_row := c_row) (c_share := c_share) (c_leftOver := c_leftOver) hc_3) (cwV 1 hts g_f_X5_canShare_f_X5_measureShares_165 rfl rfl rfl hd_X5_measureShares ⟨Nat.le_of_ble_eq_true rfl, Nat.le_of_ble_eq_true rfl⟩) ⟨pW.blind, hrc, (pW.pre ⟨hK, hN⟩ hPc hDc)⟩ rfl rfl hl.1 rfl (lv_room (Nat.le_of_ble_eq_true rfl)) dX5_canShare_2 ⟨Nat.le_of_ble_eq_true rfl, Nat.le_of_ble_eq_true rfl⟩) hS hFc hP hD [0, 1, 2, 3] [] rfl rfl (by decide) (by decide) (fun H locs hP hD hS => ?_)
  replace hP : va_P E.1 vwCl [(a_, .inr (6, [.ref a_row, .ref a_partners, .int c_askedCount, .int c_outcome, .ref a_share, .ref a_leftOver])), (a_row, .inl (E.2.1, 81, .inl c_row)), (a_share, .inl (E.2.1, 2, .inl w_1)), (a_leftOver, .inl (E.2.1, 2, .inl w_2))] H := hP
  replace hD : va_D A [(a_, .inr (6, [.ref a_row, .ref a_partners, .int c_askedCount, .int c_outcome, .ref a_share, .ref a_leftOver])), (a_row, .inl (E.2.1, 81, .inl c_row)), (a_share, .inl (E.2.1, 2, .inl w_1)), (a_leftOver, .inl (E.2.1, 2, .inl w_2))] := hD
  refine lv_iconst (v := 0) hx hb dX5_canShare_5 (by decide) ?_
  refine lv_istore_n (lv' := [(2, .int (0 : Int32)), (0, .ref a_), (1, .int p1)]) hx hb dX5_canShare_6 rfl hl (by decide) rfl (fun ls hl => ?_)
  refine lv_iconst (v := 0) hx hb dX5_canShare_7 (by decide) ?_
  refine lv_istore_n (lv' := [(3, .int (0 : Int32)), (2, .int (0 : Int32)), (0, .ref a_), (1, .int p1)]) hx hb dX5_canShare_8 rfl hl (by decide) rfl (fun ls hl => ?_)
  replace hF := bd1_s hF
  obtain ⟨t_16, hL_17, hF⟩ := hF
  refine lw_X5_canShare_9 l E K (p1 := p1) (c_askedCount := c_askedCount) (c_outcome := c_outcome) (c_row := c_row) (c_share := w_1) (c_leftOver := w_2) hx hb hml hown hts hK hN hA K (0 : Int32) (0 : Int32) t_16 hL_17 ⟨?_, ?_⟩ H locs ls (hP.sub [0, 1, 2, 3] rfl) (hD.sub [0, 1, 2, 3] (by decide) rfl) hS (lv_sub hl [2, 3, 1, 0] rfl)
  ·
    intro t9
    replace hF := ip t9 hF
    intro H locs ls hP hD hS hl
    replace hP : va_P E.1 vwCl [(a_, .inr (6, [.ref a_row, .ref a_partners, .int c_askedCount, .int c_outcome, .ref a_share, .ref a_leftOver])), (a_row, .inl (E.2.1, 81, .inl c_row)), (a_share, .inl (E.2.1, 2, .inl w_1)), (a_leftOver, .inl (E.2.1, 2, .inl w_2))] H := hP
    replace hD : va_D A [(a_, .inr (6, [.ref a_row, .ref a_partners, .int c_askedCount, .int c_outcome, .ref a_share, .ref a_leftOver])), (a_row, .inl (E.2.1, 81, .inl c_row)), (a_share, .inl (E.2.1, 2, .inl w_1)), (a_leftOver, .inl (E.2.1, 2, .inl w_2))] := hD
    refine lv_iconst (v := 0) hx hb dX5_canShare_47 (by decide) ?_
    rw [hQ]
    have h9 := fin9 (P := fun u9 : Int32 × (Nat → Int32) × (Nat → Int32) => (0 : Int32) = u9.1 ∧ va_P E.1 vwCl (w_X5_canShare E a_ a_row a_partners a_share a_leftOver c_askedCount c_outcome c_row u9.2.1 u9.2.2) H ∧ va_D A (w_X5_canShare E a_ a_row a_partners a_share a_leftOver c_askedCount c_outcome c_row u9.2.1 u9.2.2)) hF ⟨rfl, hP, hD⟩
    obtain ⟨e9_0, hP9, hD9⟩ := h9
    exact W.zret (v := (0 : Int32)) hx hb hr rfl (fun tt ht hW => ⟨⟨_, (), rfl, ⟨e9_0, Or.inl rfl⟩, ht ▸ hP9, hD9⟩, hS.F ht⟩) hS.2.2 dX5_canShare_48
  ·
    intro t9
    replace hF := inn (show ¬ t_16 = 0 by omega) hF
    replace hF := ip t9 hF
    intro H locs ls hP hD hS hl
    replace hP : va_P E.1 vwCl [(a_, .inr (6, [.ref a_row, .ref a_partners, .int c_askedCount, .int c_outcome, .ref a_share, .ref a_leftOver])), (a_row, .inl (E.2.1, 81, .inl c_row)), (a_share, .inl (E.2.1, 2, .inl w_1)), (a_leftOver, .inl (E.2.1, 2, .inl w_2))] H := hP
    replace hD : va_D A [(a_, .inr (6, [.ref a_row, .ref a_partners, .int c_askedCount, .int c_outcome, .ref a_share, .ref a_leftOver])), (a_row, .inl (E.2.1, 81, .inl c_row)), (a_share, .inl (E.2.1, 2, .inl w_1)), (a_leftOver, .inl (E.2.1, 2, .inl w_2))] := hD
    refine lv_iconst (v := 1) hx hb dX5_canShare_58 (by decide) ?_
    rw [hQ]
    have h9 := fin9 (P := fun u9 : Int32 × (Nat → Int32) × (Nat → Int32) => (1 : Int32) = u9.1 ∧ va_P E.1 vwCl (w_X5_canShare E a_ a_row a_partners a_share a_leftOver c_askedCount c_outcome c_row u9.2.1 u9.2.2) H ∧ va_D A (w_X5_canShare E a_ a_row a_partners a_share a_leftOver c_askedCount c_outcome c_row u9.2.1 u9.2.2)) hF ⟨rfl, hP, hD⟩
    obtain ⟨e9_0, hP9, hD9⟩ := h9
    exact W.zret (v := (1 : Int32)) hx hb hr rfl (fun tt ht hW => ⟨⟨_, (), rfl, ⟨e9_0, Or.inr rfl⟩, ht ▸ hP9, hD9⟩, hS.F ht⟩) hS.2.2 dX5_canShare_59

def F_X5_copyFrom (c_row : Nat → Int32) (c_o1_row : Nat → Int32) : Option ((Nat → Int32)) :=
  cpF (0 : Int32) (0 : Int32) (81 : Int32) 81 81 (nmF (va_cpy c_o1_row c_row (0 : Int32).toNatClampNeg (0 : Int32).toNatClampNeg (81 : Int32).toNatClampNeg) (fun f_2 => some f_2))
abbrev w_X5_copyFrom (E : EE) (a_ a_row a_partners a_share a_leftOver a_o1 a_o1_row a_o1_partners a_o1_share a_o1_leftOver : Nat) (c_askedCount : Int32) (c_outcome : Int32) (c_row : Nat → Int32) (c_o1_askedCount : Int32) (c_o1_outcome : Int32) (c_o1_row : Nat → Int32) : va_W := [(a_, .inr (6, [.ref a_row, .ref a_partners, .int c_askedCount, .int c_outcome, .ref a_share, .ref a_leftOver])), (a_row, .inl (E.2.1, 81, .inl c_row)), (a_o1, .inr (6, [.ref a_o1_row, .ref a_o1_partners, .int c_o1_askedCount, .int c_o1_outcome, .ref a_o1_share, .ref a_o1_leftOver])), (a_o1_row, .inl (E.2.1, 81, .inl c_o1_row))]
def v_f_X5_copyFrom : List Cond := .code yX5_copyFrom cX5_copyFrom 2 none :: ([.fieldLink RX5 11 "HushWatch$State" "row" "[I", .methodLink RX5 63 arraycopyName, .native arraycopyName, .static arraycopyName, .initialized "java/lang/System"] ++ (wsX50 ++ ([])))
theorem gw_f_X5_copyFrom : v_f_X5_copyFrom.all goodWord = true := by decide +kernel
theorem i_f_X5_copyFrom_X5 : ∀ w ∈ wsX50, w ∈ v_f_X5_copyFrom := fun _ h => List.mem_cons_of_mem _ (List.mem_append_right _ (List.mem_append_left _ h))
theorem hd_X5_copyFrom : yX5_copyFrom.cls = RX5 ∧ yX5_copyFrom.cls ≠ "java/lang/invoke/MethodHandle" ∧ yX5_copyFrom.cls ≠ "java/lang/invoke/VarHandle" ∧ (parseMethodDescriptor yX5_copyFrom.desc).map (fun d => d.parameters.length) = some 1 := by decide +kernel
set_option maxHeartbeats 4000000 in
set_option maxRecDepth 100000 in
theorem f_X5_copyFrom (l : Launch) (E : EE) (sz : Nat) {a_ a_row a_partners a_share a_leftOver a_o1 a_o1_row a_o1_partners a_o1_share a_o1_leftOver : Nat} {c_askedCount : Int32} {c_outcome : Int32} {c_row : Nat → Int32} {c_o1_askedCount : Int32} {c_o1_outcome : Int32} {c_o1_row : Nat → Int32} {n_row : Nat → Int32} (hF : F_X5_copyFrom c_row c_o1_row = some n_row) : Met l yX5_copyFrom v_f_X5_copyFrom (({ frames := 1, cells := 0, slots := 0, locals := 60 } : Room)) (va_Pc [.ref a_, .ref a_o1] (pW E sz (w_X5_copyFrom E a_ a_row a_partners a_share a_leftOver a_o1 a_o1_row a_o1_partners a_o1_share a_o1_leftOver c_askedCount c_outcome c_row c_o1_askedCount c_o1_outcome c_o1_row))) (va_Qv (fun (_u : Unit) => True) (fun (_u : Unit) tt => va_P E.1 vwCl (w_X5_copyFrom E a_ a_row a_partners a_share a_leftOver a_o1 a_o1_row a_o1_partners a_o1_share a_o1_leftOver c_askedCount c_outcome n_row c_o1_askedCount c_o1_outcome c_o1_row) tt.heap ∧ va_D (va_A (w_X5_copyFrom E a_ a_row a_partners a_share a_leftOver a_o1 a_o1_row a_o1_partners a_o1_share a_o1_leftOver c_askedCount c_outcome c_row c_o1_askedCount c_o1_outcome c_o1_row) sz) (w_X5_copyFrom E a_ a_row a_partners a_share a_leftOver a_o1 a_o1_row a_o1_partners a_o1_share a_o1_leftOver c_askedCount c_outcome n_row c_o1_askedCount c_o1_outcome c_o1_row)) (va_A (w_X5_copyFrom E a_ a_row a_partners a_share a_leftOver a_o1 a_o1_row a_o1_partners a_o1_share a_o1_leftOver c_askedCount c_outcome c_row c_o1_askedCount c_o1_outcome c_o1_row) sz)) 0 0 (va_A (w_X5_copyFrom E a_ a_row a_partners a_share a_leftOver a_o1 a_o1_row a_o1_partners a_o1_share a_o1_leftOver c_askedCount c_outcome c_row c_o1_askedCount c_o1_outcome c_o1_row) sz) := by
  refine Met.ofW (cc := cX5_copyFrom) (maxL := 2) (ret := none) (by decide) rfl ?_
  intro p e s m args below meth c s₁ B hml hv
  obtain ⟨rfl, hsz, ⟨hK, hN⟩, hP, hD0⟩ := hv
  have hx := B.exec
  have hb := B.bytes
  have hr := B.returns
  have hts := atoms_spec (ws := v_f_X5_copyFrom) B.pre
  have hown : s.vm.findClass RX5 = some m.cls := own_of hd_X5_copyFrom.1 (findClass_of_methodNamed B.named)
  have hlocks : meth.locks = false := B.notSynchronized
  subst hsz
  have hD := hD0.self (sz := s.heap.size)
  generalize hAe : va_A (w_X5_copyFrom E a_ a_row a_partners a_share a_leftOver a_o1 a_o1_row a_o1_partners a_o1_share a_o1_leftOver c_askedCount c_outcome c_row c_o1_askedCount c_o1_outcome c_o1_row) s.heap.size = A at hD ⊢
  have hA : ∀ q : Nat, s.heap.size ≤ q → A q := fun q h => by rw [← hAe]; exact Or.inr h
  have hS : va_S A s.heap s.heap [] := va_S.rf
  have hl := lv_entry ([.ref a_, .ref a_o1]) (n := 2) (Nat.le_of_ble_eq_true rfl)
  rw [lg_entry_eq]
  generalize (lg_sl ([.ref a_, .ref a_o1]) ++ List.replicate (2 - (lg_sl ([.ref a_, .ref a_o1])).length) Slot.unset).toArray = ls at hl ⊢
  have hl : lv_has ls 2 [(0, .ref a_), (1, .ref a_o1)] := hl
  obtain ⟨Q, hQ⟩ : ∃ Q : State → Prop, Q = MQ below (va_Qv (fun (_u : Unit) => True) (fun (_u : Unit) tt => va_P E.1 vwCl (w_X5_copyFrom E a_ a_row a_partners a_share a_leftOver a_o1 a_o1_row a_o1_partners a_o1_share a_o1_leftOver c_askedCount c_outcome n_row c_o1_askedCount c_o1_outcome c_o1_row) tt.heap ∧ va_D A (w_X5_copyFrom E a_ a_row a_partners a_share a_leftOver a_o1 a_o1_row a_o1_partners a_o1_share a_o1_leftOver c_askedCount c_outcome n_row c_o1_askedCount c_o1_outcome c_o1_row)) A) #[Value.ref a_, Value.ref a_o1] s 0 0 A := ⟨_, rfl⟩
  rw [← hQ]
  change W p l e ({ frames := 1, cells := 0, slots := 0, locals := 60 } : Room) s m #[Value.ref a_, Value.ref a_o1] below meth c s.heap [] 0 0 Q (F0 m 0 ls [])
  suffices hh9 : ∀ (H : Heap) (locs : List Loc), va_P E.1 vwCl (w_X5_copyFrom E a_ a_row a_partners a_share a_leftOver a_o1 a_o1_row a_o1_partners a_o1_share a_o1_leftOver c_askedCount c_outcome c_row c_o1_askedCount c_o1_outcome c_o1_row) H → va_D A (w_X5_copyFrom E a_ a_row a_partners a_share a_leftOver a_o1 a_o1_row a_o1_partners a_o1_share a_o1_leftOver c_askedCount c_outcome c_row c_o1_askedCount c_o1_outcome c_o1_row) → va_S A s.heap H locs → W p l e ({ frames := 1, cells := 0, slots := 0, locals := 60 } : Room) s m #[Value.ref a_, Value.ref a_o1] below meth c H locs 0 0 Q (F0 m 0 ls []) from hh9 s.heap [] hP hD hS
  clear hP hD hS
  intro H locs hP hD hS
  replace hP : va_P E.1 vwCl [(a_, .inr (6, [.ref a_row, .ref a_partners, .int c_askedCount, .int c_outcome, .ref a_share, .ref a_leftOver])), (a_row, .inl (E.2.1, 81, .inl c_row)), (a_o1, .inr (6, [.ref a_o1_row, .ref a_o1_partners, .int c_o1_askedCount, .int c_o1_outcome, .ref a_o1_share, .ref a_o1_leftOver])), (a_o1_row, .inl (E.2.1, 81, .inl c_o1_row))] H := hP
  replace hD : va_D A [(a_, .inr (6, [.ref a_row, .ref a_partners, .int c_askedCount, .int c_outcome, .ref a_share, .ref a_leftOver])), (a_row, .inl (E.2.1, 81, .inl c_row)), (a_o1, .inr (6, [.ref a_o1_row, .ref a_o1_partners, .int c_o1_askedCount, .int c_o1_outcome, .ref a_o1_share, .ref a_o1_leftOver])), (a_o1_row, .inl (E.2.1, 81, .inl c_o1_row))] := hD
  unfold F_X5_copyFrom at hF
  refine lv_aload_n hx hb dX5_copyFrom_0 rfl (lv_at hl 1 rfl) ?_
  refine gt_X5_0 (v := .ref a_o1_row) hx hb hts i_f_X5_copyFrom_X5 hown hK hP 2 rfl (hts (.fieldLink RX5 11 "HushWatch$State" "row" "[I") (List.mem_of_getElem? (i := 1) rfl)) rfl dX5_copyFrom_1 ?_
  refine lv_iconst (v := 0) hx hb dX5_copyFrom_4 (by decide) ?_
  refine lv_aload_n hx hb dX5_copyFrom_5 rfl (lv_at hl 0 rfl) ?_
  refine gt_X5_0 (v := .ref a_row) hx hb hts i_f_X5_copyFrom_X5 hown hK hP 0 rfl (hts (.fieldLink RX5 11 "HushWatch$State" "row" "[I") (List.mem_of_getElem? (i := 1) rfl)) rfl dX5_copyFrom_6 ?_
  refine lv_iconst (v := 0) hx hb dX5_copyFrom_9 (by decide) ?_
  refine lv_bipush (v := 81) hx hb dX5_copyFrom_10 (by decide) ?_
  replace hF := cp_s hF
  obtain ⟨hy_1, hF⟩ := hF
  refine va_copyi hx hb (hml.trans hl.1.symm) hown (hts (.methodLink RX5 63 arraycopyName) (List.mem_of_getElem? (i := 2) rfl)) (hts (.native arraycopyName) (List.mem_of_getElem? (i := 3) rfl)) (hts (.static arraycopyName) (List.mem_of_getElem? (i := 4) rfl)) (hts (.initialized "java/lang/System") (List.mem_of_getElem? (i := 5) rfl)) hK hP hD hS 3 1 0 0 rfl rfl rfl rfl rfl hy_1.1 hy_1.2.1 hy_1.2.2.1 hy_1.2.2.2.1 hy_1.2.2.2.2 (fun _ _ => rfl) (Nat.le_of_ble_eq_true rfl) (Nat.le_of_ble_eq_true rfl) dX5_copyFrom_12 (fun H locs hP hD hS => ?_)
  replace hP : va_P E.1 vwCl [(a_, .inr (6, [.ref a_row, .ref a_partners, .int c_askedCount, .int c_outcome, .ref a_share, .ref a_leftOver])), (a_row, .inl (E.2.1, 81, .inl (va_cpy c_o1_row c_row (0 : Int32).toNatClampNeg (0 : Int32).toNatClampNeg (81 : Int32).toNatClampNeg))), (a_o1, .inr (6, [.ref a_o1_row, .ref a_o1_partners, .int c_o1_askedCount, .int c_o1_outcome, .ref a_o1_share, .ref a_o1_leftOver])), (a_o1_row, .inl (E.2.1, 81, .inl c_o1_row))] H := hP
  replace hD : va_D A [(a_, .inr (6, [.ref a_row, .ref a_partners, .int c_askedCount, .int c_outcome, .ref a_share, .ref a_leftOver])), (a_row, .inl (E.2.1, 81, .inl (va_cpy c_o1_row c_row (0 : Int32).toNatClampNeg (0 : Int32).toNatClampNeg (81 : Int32).toNatClampNeg))), (a_o1, .inr (6, [.ref a_o1_row, .ref a_o1_partners, .int c_o1_askedCount, .int c_o1_outcome, .ref a_o1_share, .ref a_o1_leftOver])), (a_o1_row, .inl (E.2.1, 81, .inl c_o1_row))] := hD
  replace hF := nm_s hF
  obtain ⟨f_2, hf_2, hF⟩ := hF
  rw [← hf_2] at hP hD
  rw [hQ]
  have h9 := fin9 (P := fun u9 : (Nat → Int32) => va_P E.1 vwCl (w_X5_copyFrom E a_ a_row a_partners a_share a_leftOver a_o1 a_o1_row a_o1_partners a_o1_share a_o1_leftOver c_askedCount c_outcome u9 c_o1_askedCount c_o1_outcome c_o1_row) H ∧ va_D A (w_X5_copyFrom E a_ a_row a_partners a_share a_leftOver a_o1 a_o1_row a_o1_partners a_o1_share a_o1_leftOver c_askedCount c_outcome u9 c_o1_askedCount c_o1_outcome c_o1_row)) hF ⟨hP, hD⟩
  obtain ⟨hP9, hD9⟩ := h9
  exact W.vret hx hb hr (fun tt ht hW => ⟨⟨(), rfl, trivial, ht ▸ hP9, hD9⟩, hS.F ht⟩) hS.2.2 dX5_copyFrom_15

def F_X5_shift (p1 : Int32) (p2 : Int32) (p3 : Int32) (c_row : Nat → Int32) : Option ((Nat → Int32)) :=
  bd1 (F_X5_of p1 (0 : Int32) c_row) (fun r_1 => bd1 (F_X5_put p1 (0 : Int32) (r_1 + p2) c_row) (fun w_3 => bd1 (F_X5_of p1 (1 : Int32) w_3) (fun r_5 => bd1 (F_X5_put p1 (1 : Int32) (r_5 + p3) w_3) (fun w_7 => some w_7))))
abbrev w_X5_shift (E : EE) (a_ a_row a_partners a_share a_leftOver : Nat) (c_askedCount : Int32) (c_outcome : Int32) (c_row : Nat → Int32) : va_W := [(a_, .inr (6, [.ref a_row, .ref a_partners, .int c_askedCount, .int c_outcome, .ref a_share, .ref a_leftOver])), (a_row, .inl (E.2.1, 81, .inl c_row))]
def v_f_X5_shift : List Cond := .code yX5_shift cX5_shift 4 none :: ([.methodLink RX5 69 yX5_of, .instanceMethod yX5_of, .selects RX5 yX5_of yX5_of, .initialized RX5, .methodLink RX5 52 yX5_put, .instanceMethod yX5_put, .selects RX5 yX5_put yX5_put] ++ (v_f_X5_of ++ (v_f_X5_put ++ ([]))))
theorem gw_f_X5_shift : v_f_X5_shift.all goodWord = true := by decide +kernel
theorem g_f_X5_shift_f_X5_of_69 : GoodIn v_f_X5_shift (wsV RX5 69 RX5 yX5_of v_f_X5_of) := goodIn_app (goodIn_of _ (by decide +kernel)) (goodIn_sub (fun _ h => List.mem_cons_of_mem _ (List.mem_append_right _ (List.mem_append_left _ h))) gw_f_X5_of)
theorem g_f_X5_shift_f_X5_put_52 : GoodIn v_f_X5_shift (wsV RX5 52 RX5 yX5_put v_f_X5_put) := goodIn_app (goodIn_of _ (by decide +kernel)) (goodIn_sub (fun _ h => List.mem_cons_of_mem _ (List.mem_append_right _ (List.mem_append_right _ (List.mem_append_left _ h)))) gw_f_X5_put)
theorem hd_X5_shift : yX5_shift.cls = RX5 ∧ yX5_shift.cls ≠ "java/lang/invoke/MethodHandle" ∧ yX5_shift.cls ≠ "java/lang/invoke/VarHandle" ∧ (parseMethodDescriptor yX5_shift.desc).map (fun d => d.parameters.length) = some 3 := by decide +kernel
set_option maxHeartbeats 4000000 in
set_option maxRecDepth 100000 in
theorem f_X5_shift (l : Launch) (E : EE) (sz : Nat) {a_ a_row a_partners a_share a_leftOver : Nat} {p1 : Int32} {p2 : Int32} {p3 : Int32} {c_askedCount : Int32} {c_outcome : Int32} {c_row : Nat → Int32} {n_row : Nat → Int32} (hF : F_X5_shift p1 p2 p3 c_row = some n_row) : Met l yX5_shift v_f_X5_shift (({ frames := 1, cells := 0, slots := 0, locals := 23 } : Room)) (va_Pc [.ref a_, .int p1, .int p2, .int p3] (pW E sz (w_X5_shift E a_ a_row a_partners a_share a_leftOver c_askedCount c_outcome c_row))) (va_Qv (fun (_u : Unit) => True) (fun (_u : Unit) tt => va_P E.1 vwCl (w_X5_shift E a_ a_row a_partners a_share a_leftOver c_askedCount c_outcome n_row) tt.heap ∧ va_D (va_A (w_X5_shift E a_ a_row a_partners a_share a_leftOver c_askedCount c_outcome c_row) sz) (w_X5_shift E a_ a_row a_partners a_share a_leftOver c_askedCount c_outcome n_row)) (va_A (w_X5_shift E a_ a_row a_partners a_share a_leftOver c_askedCount c_outcome c_row) sz)) 0 0 (va_A (w_X5_shift E a_ a_row a_partners a_share a_leftOver c_askedCount c_outcome c_row) sz) := by
  refine Met.ofW (cc := cX5_shift) (maxL := 4) (ret := none) (by decide) rfl ?_
  intro p e s m args below meth c s₁ B hml hv
  obtain ⟨rfl, hsz, ⟨hK, hN⟩, hP, hD0⟩ := hv
  have hx := B.exec
  have hb := B.bytes
  have hr := B.returns
  have hts := atoms_spec (ws := v_f_X5_shift) B.pre
  have hown : s.vm.findClass RX5 = some m.cls := own_of hd_X5_shift.1 (findClass_of_methodNamed B.named)
  have hlocks : meth.locks = false := B.notSynchronized
  subst hsz
  have hD := hD0.self (sz := s.heap.size)
  generalize hAe : va_A (w_X5_shift E a_ a_row a_partners a_share a_leftOver c_askedCount c_outcome c_row) s.heap.size = A at hD ⊢
  have hA : ∀ q : Nat, s.heap.size ≤ q → A q := fun q h => by rw [← hAe]; exact Or.inr h
  have hS : va_S A s.heap s.heap [] := va_S.rf
  have hl := lv_entry ([.ref a_, .int p1, .int p2, .int p3]) (n := 4) (Nat.le_of_ble_eq_true rfl)
  rw [lg_entry_eq]
  generalize (lg_sl ([.ref a_, .int p1, .int p2, .int p3]) ++ List.replicate (4 - (lg_sl ([.ref a_, .int p1, .int p2, .int p3])).length) Slot.unset).toArray = ls at hl ⊢
  have hl : lv_has ls 4 [(0, .ref a_), (1, .int p1), (2, .int p2), (3, .int p3)] := hl
  obtain ⟨Q, hQ⟩ : ∃ Q : State → Prop, Q = MQ below (va_Qv (fun (_u : Unit) => True) (fun (_u : Unit) tt => va_P E.1 vwCl (w_X5_shift E a_ a_row a_partners a_share a_leftOver c_askedCount c_outcome n_row) tt.heap ∧ va_D A (w_X5_shift E a_ a_row a_partners a_share a_leftOver c_askedCount c_outcome n_row)) A) #[Value.ref a_, Value.int p1, Value.int p2, Value.int p3] s 0 0 A := ⟨_, rfl⟩
  rw [← hQ]
  change W p l e ({ frames := 1, cells := 0, slots := 0, locals := 23 } : Room) s m #[Value.ref a_, Value.int p1, Value.int p2, Value.int p3] below meth c s.heap [] 0 0 Q (F0 m 0 ls [])
  suffices hh9 : ∀ (H : Heap) (locs : List Loc), va_P E.1 vwCl (w_X5_shift E a_ a_row a_partners a_share a_leftOver c_askedCount c_outcome c_row) H → va_D A (w_X5_shift E a_ a_row a_partners a_share a_leftOver c_askedCount c_outcome c_row) → va_S A s.heap H locs → W p l e ({ frames := 1, cells := 0, slots := 0, locals := 23 } : Room) s m #[Value.ref a_, Value.int p1, Value.int p2, Value.int p3] below meth c H locs 0 0 Q (F0 m 0 ls []) from hh9 s.heap [] hP hD hS
  clear hP hD hS
  intro H locs hP hD hS
  replace hP : va_P E.1 vwCl [(a_, .inr (6, [.ref a_row, .ref a_partners, .int c_askedCount, .int c_outcome, .ref a_share, .ref a_leftOver])), (a_row, .inl (E.2.1, 81, .inl c_row))] H := hP
  replace hD : va_D A [(a_, .inr (6, [.ref a_row, .ref a_partners, .int c_askedCount, .int c_outcome, .ref a_share, .ref a_leftOver])), (a_row, .inl (E.2.1, 81, .inl c_row))] := hD
  unfold F_X5_shift at hF
  refine lv_aload_n hx hb dX5_shift_0 rfl (lv_at hl 0 rfl) ?_
  refine lv_iload_n hx hb dX5_shift_1 rfl (lv_at hl 1 rfl) ?_
  refine lv_iconst (v := 0) hx hb dX5_shift_2 (by decide) ?_
  refine lv_aload_n hx hb dX5_shift_3 rfl (lv_at hl 0 rfl) ?_
  refine lv_iload_n hx hb dX5_shift_4 rfl (lv_at hl 1 rfl) ?_
  refine lv_iconst (v := 0) hx hb dX5_shift_5 (by decide) ?_
  replace hF := bd1_s hF
  obtain ⟨r_1, hc_2, hF⟩ := hF
  have hPc : va_P E.1 vwCl (w_X5_of E a_ a_row a_partners a_share a_leftOver c_askedCount c_outcome c_row) H := hP.sub (ws' := [(a_, .inr (6, [.ref a_row, .ref a_partners, .int c_askedCount, .int c_outcome, .ref a_share, .ref a_leftOver])), (a_row, .inl (E.2.1, 81, .inl c_row))]) [0, 1] rfl
  have hrc := va_recv hK hPc (ci := 6) (q0 := 0) rfl rfl
  refine pE_i (va_runV (As := [.int p1, .int (0 : Int32)]) (rest := [.int (0 : Int32), .int p1, .ref a_])  ⟨hx, hb, hml, hown, hts⟩ (f_X5_of l E (a_ := a_) (a_row := a_row) (a_partners := a_partners) (a_share := a_share) (a_leftOver := a_leftOver) (p1 := p1) (p2 := (0 : Int32)) (c_askedCount := c_askedCount) (c_outcome := c_outcome) (c_row := c_row) hc_2) (cwV 2 hts g_f_X5_shift_f_X5_of_69 rfl rfl rfl hd_X5_of ⟨Nat.le_of_ble_eq_true rfl, Nat.le_of_ble_eq_true rfl⟩) ⟨pP.blind, hrc, (pP.pre ⟨hK, hN⟩ hPc)⟩ rfl rfl hl.1 rfl (lv_room (Nat.le_of_ble_eq_true rfl)) dX5_shift_6 ⟨Nat.le_of_ble_eq_true rfl, Nat.le_of_ble_eq_true rfl⟩) ?_
  refine lv_iload_n hx hb dX5_shift_9 rfl (lv_at hl 2 rfl) ?_
  refine lv_iadd hx hb dX5_shift_10 ?_
  replace hF := bd1_s hF
  obtain ⟨w_3, hc_4, hF⟩ := hF
  obtain ⟨hPc, hDc, hFc⟩ := wcut (wc := (w_X5_put E a_ a_row a_partners a_share a_leftOver c_askedCount c_outcome c_row)) hP hD hS hA [0, 1] (by decide) rfl
  have hrc := va_recv hK hPc (ci := 6) (q0 := 0) rfl rfl
  refine cE_v (wc := (w_X5_put E a_ a_row a_partners a_share a_leftOver c_askedCount c_outcome c_row)) (wr := []) (w1 := (w_X5_put E a_ a_row a_partners a_share a_leftOver c_askedCount c_outcome w_3)) (va_runV (As := [.int p1, .int (0 : Int32), .int (r_1 + p2)]) (rest := [])  ⟨hx, hb, hml, hown, hts⟩ (f_X5_put l E H.size (a_ := a_) (a_row := a_row) (a_partners := a_partners) (a_share := a_share) (a_leftOver := a_leftOver) (p1 := p1) (p2 := (0 : Int32)) (p3 := r_1 + p2) (c_askedCount := c_askedCount) (c_outcome := c_outcome) (c_row := c_row) hc_4) (cwV 3 hts g_f_X5_shift_f_X5_put_52 rfl rfl rfl hd_X5_put ⟨Nat.le_of_ble_eq_true rfl, Nat.le_of_ble_eq_true rfl⟩) ⟨pW.blind, hrc, (pW.pre ⟨hK, hN⟩ hPc hDc)⟩ rfl rfl hl.1 rfl (lv_room (Nat.le_of_ble_eq_true rfl)) dX5_shift_11 ⟨Nat.le_of_ble_eq_true rfl, Nat.le_of_ble_eq_true rfl⟩) hS hFc hP hD [0, 1] [] rfl rfl (by decide) (by decide) (fun H locs hP hD hS => ?_)
  replace hP : va_P E.1 vwCl [(a_, .inr (6, [.ref a_row, .ref a_partners, .int c_askedCount, .int c_outcome, .ref a_share, .ref a_leftOver])), (a_row, .inl (E.2.1, 81, .inl w_3))] H := hP
  replace hD : va_D A [(a_, .inr (6, [.ref a_row, .ref a_partners, .int c_askedCount, .int c_outcome, .ref a_share, .ref a_leftOver])), (a_row, .inl (E.2.1, 81, .inl w_3))] := hD
  refine lv_aload_n hx hb dX5_shift_14 rfl (lv_at hl 0 rfl) ?_
  refine lv_iload_n hx hb dX5_shift_15 rfl (lv_at hl 1 rfl) ?_
  refine lv_iconst (v := 1) hx hb dX5_shift_16 (by decide) ?_
  refine lv_aload_n hx hb dX5_shift_17 rfl (lv_at hl 0 rfl) ?_
  refine lv_iload_n hx hb dX5_shift_18 rfl (lv_at hl 1 rfl) ?_
  refine lv_iconst (v := 1) hx hb dX5_shift_19 (by decide) ?_
  replace hF := bd1_s hF
  obtain ⟨r_5, hc_6, hF⟩ := hF
  have hPc : va_P E.1 vwCl (w_X5_of E a_ a_row a_partners a_share a_leftOver c_askedCount c_outcome w_3) H := hP.sub (ws' := [(a_, .inr (6, [.ref a_row, .ref a_partners, .int c_askedCount, .int c_outcome, .ref a_share, .ref a_leftOver])), (a_row, .inl (E.2.1, 81, .inl w_3))]) [0, 1] rfl
  have hrc := va_recv hK hPc (ci := 6) (q0 := 0) rfl rfl
  refine pE_i (va_runV (As := [.int p1, .int (1 : Int32)]) (rest := [.int (1 : Int32), .int p1, .ref a_])  ⟨hx, hb, hml, hown, hts⟩ (f_X5_of l E (a_ := a_) (a_row := a_row) (a_partners := a_partners) (a_share := a_share) (a_leftOver := a_leftOver) (p1 := p1) (p2 := (1 : Int32)) (c_askedCount := c_askedCount) (c_outcome := c_outcome) (c_row := w_3) hc_6) (cwV 2 hts g_f_X5_shift_f_X5_of_69 rfl rfl rfl hd_X5_of ⟨Nat.le_of_ble_eq_true rfl, Nat.le_of_ble_eq_true rfl⟩) ⟨pP.blind, hrc, (pP.pre ⟨hK, hN⟩ hPc)⟩ rfl rfl hl.1 rfl (lv_room (Nat.le_of_ble_eq_true rfl)) dX5_shift_20 ⟨Nat.le_of_ble_eq_true rfl, Nat.le_of_ble_eq_true rfl⟩) ?_
  refine lv_iload_n hx hb dX5_shift_23 rfl (lv_at hl 3 rfl) ?_
  refine lv_iadd hx hb dX5_shift_24 ?_
  replace hF := bd1_s hF
  obtain ⟨w_7, hc_8, hF⟩ := hF
  obtain ⟨hPc, hDc, hFc⟩ := wcut (wc := (w_X5_put E a_ a_row a_partners a_share a_leftOver c_askedCount c_outcome w_3)) hP hD hS hA [0, 1] (by decide) rfl
  have hrc := va_recv hK hPc (ci := 6) (q0 := 0) rfl rfl
  refine cE_v (wc := (w_X5_put E a_ a_row a_partners a_share a_leftOver c_askedCount c_outcome w_3)) (wr := []) (w1 := (w_X5_put E a_ a_row a_partners a_share a_leftOver c_askedCount c_outcome w_7)) (va_runV (As := [.int p1, .int (1 : Int32), .int (r_5 + p3)]) (rest := [])  ⟨hx, hb, hml, hown, hts⟩ (f_X5_put l E H.size (a_ := a_) (a_row := a_row) (a_partners := a_partners) (a_share := a_share) (a_leftOver := a_leftOver) (p1 := p1) (p2 := (1 : Int32)) (p3 := r_5 + p3) (c_askedCount := c_askedCount) (c_outcome := c_outcome) (c_row := w_3) hc_8) (cwV 3 hts g_f_X5_shift_f_X5_put_52 rfl rfl rfl hd_X5_put ⟨Nat.le_of_ble_eq_true rfl, Nat.le_of_ble_eq_true rfl⟩) ⟨pW.blind, hrc, (pW.pre ⟨hK, hN⟩ hPc hDc)⟩ rfl rfl hl.1 rfl (lv_room (Nat.le_of_ble_eq_true rfl)) dX5_shift_25 ⟨Nat.le_of_ble_eq_true rfl, Nat.le_of_ble_eq_true rfl⟩) hS hFc hP hD [0, 1] [] rfl rfl (by decide) (by decide) (fun H locs hP hD hS => ?_)
  replace hP : va_P E.1 vwCl [(a_, .inr (6, [.ref a_row, .ref a_partners, .int c_askedCount, .int c_outcome, .ref a_share, .ref a_leftOver])), (a_row, .inl (E.2.1, 81, .inl w_7))] H := hP
  replace hD : va_D A [(a_, .inr (6, [.ref a_row, .ref a_partners, .int c_askedCount, .int c_outcome, .ref a_share, .ref a_leftOver])), (a_row, .inl (E.2.1, 81, .inl w_7))] := hD
  rw [hQ]
  have h9 := fin9 (P := fun u9 : (Nat → Int32) => va_P E.1 vwCl (w_X5_shift E a_ a_row a_partners a_share a_leftOver c_askedCount c_outcome u9) H ∧ va_D A (w_X5_shift E a_ a_row a_partners a_share a_leftOver c_askedCount c_outcome u9)) hF ⟨hP, hD⟩
  obtain ⟨hP9, hD9⟩ := h9
  exact W.vret hx hb hr (fun tt ht hW => ⟨⟨(), rfl, trivial, ht ▸ hP9, hD9⟩, hS.F ht⟩) hS.2.2 dX5_shift_28

def F_X5_isQuiet (p1 : Int32) (c_row : Nat → Int32) : Option (Int32) :=
  bd1 (F_X5_drift p1 (0 : Int32) c_row) (fun r_1 => bd1 (F_X5_drift p1 (1 : Int32) c_row) (fun r_3 => bd1 (F_X5_isQuietDrift r_1 r_3 c_row) (fun r_5 => some r_5)))
abbrev w_X5_isQuiet (E : EE) (a_ a_row a_partners a_share a_leftOver : Nat) (c_askedCount : Int32) (c_outcome : Int32) (c_row : Nat → Int32) : va_W := [(a_, .inr (6, [.ref a_row, .ref a_partners, .int c_askedCount, .int c_outcome, .ref a_share, .ref a_leftOver])), (a_row, .inl (E.2.1, 81, .inl c_row))]
def v_f_X5_isQuiet : List Cond := .code yX5_isQuiet cX5_isQuiet 2 (some .boolean) :: ([.methodLink RX5 72 yX5_drift, .instanceMethod yX5_drift, .selects RX5 yX5_drift yX5_drift, .initialized RX5, .methodLink RX5 87 yX5_isQuietDrift, .instanceMethod yX5_isQuietDrift, .selects RX5 yX5_isQuietDrift yX5_isQuietDrift] ++ (v_f_X5_drift ++ (v_f_X5_isQuietDrift ++ ([]))))
theorem gw_f_X5_isQuiet : v_f_X5_isQuiet.all goodWord = true := by decide +kernel
theorem g_f_X5_isQuiet_f_X5_drift_72 : GoodIn v_f_X5_isQuiet (wsV RX5 72 RX5 yX5_drift v_f_X5_drift) := goodIn_app (goodIn_of _ (by decide +kernel)) (goodIn_sub (fun _ h => List.mem_cons_of_mem _ (List.mem_append_right _ (List.mem_append_left _ h))) gw_f_X5_drift)
theorem g_f_X5_isQuiet_f_X5_isQuietDrift_87 : GoodIn v_f_X5_isQuiet (wsV RX5 87 RX5 yX5_isQuietDrift v_f_X5_isQuietDrift) := goodIn_app (goodIn_of _ (by decide +kernel)) (goodIn_sub (fun _ h => List.mem_cons_of_mem _ (List.mem_append_right _ (List.mem_append_right _ (List.mem_append_left _ h)))) gw_f_X5_isQuietDrift)
theorem hd_X5_isQuiet : yX5_isQuiet.cls = RX5 ∧ yX5_isQuiet.cls ≠ "java/lang/invoke/MethodHandle" ∧ yX5_isQuiet.cls ≠ "java/lang/invoke/VarHandle" ∧ (parseMethodDescriptor yX5_isQuiet.desc).map (fun d => d.parameters.length) = some 1 := by decide +kernel
set_option maxHeartbeats 4000000 in
set_option maxRecDepth 100000 in
theorem f_X5_isQuiet (l : Launch) (E : EE) {a_ a_row a_partners a_share a_leftOver : Nat} {p1 : Int32} {c_askedCount : Int32} {c_outcome : Int32} {c_row : Nat → Int32} {rr : Int32} (hF : F_X5_isQuiet p1 c_row = some rr) : Met l yX5_isQuiet v_f_X5_isQuiet (({ frames := 2, cells := 0, slots := 0, locals := 50 } : Room)) (va_Pc [.ref a_, .int p1] (pP E (w_X5_isQuiet E a_ a_row a_partners a_share a_leftOver c_askedCount c_outcome c_row))) (vp_Si (fun q : Int32 => q = rr ∧ (q = 0 ∨ q = 1))) 0 0 (fun _ => False) := by
  refine Met.ofW (cc := cX5_isQuiet) (maxL := 2) (ret := (some .boolean)) (by decide) rfl ?_
  intro p e s m args below meth c s₁ B hml hv
  obtain ⟨rfl, ⟨hK, hN⟩, hP⟩ := hv
  have hx := B.exec
  have hb := B.bytes
  have hr := B.returns
  have hts := atoms_spec (ws := v_f_X5_isQuiet) B.pre
  have hown : s.vm.findClass RX5 = some m.cls := own_of hd_X5_isQuiet.1 (findClass_of_methodNamed B.named)
  have hlocks : meth.locks = false := B.notSynchronized
  replace hP : va_P E.1 vwCl [(a_, .inr (6, [.ref a_row, .ref a_partners, .int c_askedCount, .int c_outcome, .ref a_share, .ref a_leftOver])), (a_row, .inl (E.2.1, 81, .inl c_row))] s.heap := hP
  have hl := lv_entry ([.ref a_, .int p1]) (n := 2) (Nat.le_of_ble_eq_true rfl)
  rw [lg_entry_eq]
  generalize (lg_sl ([.ref a_, .int p1]) ++ List.replicate (2 - (lg_sl ([.ref a_, .int p1])).length) Slot.unset).toArray = ls at hl ⊢
  have hl : lv_has ls 2 [(0, .ref a_), (1, .int p1)] := hl
  obtain ⟨Q, hQ⟩ : ∃ Q : State → Prop, Q = MQ below (vp_Si (fun q : Int32 => q = rr ∧ (q = 0 ∨ q = 1))) #[Value.ref a_, Value.int p1] s 0 0 (fun _ => False) := ⟨_, rfl⟩
  rw [← hQ]
  change W p l e ({ frames := 2, cells := 0, slots := 0, locals := 50 } : Room) s m #[Value.ref a_, Value.int p1] below meth c s.heap [] 0 0 Q (F0 m 0 ls [])
  unfold F_X5_isQuiet at hF
  refine lv_aload_n hx hb dX5_isQuiet_0 rfl (lv_at hl 0 rfl) ?_
  refine lv_aload_n hx hb dX5_isQuiet_1 rfl (lv_at hl 0 rfl) ?_
  refine lv_iload_n hx hb dX5_isQuiet_2 rfl (lv_at hl 1 rfl) ?_
  refine lv_iconst (v := 0) hx hb dX5_isQuiet_3 (by decide) ?_
  replace hF := bd1_s hF
  obtain ⟨r_1, hc_2, hF⟩ := hF
  have hPc : va_P E.1 vwCl (w_X5_drift E a_ a_row a_partners a_share a_leftOver c_askedCount c_outcome c_row) s.heap := hP.sub (ws' := [(a_, .inr (6, [.ref a_row, .ref a_partners, .int c_askedCount, .int c_outcome, .ref a_share, .ref a_leftOver])), (a_row, .inl (E.2.1, 81, .inl c_row))]) [0, 1] rfl
  have hrc := va_recv hK hPc (ci := 6) (q0 := 0) rfl rfl
  refine pE_i (va_runV (As := [.int p1, .int (0 : Int32)]) (rest := [.ref a_])  ⟨hx, hb, hml, hown, hts⟩ (f_X5_drift l E (a_ := a_) (a_row := a_row) (a_partners := a_partners) (a_share := a_share) (a_leftOver := a_leftOver) (p1 := p1) (p2 := (0 : Int32)) (c_askedCount := c_askedCount) (c_outcome := c_outcome) (c_row := c_row) hc_2) (cwV 2 hts g_f_X5_isQuiet_f_X5_drift_72 rfl rfl rfl hd_X5_drift ⟨Nat.le_of_ble_eq_true rfl, Nat.le_of_ble_eq_true rfl⟩) ⟨pP.blind, hrc, (pP.pre ⟨hK, hN⟩ hPc)⟩ rfl rfl hl.1 rfl (lv_room (Nat.le_of_ble_eq_true rfl)) dX5_isQuiet_4 ⟨Nat.le_of_ble_eq_true rfl, Nat.le_of_ble_eq_true rfl⟩) ?_
  refine lv_aload_n hx hb dX5_isQuiet_7 rfl (lv_at hl 0 rfl) ?_
  refine lv_iload_n hx hb dX5_isQuiet_8 rfl (lv_at hl 1 rfl) ?_
  refine lv_iconst (v := 1) hx hb dX5_isQuiet_9 (by decide) ?_
  replace hF := bd1_s hF
  obtain ⟨r_3, hc_4, hF⟩ := hF
  have hPc : va_P E.1 vwCl (w_X5_drift E a_ a_row a_partners a_share a_leftOver c_askedCount c_outcome c_row) s.heap := hP.sub (ws' := [(a_, .inr (6, [.ref a_row, .ref a_partners, .int c_askedCount, .int c_outcome, .ref a_share, .ref a_leftOver])), (a_row, .inl (E.2.1, 81, .inl c_row))]) [0, 1] rfl
  have hrc := va_recv hK hPc (ci := 6) (q0 := 0) rfl rfl
  refine pE_i (va_runV (As := [.int p1, .int (1 : Int32)]) (rest := [.int r_1, .ref a_])  ⟨hx, hb, hml, hown, hts⟩ (f_X5_drift l E (a_ := a_) (a_row := a_row) (a_partners := a_partners) (a_share := a_share) (a_leftOver := a_leftOver) (p1 := p1) (p2 := (1 : Int32)) (c_askedCount := c_askedCount) (c_outcome := c_outcome) (c_row := c_row) hc_4) (cwV 2 hts g_f_X5_isQuiet_f_X5_drift_72 rfl rfl rfl hd_X5_drift ⟨Nat.le_of_ble_eq_true rfl, Nat.le_of_ble_eq_true rfl⟩) ⟨pP.blind, hrc, (pP.pre ⟨hK, hN⟩ hPc)⟩ rfl rfl hl.1 rfl (lv_room (Nat.le_of_ble_eq_true rfl)) dX5_isQuiet_10 ⟨Nat.le_of_ble_eq_true rfl, Nat.le_of_ble_eq_true rfl⟩) ?_
  replace hF := bd1_s hF
  obtain ⟨r_5, hc_6, hF⟩ := hF
  have hPc : va_P E.1 vwCl (w_X5_isQuietDrift E a_ a_row a_partners a_share a_leftOver c_askedCount c_outcome c_row) s.heap := hP.sub (ws' := [(a_, .inr (6, [.ref a_row, .ref a_partners, .int c_askedCount, .int c_outcome, .ref a_share, .ref a_leftOver])), (a_row, .inl (E.2.1, 81, .inl c_row))]) [0, 1] rfl
  have hrc := va_recv hK hPc (ci := 6) (q0 := 0) rfl rfl
  refine pE_z (va_runV (As := [.int r_1, .int r_3]) (rest := [])  ⟨hx, hb, hml, hown, hts⟩ (f_X5_isQuietDrift l E (a_ := a_) (a_row := a_row) (a_partners := a_partners) (a_share := a_share) (a_leftOver := a_leftOver) (p1 := r_1) (p2 := r_3) (c_askedCount := c_askedCount) (c_outcome := c_outcome) (c_row := c_row) hc_6) (cwV 2 hts g_f_X5_isQuiet_f_X5_isQuietDrift_87 rfl rfl rfl hd_X5_isQuietDrift ⟨Nat.le_of_ble_eq_true rfl, Nat.le_of_ble_eq_true rfl⟩) ⟨pP.blind, hrc, (pP.pre ⟨hK, hN⟩ hPc)⟩ rfl rfl hl.1 rfl (lv_room (Nat.le_of_ble_eq_true rfl)) dX5_isQuiet_13 ⟨Nat.le_of_ble_eq_true rfl, Nat.le_of_ble_eq_true rfl⟩) (fun hb_7 => ?_)
  rw [hQ]
  obtain e9_0 := inj1 hF
  exact W.zret (v := r_5) hx hb hr (nar_bool hb_7) (fun tt ht hW => ⟨_, rfl, ⟨e9_0, hb_7⟩, ht⟩) (fun _ h => by cases h) dX5_isQuiet_16

def F_X5_isFrozen (p1 : Int32) (c_row : Nat → Int32) : Option (Int32) :=
  bd1 (F_X5_hasSite p1 c_row) (fun r_1 => if r_1 = (0 : Int32) then some (0 : Int32) else if ((c_row 7) >>> (p1 &&& (31 : Int32))) &&& (1 : Int32) = (0 : Int32) then some (0 : Int32) else some (1 : Int32))
abbrev w_X5_isFrozen (E : EE) (a_ a_row a_partners a_share a_leftOver : Nat) (c_askedCount : Int32) (c_outcome : Int32) (c_row : Nat → Int32) : va_W := [(a_, .inr (6, [.ref a_row, .ref a_partners, .int c_askedCount, .int c_outcome, .ref a_share, .ref a_leftOver])), (a_row, .inl (E.2.1, 81, .inl c_row))]
def v_f_X5_isFrozen : List Cond := .code yX5_isFrozen cX5_isFrozen 2 (some .boolean) :: ([.fieldLink RX5 11 "HushWatch$State" "row" "[I", .methodLink RX5 79 yX5_hasSite, .instanceMethod yX5_hasSite, .selects RX5 yX5_hasSite yX5_hasSite, .initialized RX5] ++ (v_f_X5_hasSite ++ (wsX50 ++ ([]))))
theorem gw_f_X5_isFrozen : v_f_X5_isFrozen.all goodWord = true := by decide +kernel
theorem i_f_X5_isFrozen_X5 : ∀ w ∈ wsX50, w ∈ v_f_X5_isFrozen := fun _ h => List.mem_cons_of_mem _ (List.mem_append_right _ (List.mem_append_right _ (List.mem_append_left _ h)))
theorem g_f_X5_isFrozen_f_X5_hasSite_79 : GoodIn v_f_X5_isFrozen (wsV RX5 79 RX5 yX5_hasSite v_f_X5_hasSite) := goodIn_app (goodIn_of _ (by decide +kernel)) (goodIn_sub (fun _ h => List.mem_cons_of_mem _ (List.mem_append_right _ (List.mem_append_left _ h))) gw_f_X5_hasSite)
theorem hd_X5_isFrozen : yX5_isFrozen.cls = RX5 ∧ yX5_isFrozen.cls ≠ "java/lang/invoke/MethodHandle" ∧ yX5_isFrozen.cls ≠ "java/lang/invoke/VarHandle" ∧ (parseMethodDescriptor yX5_isFrozen.desc).map (fun d => d.parameters.length) = some 1 := by decide +kernel
set_option maxHeartbeats 4000000 in
set_option maxRecDepth 100000 in
theorem f_X5_isFrozen (l : Launch) (E : EE) {a_ a_row a_partners a_share a_leftOver : Nat} {p1 : Int32} {c_askedCount : Int32} {c_outcome : Int32} {c_row : Nat → Int32} {rr : Int32} (hF : F_X5_isFrozen p1 c_row = some rr) : Met l yX5_isFrozen v_f_X5_isFrozen (({ frames := 1, cells := 0, slots := 0, locals := 21 } : Room)) (va_Pc [.ref a_, .int p1] (pP E (w_X5_isFrozen E a_ a_row a_partners a_share a_leftOver c_askedCount c_outcome c_row))) (vp_Si (fun q : Int32 => q = rr ∧ (q = 0 ∨ q = 1))) 0 0 (fun _ => False) := by
  refine Met.ofW (cc := cX5_isFrozen) (maxL := 2) (ret := (some .boolean)) (by decide) rfl ?_
  intro p e s m args below meth c s₁ B hml hv
  obtain ⟨rfl, ⟨hK, hN⟩, hP⟩ := hv
  have hx := B.exec
  have hb := B.bytes
  have hr := B.returns
  have hts := atoms_spec (ws := v_f_X5_isFrozen) B.pre
  have hown : s.vm.findClass RX5 = some m.cls := own_of hd_X5_isFrozen.1 (findClass_of_methodNamed B.named)
  have hlocks : meth.locks = false := B.notSynchronized
  replace hP : va_P E.1 vwCl [(a_, .inr (6, [.ref a_row, .ref a_partners, .int c_askedCount, .int c_outcome, .ref a_share, .ref a_leftOver])), (a_row, .inl (E.2.1, 81, .inl c_row))] s.heap := hP
  have hl := lv_entry ([.ref a_, .int p1]) (n := 2) (Nat.le_of_ble_eq_true rfl)
  rw [lg_entry_eq]
  generalize (lg_sl ([.ref a_, .int p1]) ++ List.replicate (2 - (lg_sl ([.ref a_, .int p1])).length) Slot.unset).toArray = ls at hl ⊢
  have hl : lv_has ls 2 [(0, .ref a_), (1, .int p1)] := hl
  obtain ⟨Q, hQ⟩ : ∃ Q : State → Prop, Q = MQ below (vp_Si (fun q : Int32 => q = rr ∧ (q = 0 ∨ q = 1))) #[Value.ref a_, Value.int p1] s 0 0 (fun _ => False) := ⟨_, rfl⟩
  rw [← hQ]
  change W p l e ({ frames := 1, cells := 0, slots := 0, locals := 21 } : Room) s m #[Value.ref a_, Value.int p1] below meth c s.heap [] 0 0 Q (F0 m 0 ls [])
  unfold F_X5_isFrozen at hF
  refine lv_aload_n hx hb dX5_isFrozen_0 rfl (lv_at hl 0 rfl) ?_
  refine lv_iload_n hx hb dX5_isFrozen_1 rfl (lv_at hl 1 rfl) ?_
  replace hF := bd1_s hF
  obtain ⟨r_1, hc_2, hF⟩ := hF
  have hPc : va_P E.1 vwCl (w_X5_hasSite E a_ a_row a_partners a_share a_leftOver c_askedCount c_outcome c_row) s.heap := hP.sub (ws' := [(a_, .inr (6, [.ref a_row, .ref a_partners, .int c_askedCount, .int c_outcome, .ref a_share, .ref a_leftOver])), (a_row, .inl (E.2.1, 81, .inl c_row))]) [0, 1] rfl
  have hrc := va_recv hK hPc (ci := 6) (q0 := 0) rfl rfl
  refine pE_z (va_runV (As := [.int p1]) (rest := [])  ⟨hx, hb, hml, hown, hts⟩ (f_X5_hasSite l E (a_ := a_) (a_row := a_row) (a_partners := a_partners) (a_share := a_share) (a_leftOver := a_leftOver) (p1 := p1) (c_askedCount := c_askedCount) (c_outcome := c_outcome) (c_row := c_row) hc_2) (cwV 1 hts g_f_X5_isFrozen_f_X5_hasSite_79 rfl rfl rfl hd_X5_hasSite ⟨Nat.le_of_ble_eq_true rfl, Nat.le_of_ble_eq_true rfl⟩) ⟨pP.blind, hrc, (pP.pre ⟨hK, hN⟩ hPc)⟩ rfl rfl hl.1 rfl (lv_room (Nat.le_of_ble_eq_true rfl)) dX5_isFrozen_2 ⟨Nat.le_of_ble_eq_true rfl, Nat.le_of_ble_eq_true rfl⟩) (fun hb_3 => ?_)
  refine lv_if_eq (tgt := 26) hx hb dX5_isFrozen_5 (by decide) (fun c_4 => ?_) (fun c_4 => ?_)
  ·
    replace hF := ip c_4 hF
    refine lv_iconst (v := 0) hx hb dX5_isFrozen_26 (by decide) ?_
    rw [hQ]
    obtain e9_0 := inj1 hF
    exact W.zret (v := (0 : Int32)) hx hb hr rfl (fun tt ht hW => ⟨_, rfl, ⟨e9_0, Or.inl rfl⟩, ht⟩) (fun _ h => by cases h) dX5_isFrozen_27
  ·
    replace hF := inn c_4 hF
    refine lv_aload_n hx hb dX5_isFrozen_8 rfl (lv_at hl 0 rfl) ?_
    refine gt_X5_0 (v := .ref a_row) hx hb hts i_f_X5_isFrozen_X5 hown hK hP 0 rfl (hts (.fieldLink RX5 11 "HushWatch$State" "row" "[I") (List.mem_of_getElem? (i := 1) rfl)) rfl dX5_isFrozen_9 ?_
    refine lv_bipush (v := 7) hx hb dX5_isFrozen_12 (by decide) ?_
    refine va_iald hx hb hK hP 1 0 rfl rfl (vin rfl) dX5_isFrozen_14 ?_
    refine W.eq (g2 := F0 m 15 ls [.int (c_row 7)]) rfl ?_
    refine lv_iload_n hx hb dX5_isFrozen_15 rfl (lv_at hl 1 rfl) ?_
    refine lv_ishr hx hb dX5_isFrozen_16 ?_
    refine lv_iconst (v := 1) hx hb dX5_isFrozen_17 (by decide) ?_
    refine lv_iand hx hb dX5_isFrozen_18 ?_
    refine lv_if_eq (tgt := 26) hx hb dX5_isFrozen_19 (by decide) (fun c_5 => ?_) (fun c_5 => ?_)
    ·
      replace hF := ip c_5 hF
      refine lv_iconst (v := 0) hx hb dX5_isFrozen_26 (by decide) ?_
      rw [hQ]
      obtain e9_0 := inj1 hF
      exact W.zret (v := (0 : Int32)) hx hb hr rfl (fun tt ht hW => ⟨_, rfl, ⟨e9_0, Or.inl rfl⟩, ht⟩) (fun _ h => by cases h) dX5_isFrozen_27
    ·
      replace hF := inn c_5 hF
      refine lv_iconst (v := 1) hx hb dX5_isFrozen_22 (by decide) ?_
      refine lv_goto (tgt := 27) hx hb dX5_isFrozen_23 (by decide) ?_
      rw [hQ]
      obtain e9_0 := inj1 hF
      exact W.zret (v := (1 : Int32)) hx hb hr rfl (fun tt ht hW => ⟨_, rfl, ⟨e9_0, Or.inr rfl⟩, ht⟩) (fun _ h => by cases h) dX5_isFrozen_27

def F_X5_noteAsked (p1 : Int32) (c_partners : Nat → Int32) (c_askedCount : Int32) : Option ((Nat → Int32) × Int32) :=
  if (8 : Int32) ≤ c_askedCount then some (c_partners, c_askedCount) else ixF c_askedCount 8 (nmF (upd c_partners c_askedCount.toNatClampNeg p1) (fun f_3 => some (f_3, c_askedCount + (1 : Int32))))
abbrev w_X5_noteAsked (E : EE) (a_ a_row a_partners a_share a_leftOver : Nat) (c_askedCount : Int32) (c_outcome : Int32) (c_partners : Nat → Int32) : va_W := [(a_, .inr (6, [.ref a_row, .ref a_partners, .int c_askedCount, .int c_outcome, .ref a_share, .ref a_leftOver])), (a_partners, .inl (E.2.1, 8, .inl c_partners))]
def v_f_X5_noteAsked : List Cond := .code yX5_noteAsked cX5_noteAsked 2 none :: ([.fieldLink RX5 18 "HushWatch$State" "askedCount" "I", .fieldLink RX5 15 "HushWatch$State" "partners" "[I"] ++ (wsX50 ++ ([])))
theorem gw_f_X5_noteAsked : v_f_X5_noteAsked.all goodWord = true := by decide +kernel
theorem i_f_X5_noteAsked_X5 : ∀ w ∈ wsX50, w ∈ v_f_X5_noteAsked := fun _ h => List.mem_cons_of_mem _ (List.mem_append_right _ (List.mem_append_left _ h))
theorem hd_X5_noteAsked : yX5_noteAsked.cls = RX5 ∧ yX5_noteAsked.cls ≠ "java/lang/invoke/MethodHandle" ∧ yX5_noteAsked.cls ≠ "java/lang/invoke/VarHandle" ∧ (parseMethodDescriptor yX5_noteAsked.desc).map (fun d => d.parameters.length) = some 1 := by decide +kernel
set_option maxHeartbeats 4000000 in
set_option maxRecDepth 100000 in
theorem f_X5_noteAsked (l : Launch) (E : EE) (sz : Nat) {a_ a_row a_partners a_share a_leftOver : Nat} {p1 : Int32} {c_askedCount : Int32} {c_outcome : Int32} {c_partners : Nat → Int32} {n_partners : Nat → Int32} {n_askedCount : Int32} (hF : F_X5_noteAsked p1 c_partners c_askedCount = some (n_partners, n_askedCount)) : Met l yX5_noteAsked v_f_X5_noteAsked (({ frames := 0, cells := 0, slots := 0, locals := 0 } : Room)) (va_Pc [.ref a_, .int p1] (pW E sz (w_X5_noteAsked E a_ a_row a_partners a_share a_leftOver c_askedCount c_outcome c_partners))) (va_Qv (fun (_u : Unit) => True) (fun (_u : Unit) tt => va_P E.1 vwCl (w_X5_noteAsked E a_ a_row a_partners a_share a_leftOver n_askedCount c_outcome n_partners) tt.heap ∧ va_D (va_A (w_X5_noteAsked E a_ a_row a_partners a_share a_leftOver c_askedCount c_outcome c_partners) sz) (w_X5_noteAsked E a_ a_row a_partners a_share a_leftOver n_askedCount c_outcome n_partners)) (va_A (w_X5_noteAsked E a_ a_row a_partners a_share a_leftOver c_askedCount c_outcome c_partners) sz)) 0 0 (va_A (w_X5_noteAsked E a_ a_row a_partners a_share a_leftOver c_askedCount c_outcome c_partners) sz) := by
  refine Met.ofW (cc := cX5_noteAsked) (maxL := 2) (ret := none) (by decide) rfl ?_
  intro p e s m args below meth c s₁ B hml hv
  obtain ⟨rfl, hsz, ⟨hK, hN⟩, hP, hD0⟩ := hv
  have hx := B.exec
  have hb := B.bytes
  have hr := B.returns
  have hts := atoms_spec (ws := v_f_X5_noteAsked) B.pre
  have hown : s.vm.findClass RX5 = some m.cls := own_of hd_X5_noteAsked.1 (findClass_of_methodNamed B.named)
  have hlocks : meth.locks = false := B.notSynchronized
  subst hsz
  have hD := hD0.self (sz := s.heap.size)
  generalize hAe : va_A (w_X5_noteAsked E a_ a_row a_partners a_share a_leftOver c_askedCount c_outcome c_partners) s.heap.size = A at hD ⊢
  have hA : ∀ q : Nat, s.heap.size ≤ q → A q := fun q h => by rw [← hAe]; exact Or.inr h
  have hS : va_S A s.heap s.heap [] := va_S.rf
  have hl := lv_entry ([.ref a_, .int p1]) (n := 2) (Nat.le_of_ble_eq_true rfl)
  rw [lg_entry_eq]
  generalize (lg_sl ([.ref a_, .int p1]) ++ List.replicate (2 - (lg_sl ([.ref a_, .int p1])).length) Slot.unset).toArray = ls at hl ⊢
  have hl : lv_has ls 2 [(0, .ref a_), (1, .int p1)] := hl
  obtain ⟨Q, hQ⟩ : ∃ Q : State → Prop, Q = MQ below (va_Qv (fun (_u : Unit) => True) (fun (_u : Unit) tt => va_P E.1 vwCl (w_X5_noteAsked E a_ a_row a_partners a_share a_leftOver n_askedCount c_outcome n_partners) tt.heap ∧ va_D A (w_X5_noteAsked E a_ a_row a_partners a_share a_leftOver n_askedCount c_outcome n_partners)) A) #[Value.ref a_, Value.int p1] s 0 0 A := ⟨_, rfl⟩
  rw [← hQ]
  change W p l e ({ frames := 0, cells := 0, slots := 0, locals := 0 } : Room) s m #[Value.ref a_, Value.int p1] below meth c s.heap [] 0 0 Q (F0 m 0 ls [])
  suffices hh9 : ∀ (H : Heap) (locs : List Loc), va_P E.1 vwCl (w_X5_noteAsked E a_ a_row a_partners a_share a_leftOver c_askedCount c_outcome c_partners) H → va_D A (w_X5_noteAsked E a_ a_row a_partners a_share a_leftOver c_askedCount c_outcome c_partners) → va_S A s.heap H locs → W p l e ({ frames := 0, cells := 0, slots := 0, locals := 0 } : Room) s m #[Value.ref a_, Value.int p1] below meth c H locs 0 0 Q (F0 m 0 ls []) from hh9 s.heap [] hP hD hS
  clear hP hD hS
  intro H locs hP hD hS
  replace hP : va_P E.1 vwCl [(a_, .inr (6, [.ref a_row, .ref a_partners, .int c_askedCount, .int c_outcome, .ref a_share, .ref a_leftOver])), (a_partners, .inl (E.2.1, 8, .inl c_partners))] H := hP
  replace hD : va_D A [(a_, .inr (6, [.ref a_row, .ref a_partners, .int c_askedCount, .int c_outcome, .ref a_share, .ref a_leftOver])), (a_partners, .inl (E.2.1, 8, .inl c_partners))] := hD
  unfold F_X5_noteAsked at hF
  refine lv_aload_n hx hb dX5_noteAsked_0 rfl (lv_at hl 0 rfl) ?_
  refine gt_X5_2 (v := .int c_askedCount) hx hb hts i_f_X5_noteAsked_X5 hown hK hP 0 rfl (hts (.fieldLink RX5 18 "HushWatch$State" "askedCount" "I") (List.mem_of_getElem? (i := 1) rfl)) rfl dX5_noteAsked_1 ?_
  refine lv_bipush (v := 8) hx hb dX5_noteAsked_4 (by decide) ?_
  refine lv_icmp_ge (tgt := 29) hx hb dX5_noteAsked_6 (by decide) (fun c_1 => ?_) (fun c_1 => ?_)
  ·
    replace hF := ip c_1 hF
    rw [hQ]
    have h9 := fin9 (P := fun u9 : (Nat → Int32) × Int32 => va_P E.1 vwCl (w_X5_noteAsked E a_ a_row a_partners a_share a_leftOver u9.2 c_outcome u9.1) H ∧ va_D A (w_X5_noteAsked E a_ a_row a_partners a_share a_leftOver u9.2 c_outcome u9.1)) hF ⟨hP, hD⟩
    obtain ⟨hP9, hD9⟩ := h9
    exact W.vret hx hb hr (fun tt ht hW => ⟨⟨(), rfl, trivial, ht ▸ hP9, hD9⟩, hS.F ht⟩) hS.2.2 dX5_noteAsked_29
  ·
    replace hF := inn c_1 hF
    refine lv_aload_n hx hb dX5_noteAsked_9 rfl (lv_at hl 0 rfl) ?_
    refine gt_X5_1 (v := .ref a_partners) hx hb hts i_f_X5_noteAsked_X5 hown hK hP 0 rfl (hts (.fieldLink RX5 15 "HushWatch$State" "partners" "[I") (List.mem_of_getElem? (i := 2) rfl)) rfl dX5_noteAsked_10 ?_
    refine lv_aload_n hx hb dX5_noteAsked_13 rfl (lv_at hl 0 rfl) ?_
    refine gt_X5_2 (v := .int c_askedCount) hx hb hts i_f_X5_noteAsked_X5 hown hK hP 0 rfl (hts (.fieldLink RX5 18 "HushWatch$State" "askedCount" "I") (List.mem_of_getElem? (i := 1) rfl)) rfl dX5_noteAsked_14 ?_
    refine lv_iload_n hx hb dX5_noteAsked_17 rfl (lv_at hl 1 rfl) ?_
    replace hF := ix_s hF
    obtain ⟨hi_2, hF⟩ := hF
    refine va_iast hx hb hK hP hD hS 1 0 rfl rfl hi_2 dX5_noteAsked_18 (fun H locs hP hD hS => ?_)
    replace hP : va_P E.1 vwCl [(a_, .inr (6, [.ref a_row, .ref a_partners, .int c_askedCount, .int c_outcome, .ref a_share, .ref a_leftOver])), (a_partners, .inl (E.2.1, 8, .inl (upd c_partners c_askedCount.toNatClampNeg p1)))] H := hP
    replace hD : va_D A [(a_, .inr (6, [.ref a_row, .ref a_partners, .int c_askedCount, .int c_outcome, .ref a_share, .ref a_leftOver])), (a_partners, .inl (E.2.1, 8, .inl (upd c_partners c_askedCount.toNatClampNeg p1)))] := hD
    replace hF := nm_s hF
    obtain ⟨f_3, hf_3, hF⟩ := hF
    rw [← hf_3] at hP hD
    refine lv_aload_n hx hb dX5_noteAsked_19 rfl (lv_at hl 0 rfl) ?_
    refine lv_dup hx hb dX5_noteAsked_20 rfl ?_
    refine gt_X5_2 (v := .int c_askedCount) hx hb hts i_f_X5_noteAsked_X5 hown hK hP 0 rfl (hts (.fieldLink RX5 18 "HushWatch$State" "askedCount" "I") (List.mem_of_getElem? (i := 1) rfl)) rfl dX5_noteAsked_21 ?_
    refine lv_iconst (v := 1) hx hb dX5_noteAsked_24 (by decide) ?_
    refine lv_iadd hx hb dX5_noteAsked_25 ?_
    refine pt_X5_2 (v := .int (c_askedCount + (1 : Int32))) hx hb hts i_f_X5_noteAsked_X5 hown hK hP hD hS 0 rfl (hts (.fieldLink RX5 18 "HushWatch$State" "askedCount" "I") (List.mem_of_getElem? (i := 1) rfl)) rfl rfl (Nat.le_of_ble_eq_true rfl) dX5_noteAsked_26 (fun H locs hP hD hS => ?_)
    replace hP : va_P E.1 vwCl [(a_, .inr (6, [.ref a_row, .ref a_partners, .int (c_askedCount + (1 : Int32)), .int c_outcome, .ref a_share, .ref a_leftOver])), (a_partners, .inl (E.2.1, 8, .inl f_3))] H := hP
    replace hD : va_D A [(a_, .inr (6, [.ref a_row, .ref a_partners, .int (c_askedCount + (1 : Int32)), .int c_outcome, .ref a_share, .ref a_leftOver])), (a_partners, .inl (E.2.1, 8, .inl f_3))] := hD
    rw [hQ]
    have h9 := fin9 (P := fun u9 : (Nat → Int32) × Int32 => va_P E.1 vwCl (w_X5_noteAsked E a_ a_row a_partners a_share a_leftOver u9.2 c_outcome u9.1) H ∧ va_D A (w_X5_noteAsked E a_ a_row a_partners a_share a_leftOver u9.2 c_outcome u9.1)) hF ⟨hP, hD⟩
    obtain ⟨hP9, hD9⟩ := h9
    exact W.vret hx hb hr (fun tt ht hW => ⟨⟨(), rfl, trivial, ht ▸ hP9, hD9⟩, hS.F ht⟩) hS.2.2 dX5_noteAsked_29

def J_X5_hearAll_41 (k0 : Int32) (c_row : Nat → Int32) : Option ((Nat → Int32)) :=
  if k0 = c_row 6 then nmF (upd c_row 6 k0) (fun f_9 => some f_9) else nmF (upd c_row 15 ((c_row 15) + (1 : Int32))) (fun f_10 => nmF (upd f_10 6 k0) (fun f_11 => some f_11))
def F_X5_hearAll (K : Nat) (c_row : Nat → Int32) : Option ((Nat → Int32)) :=
  bd1 (F_X5_hearPlaces K c_row) (fun w_1 => nmF (upd w_1 14 ((w_1 14) + (1 : Int32))) (fun f_3 => bd1 (F_X5_allows ((f_3 4).toInt64) ((f_3 5).toInt64) f_3) (fun r_4 => if r_4 = (0 : Int32) then J_X5_hearAll_41 (1 : Int32) f_3 else J_X5_hearAll_41 (0 : Int32) f_3)))
abbrev w_X5_hearAll (E : EE) (a_ a_row a_partners a_share a_leftOver : Nat) (c_askedCount : Int32) (c_outcome : Int32) (c_row : Nat → Int32) : va_W := [(a_, .inr (6, [.ref a_row, .ref a_partners, .int c_askedCount, .int c_outcome, .ref a_share, .ref a_leftOver])), (a_row, .inl (E.2.1, 81, .inl c_row))]
def v_f_X5_hearAll : List Cond := .code yX5_hearAll cX5_hearAll 2 none :: ([.fieldLink RX5 11 "HushWatch$State" "row" "[I", .methodLink RX5 56 yX5_hearPlaces, .instanceMethod yX5_hearPlaces, .selects RX5 yX5_hearPlaces yX5_hearPlaces, .initialized RX5, .methodLink RX5 59 yX5_allows, .instanceMethod yX5_allows, .selects RX5 yX5_allows yX5_allows] ++ (v_f_X5_hearPlaces ++ (wsX50 ++ (v_f_X5_allows ++ ([])))))
theorem gw_f_X5_hearAll : v_f_X5_hearAll.all goodWord = true := by decide +kernel
theorem i_f_X5_hearAll_X5 : ∀ w ∈ wsX50, w ∈ v_f_X5_hearAll := fun _ h => List.mem_cons_of_mem _ (List.mem_append_right _ (List.mem_append_right _ (List.mem_append_left _ h)))
theorem g_f_X5_hearAll_f_X5_hearPlaces_56 : GoodIn v_f_X5_hearAll (wsV RX5 56 RX5 yX5_hearPlaces v_f_X5_hearPlaces) := goodIn_app (goodIn_of _ (by decide +kernel)) (goodIn_sub (fun _ h => List.mem_cons_of_mem _ (List.mem_append_right _ (List.mem_append_left _ h))) gw_f_X5_hearPlaces)
theorem g_f_X5_hearAll_f_X5_allows_59 : GoodIn v_f_X5_hearAll (wsV RX5 59 RX5 yX5_allows v_f_X5_allows) := goodIn_app (goodIn_of _ (by decide +kernel)) (goodIn_sub (fun _ h => List.mem_cons_of_mem _ (List.mem_append_right _ (List.mem_append_right _ (List.mem_append_right _ (List.mem_append_left _ h))))) gw_f_X5_allows)
theorem hd_X5_hearAll : yX5_hearAll.cls = RX5 ∧ yX5_hearAll.cls ≠ "java/lang/invoke/MethodHandle" ∧ yX5_hearAll.cls ≠ "java/lang/invoke/VarHandle" ∧ (parseMethodDescriptor yX5_hearAll.desc).map (fun d => d.parameters.length) = some 0 := by decide +kernel
set_option maxHeartbeats 4000000 in
set_option maxRecDepth 100000 in
theorem j_X5_hearAll_41 {p : Program} (l : Launch) {e : Env} {s : State} {m : MethodId} {below : List Frame} {meth : Method} {c : Code} {Q : State → Prop} (E : EE) (K : Nat) {a_ a_row a_partners a_share a_leftOver : Nat} {c_askedCount : Int32} {c_outcome : Int32} {k0 : Int32} {c_row : Nat → Int32} (hx : p.tables.exec = Jvm.exec) (hb : c.code = cX5_hearAll) (hml : c.maxLocals = 2) (hown : s.vm.findClass RX5 = some m.cls) (hts : ∀ w ∈ v_f_X5_hearAll, w.before #[Value.ref a_] s = true) (hK : va_K E.1 vwCl (TY E) s) (hN : NX s) {A : Nat → Prop} (hA : ∀ q : Nat, s.heap.size ≤ q → A q) {n_row : Nat → Int32} (hr : meth.sig.returnType = none) (hlocks : meth.locks = false) (hQ : Q = MQ below (va_Qv (fun (_u : Unit) => True) (fun (_u : Unit) tt => va_P E.1 vwCl (w_X5_hearAll E a_ a_row a_partners a_share a_leftOver c_askedCount c_outcome n_row) tt.heap ∧ va_D A (w_X5_hearAll E a_ a_row a_partners a_share a_leftOver c_askedCount c_outcome n_row)) A) #[Value.ref a_] s 0 0 A) (hF : J_X5_hearAll_41 k0 c_row = some n_row) : ∀ (H : Heap) (locs : List Loc) (ls : Array Slot), va_P E.1 vwCl (w_X5_hearAll E a_ a_row a_partners a_share a_leftOver c_askedCount c_outcome c_row) H → va_D A (w_X5_hearAll E a_ a_row a_partners a_share a_leftOver c_askedCount c_outcome c_row) → va_S A s.heap H locs → lv_has ls 2 [(0, .ref a_)] → W p l e ({ frames := 2, cells := 0, slots := 0, locals := 52 } : Room) s m #[Value.ref a_] below meth c H locs 0 0 Q (F0 m 41 ls [.int k0]) := by
  unfold J_X5_hearAll_41 at hF
  intro H locs ls hP hD hS hl
  replace hP : va_P E.1 vwCl [(a_, .inr (6, [.ref a_row, .ref a_partners, .int c_askedCount, .int c_outcome, .ref a_share, .ref a_leftOver])), (a_row, .inl (E.2.1, 81, .inl c_row))] H := hP
  replace hD : va_D A [(a_, .inr (6, [.ref a_row, .ref a_partners, .int c_askedCount, .int c_outcome, .ref a_share, .ref a_leftOver])), (a_row, .inl (E.2.1, 81, .inl c_row))] := hD
  refine lv_istore_n (lv' := [(1, .int k0), (0, .ref a_)]) hx hb dX5_hearAll_41 rfl hl (by decide) rfl (fun ls hl => ?_)
  refine lv_iload_n hx hb dX5_hearAll_42 rfl (lv_at hl 0 rfl) ?_
  refine lv_aload_n hx hb dX5_hearAll_43 rfl (lv_at hl 1 rfl) ?_
  refine gt_X5_0 (v := .ref a_row) hx hb hts i_f_X5_hearAll_X5 hown hK hP 0 rfl (hts (.fieldLink RX5 11 "HushWatch$State" "row" "[I") (List.mem_of_getElem? (i := 1) rfl)) rfl dX5_hearAll_44 ?_
  refine lv_bipush (v := 6) hx hb dX5_hearAll_47 (by decide) ?_
  refine va_iald hx hb hK hP 1 0 rfl rfl (vin rfl) dX5_hearAll_49 ?_
  refine W.eq (g2 := F0 m 50 ls [.int (c_row 6), .int k0]) rfl ?_
  refine lv_icmp_eq (tgt := 64) hx hb dX5_hearAll_50 (by decide) (fun c_8 => ?_) (fun c_8 => ?_)
  ·
    replace hF := ip c_8 hF
    refine lv_aload_n hx hb dX5_hearAll_64 rfl (lv_at hl 1 rfl) ?_
    refine gt_X5_0 (v := .ref a_row) hx hb hts i_f_X5_hearAll_X5 hown hK hP 0 rfl (hts (.fieldLink RX5 11 "HushWatch$State" "row" "[I") (List.mem_of_getElem? (i := 1) rfl)) rfl dX5_hearAll_65 ?_
    refine lv_bipush (v := 6) hx hb dX5_hearAll_68 (by decide) ?_
    refine lv_iload_n hx hb dX5_hearAll_70 rfl (lv_at hl 0 rfl) ?_
    refine va_iast hx hb hK hP hD hS 1 0 rfl rfl (vin rfl) dX5_hearAll_71 (fun H locs hP hD hS => ?_)
    replace hP : va_P E.1 vwCl [(a_, .inr (6, [.ref a_row, .ref a_partners, .int c_askedCount, .int c_outcome, .ref a_share, .ref a_leftOver])), (a_row, .inl (E.2.1, 81, .inl (upd c_row 6 k0)))] H := hP
    replace hD : va_D A [(a_, .inr (6, [.ref a_row, .ref a_partners, .int c_askedCount, .int c_outcome, .ref a_share, .ref a_leftOver])), (a_row, .inl (E.2.1, 81, .inl (upd c_row 6 k0)))] := hD
    replace hF := nm_s hF
    obtain ⟨f_9, hf_9, hF⟩ := hF
    rw [← hf_9] at hP hD
    rw [hQ]
    have h9 := fin9 (P := fun u9 : (Nat → Int32) => va_P E.1 vwCl (w_X5_hearAll E a_ a_row a_partners a_share a_leftOver c_askedCount c_outcome u9) H ∧ va_D A (w_X5_hearAll E a_ a_row a_partners a_share a_leftOver c_askedCount c_outcome u9)) hF ⟨hP, hD⟩
    obtain ⟨hP9, hD9⟩ := h9
    exact W.vret hx hb hr (fun tt ht hW => ⟨⟨(), rfl, trivial, ht ▸ hP9, hD9⟩, hS.F ht⟩) hS.2.2 dX5_hearAll_72
  ·
    replace hF := inn c_8 hF
    refine lv_aload_n hx hb dX5_hearAll_53 rfl (lv_at hl 1 rfl) ?_
    refine gt_X5_0 (v := .ref a_row) hx hb hts i_f_X5_hearAll_X5 hown hK hP 0 rfl (hts (.fieldLink RX5 11 "HushWatch$State" "row" "[I") (List.mem_of_getElem? (i := 1) rfl)) rfl dX5_hearAll_54 ?_
    refine lv_bipush (v := 15) hx hb dX5_hearAll_57 (by decide) ?_
    refine lv_dup2_11 hx hb dX5_hearAll_59 rfl rfl ?_
    refine va_iald hx hb hK hP 1 0 rfl rfl (vin rfl) dX5_hearAll_60 ?_
    refine W.eq (g2 := F0 m 61 ls [.int (c_row 15), .int (15 : Int32), .ref a_row]) rfl ?_
    refine lv_iconst (v := 1) hx hb dX5_hearAll_61 (by decide) ?_
    refine lv_iadd hx hb dX5_hearAll_62 ?_
    refine va_iast hx hb hK hP hD hS 1 0 rfl rfl (vin rfl) dX5_hearAll_63 (fun H locs hP hD hS => ?_)
    replace hP : va_P E.1 vwCl [(a_, .inr (6, [.ref a_row, .ref a_partners, .int c_askedCount, .int c_outcome, .ref a_share, .ref a_leftOver])), (a_row, .inl (E.2.1, 81, .inl (upd c_row 15 ((c_row 15) + (1 : Int32)))))] H := hP
    replace hD : va_D A [(a_, .inr (6, [.ref a_row, .ref a_partners, .int c_askedCount, .int c_outcome, .ref a_share, .ref a_leftOver])), (a_row, .inl (E.2.1, 81, .inl (upd c_row 15 ((c_row 15) + (1 : Int32)))))] := hD
    replace hF := nm_s hF
    obtain ⟨f_10, hf_10, hF⟩ := hF
    rw [← hf_10] at hP hD
    refine lv_aload_n hx hb dX5_hearAll_64 rfl (lv_at hl 1 rfl) ?_
    refine gt_X5_0 (v := .ref a_row) hx hb hts i_f_X5_hearAll_X5 hown hK hP 0 rfl (hts (.fieldLink RX5 11 "HushWatch$State" "row" "[I") (List.mem_of_getElem? (i := 1) rfl)) rfl dX5_hearAll_65 ?_
    refine lv_bipush (v := 6) hx hb dX5_hearAll_68 (by decide) ?_
    refine lv_iload_n hx hb dX5_hearAll_70 rfl (lv_at hl 0 rfl) ?_
    refine va_iast hx hb hK hP hD hS 1 0 rfl rfl (vin rfl) dX5_hearAll_71 (fun H locs hP hD hS => ?_)
    replace hP : va_P E.1 vwCl [(a_, .inr (6, [.ref a_row, .ref a_partners, .int c_askedCount, .int c_outcome, .ref a_share, .ref a_leftOver])), (a_row, .inl (E.2.1, 81, .inl (upd f_10 6 k0)))] H := hP
    replace hD : va_D A [(a_, .inr (6, [.ref a_row, .ref a_partners, .int c_askedCount, .int c_outcome, .ref a_share, .ref a_leftOver])), (a_row, .inl (E.2.1, 81, .inl (upd f_10 6 k0)))] := hD
    replace hF := nm_s hF
    obtain ⟨f_11, hf_11, hF⟩ := hF
    rw [← hf_11] at hP hD
    rw [hQ]
    have h9 := fin9 (P := fun u9 : (Nat → Int32) => va_P E.1 vwCl (w_X5_hearAll E a_ a_row a_partners a_share a_leftOver c_askedCount c_outcome u9) H ∧ va_D A (w_X5_hearAll E a_ a_row a_partners a_share a_leftOver c_askedCount c_outcome u9)) hF ⟨hP, hD⟩
    obtain ⟨hP9, hD9⟩ := h9
    exact W.vret hx hb hr (fun tt ht hW => ⟨⟨(), rfl, trivial, ht ▸ hP9, hD9⟩, hS.F ht⟩) hS.2.2 dX5_hearAll_72

set_option maxHeartbeats 4000000 in
set_option maxRecDepth 100000 in
theorem f_X5_hearAll (l : Launch) (E : EE) (sz : Nat) (K : Nat) {a_ a_row a_partners a_share a_leftOver : Nat} {c_askedCount : Int32} {c_outcome : Int32} {c_row : Nat → Int32} {n_row : Nat → Int32} (hF : F_X5_hearAll K c_row = some n_row) : Met l yX5_hearAll v_f_X5_hearAll (({ frames := 2, cells := 0, slots := 0, locals := 52 } : Room)) (va_Pc [.ref a_] (pW E sz (w_X5_hearAll E a_ a_row a_partners a_share a_leftOver c_askedCount c_outcome c_row))) (va_Qv (fun (_u : Unit) => True) (fun (_u : Unit) tt => va_P E.1 vwCl (w_X5_hearAll E a_ a_row a_partners a_share a_leftOver c_askedCount c_outcome n_row) tt.heap ∧ va_D (va_A (w_X5_hearAll E a_ a_row a_partners a_share a_leftOver c_askedCount c_outcome c_row) sz) (w_X5_hearAll E a_ a_row a_partners a_share a_leftOver c_askedCount c_outcome n_row)) (va_A (w_X5_hearAll E a_ a_row a_partners a_share a_leftOver c_askedCount c_outcome c_row) sz)) 0 0 (va_A (w_X5_hearAll E a_ a_row a_partners a_share a_leftOver c_askedCount c_outcome c_row) sz) := by
  refine Met.ofW (cc := cX5_hearAll) (maxL := 2) (ret := none) (by decide) rfl ?_
  intro p e s m args below meth c s₁ B hml hv
  obtain ⟨rfl, hsz, ⟨hK, hN⟩, hP, hD0⟩ := hv
  have hx := B.exec
  have hb := B.bytes
  have hr := B.returns
  have hts := atoms_spec (ws := v_f_X5_hearAll) B.pre
  have hown : s.vm.findClass RX5 = some m.cls := own_of hd_X5_hearAll.1 (findClass_of_methodNamed B.named)
  have hlocks : meth.locks = false := B.notSynchronized
  subst hsz
  have hD := hD0.self (sz := s.heap.size)
  generalize hAe : va_A (w_X5_hearAll E a_ a_row a_partners a_share a_leftOver c_askedCount c_outcome c_row) s.heap.size = A at hD ⊢
  have hA : ∀ q : Nat, s.heap.size ≤ q → A q := fun q h => by rw [← hAe]; exact Or.inr h
  have hS : va_S A s.heap s.heap [] := va_S.rf
  have hl := lv_entry ([.ref a_]) (n := 2) (Nat.le_of_ble_eq_true rfl)
  rw [lg_entry_eq]
  generalize (lg_sl ([.ref a_]) ++ List.replicate (2 - (lg_sl ([.ref a_])).length) Slot.unset).toArray = ls at hl ⊢
  have hl : lv_has ls 2 [(0, .ref a_)] := hl
  obtain ⟨Q, hQ⟩ : ∃ Q : State → Prop, Q = MQ below (va_Qv (fun (_u : Unit) => True) (fun (_u : Unit) tt => va_P E.1 vwCl (w_X5_hearAll E a_ a_row a_partners a_share a_leftOver c_askedCount c_outcome n_row) tt.heap ∧ va_D A (w_X5_hearAll E a_ a_row a_partners a_share a_leftOver c_askedCount c_outcome n_row)) A) #[Value.ref a_] s 0 0 A := ⟨_, rfl⟩
  rw [← hQ]
  change W p l e ({ frames := 2, cells := 0, slots := 0, locals := 52 } : Room) s m #[Value.ref a_] below meth c s.heap [] 0 0 Q (F0 m 0 ls [])
  suffices hh9 : ∀ (H : Heap) (locs : List Loc), va_P E.1 vwCl (w_X5_hearAll E a_ a_row a_partners a_share a_leftOver c_askedCount c_outcome c_row) H → va_D A (w_X5_hearAll E a_ a_row a_partners a_share a_leftOver c_askedCount c_outcome c_row) → va_S A s.heap H locs → W p l e ({ frames := 2, cells := 0, slots := 0, locals := 52 } : Room) s m #[Value.ref a_] below meth c H locs 0 0 Q (F0 m 0 ls []) from hh9 s.heap [] hP hD hS
  clear hP hD hS
  intro H locs hP hD hS
  replace hP : va_P E.1 vwCl [(a_, .inr (6, [.ref a_row, .ref a_partners, .int c_askedCount, .int c_outcome, .ref a_share, .ref a_leftOver])), (a_row, .inl (E.2.1, 81, .inl c_row))] H := hP
  replace hD : va_D A [(a_, .inr (6, [.ref a_row, .ref a_partners, .int c_askedCount, .int c_outcome, .ref a_share, .ref a_leftOver])), (a_row, .inl (E.2.1, 81, .inl c_row))] := hD
  unfold F_X5_hearAll at hF
  refine lv_aload_n hx hb dX5_hearAll_0 rfl (lv_at hl 0 rfl) ?_
  replace hF := bd1_s hF
  obtain ⟨w_1, hc_2, hF⟩ := hF
  obtain ⟨hPc, hDc, hFc⟩ := wcut (wc := (w_X5_hearPlaces E a_ a_row a_partners a_share a_leftOver c_askedCount c_outcome c_row)) hP hD hS hA [0, 1] (by decide) rfl
  have hrc := va_recv hK hPc (ci := 6) (q0 := 0) rfl rfl
  refine cE_v (wc := (w_X5_hearPlaces E a_ a_row a_partners a_share a_leftOver c_askedCount c_outcome c_row)) (wr := []) (w1 := (w_X5_hearPlaces E a_ a_row a_partners a_share a_leftOver c_askedCount c_outcome w_1)) (va_runV (As := []) (rest := [])  ⟨hx, hb, hml, hown, hts⟩ (f_X5_hearPlaces l E H.size K (a_ := a_) (a_row := a_row) (a_partners := a_partners) (a_share := a_share) (a_leftOver := a_leftOver) (c_askedCount := c_askedCount) (c_outcome := c_outcome) (c_row := c_row) hc_2) (cwV 0 hts g_f_X5_hearAll_f_X5_hearPlaces_56 rfl rfl rfl hd_X5_hearPlaces ⟨Nat.le_of_ble_eq_true rfl, Nat.le_of_ble_eq_true rfl⟩) ⟨pW.blind, hrc, (pW.pre ⟨hK, hN⟩ hPc hDc)⟩ rfl rfl hl.1 rfl (lv_room (Nat.le_of_ble_eq_true rfl)) dX5_hearAll_1 ⟨Nat.le_of_ble_eq_true rfl, Nat.le_of_ble_eq_true rfl⟩) hS hFc hP hD [0, 1] [] rfl rfl (by decide) (by decide) (fun H locs hP hD hS => ?_)
  replace hP : va_P E.1 vwCl [(a_, .inr (6, [.ref a_row, .ref a_partners, .int c_askedCount, .int c_outcome, .ref a_share, .ref a_leftOver])), (a_row, .inl (E.2.1, 81, .inl w_1))] H := hP
  replace hD : va_D A [(a_, .inr (6, [.ref a_row, .ref a_partners, .int c_askedCount, .int c_outcome, .ref a_share, .ref a_leftOver])), (a_row, .inl (E.2.1, 81, .inl w_1))] := hD
  refine lv_aload_n hx hb dX5_hearAll_4 rfl (lv_at hl 0 rfl) ?_
  refine gt_X5_0 (v := .ref a_row) hx hb hts i_f_X5_hearAll_X5 hown hK hP 0 rfl (hts (.fieldLink RX5 11 "HushWatch$State" "row" "[I") (List.mem_of_getElem? (i := 1) rfl)) rfl dX5_hearAll_5 ?_
  refine lv_bipush (v := 14) hx hb dX5_hearAll_8 (by decide) ?_
  refine lv_dup2_11 hx hb dX5_hearAll_10 rfl rfl ?_
  refine va_iald hx hb hK hP 1 0 rfl rfl (vin rfl) dX5_hearAll_11 ?_
  refine W.eq (g2 := F0 m 12 ls [.int (w_1 14), .int (14 : Int32), .ref a_row]) rfl ?_
  refine lv_iconst (v := 1) hx hb dX5_hearAll_12 (by decide) ?_
  refine lv_iadd hx hb dX5_hearAll_13 ?_
  refine va_iast hx hb hK hP hD hS 1 0 rfl rfl (vin rfl) dX5_hearAll_14 (fun H locs hP hD hS => ?_)
  replace hP : va_P E.1 vwCl [(a_, .inr (6, [.ref a_row, .ref a_partners, .int c_askedCount, .int c_outcome, .ref a_share, .ref a_leftOver])), (a_row, .inl (E.2.1, 81, .inl (upd w_1 14 ((w_1 14) + (1 : Int32)))))] H := hP
  replace hD : va_D A [(a_, .inr (6, [.ref a_row, .ref a_partners, .int c_askedCount, .int c_outcome, .ref a_share, .ref a_leftOver])), (a_row, .inl (E.2.1, 81, .inl (upd w_1 14 ((w_1 14) + (1 : Int32)))))] := hD
  replace hF := nm_s hF
  obtain ⟨f_3, hf_3, hF⟩ := hF
  rw [← hf_3] at hP hD
  refine lv_aload_n hx hb dX5_hearAll_15 rfl (lv_at hl 0 rfl) ?_
  refine lv_aload_n hx hb dX5_hearAll_16 rfl (lv_at hl 0 rfl) ?_
  refine gt_X5_0 (v := .ref a_row) hx hb hts i_f_X5_hearAll_X5 hown hK hP 0 rfl (hts (.fieldLink RX5 11 "HushWatch$State" "row" "[I") (List.mem_of_getElem? (i := 1) rfl)) rfl dX5_hearAll_17 ?_
  refine lv_iconst (v := 4) hx hb dX5_hearAll_20 (by decide) ?_
  refine va_iald hx hb hK hP 1 0 rfl rfl (vin rfl) dX5_hearAll_21 ?_
  refine W.eq (g2 := F0 m 22 ls [.int (f_3 4), .ref a_]) rfl ?_
  refine lv_i2l (v := (f_3 4).toInt64) hx hb dX5_hearAll_22 rfl ?_
  refine lv_aload_n hx hb dX5_hearAll_23 rfl (lv_at hl 0 rfl) ?_
  refine gt_X5_0 (v := .ref a_row) hx hb hts i_f_X5_hearAll_X5 hown hK hP 0 rfl (hts (.fieldLink RX5 11 "HushWatch$State" "row" "[I") (List.mem_of_getElem? (i := 1) rfl)) rfl dX5_hearAll_24 ?_
  refine lv_iconst (v := 5) hx hb dX5_hearAll_27 (by decide) ?_
  refine va_iald hx hb hK hP 1 0 rfl rfl (vin rfl) dX5_hearAll_28 ?_
  refine W.eq (g2 := F0 m 29 ls [.int (f_3 5), .long ((f_3 4).toInt64), .ref a_]) rfl ?_
  refine lv_i2l (v := (f_3 5).toInt64) hx hb dX5_hearAll_29 rfl ?_
  replace hF := bd1_s hF
  obtain ⟨r_4, hc_5, hF⟩ := hF
  have hPc : va_P E.1 vwCl (w_X5_allows E a_ a_row a_partners a_share a_leftOver c_askedCount c_outcome f_3) H := hP.sub (ws' := [(a_, .inr (6, [.ref a_row, .ref a_partners, .int c_askedCount, .int c_outcome, .ref a_share, .ref a_leftOver])), (a_row, .inl (E.2.1, 81, .inl f_3))]) [0, 1] rfl
  have hrc := va_recv hK hPc (ci := 6) (q0 := 0) rfl rfl
  refine pE_z (va_runV (As := [.long ((f_3 4).toInt64), .long ((f_3 5).toInt64)]) (rest := [])  ⟨hx, hb, hml, hown, hts⟩ (f_X5_allows l E (a_ := a_) (a_row := a_row) (a_partners := a_partners) (a_share := a_share) (a_leftOver := a_leftOver) (p1 := (f_3 4).toInt64) (p2 := (f_3 5).toInt64) (c_askedCount := c_askedCount) (c_outcome := c_outcome) (c_row := f_3) hc_5) (cwV 2 hts g_f_X5_hearAll_f_X5_allows_59 rfl rfl rfl hd_X5_allows ⟨Nat.le_of_ble_eq_true rfl, Nat.le_of_ble_eq_true rfl⟩) ⟨pP.blind, hrc, (pP.pre ⟨hK, hN⟩ hPc)⟩ rfl rfl hl.1 rfl (lv_room (Nat.le_of_ble_eq_true rfl)) dX5_hearAll_30 ⟨Nat.le_of_ble_eq_true rfl, Nat.le_of_ble_eq_true rfl⟩) (fun hb_6 => ?_)
  refine lv_if_eq (tgt := 40) hx hb dX5_hearAll_33 (by decide) (fun c_7 => ?_) (fun c_7 => ?_)
  ·
    replace hF := ip c_7 hF
    refine lv_iconst (v := 1) hx hb dX5_hearAll_40 (by decide) ?_
    exact j_X5_hearAll_41 l E K (c_askedCount := c_askedCount) (c_outcome := c_outcome) (k0 := (1 : Int32)) (c_row := f_3) hx hb hml hown hts hK hN hA hr hlocks hQ hF H locs ls (hP.sub [0, 1] rfl) (hD.sub [0, 1] (by decide) rfl) hS (lv_sub hl [0] rfl)
  ·
    replace hF := inn c_7 hF
    refine lv_iconst (v := 0) hx hb dX5_hearAll_36 (by decide) ?_
    refine lv_goto (tgt := 41) hx hb dX5_hearAll_37 (by decide) ?_
    exact j_X5_hearAll_41 l E K (c_askedCount := c_askedCount) (c_outcome := c_outcome) (k0 := (0 : Int32)) (c_row := f_3) hx hb hml hown hts hK hN hA hr hlocks hQ hF H locs ls (hP.sub [0, 1] rfl) (hD.sub [0, 1] (by decide) rfl) hS (lv_sub hl [0] rfl)
end
-- 20.st04
section
def dl_X5_moveSite_20_st04_0 : List (Nat × Instr × Nat) := [(102, .istore 6, 2), (104, .aload_n 0, 1), (105, .iload 6, 2), (107, .invokevirtual 131, 3), (110, .ifCond .eq 6, 3), (116, .aload_n 0, 1), (117, .iload 6, 2), (119, .invokevirtual 153, 3), (122, .iload 4, 2), (124, .iconst 1, 1), (125, .iload 6, 2), (127, .ishl, 1), (128, .ior, 1), (129, .istore 4, 2), (131, .aload_n 0, 1), (132, .iload 4, 2), (134, .invokevirtual 156, 3), (137, .ifCond .eq 10, 3), (147, .iinc 5 1, 3), (150, .goto (-104), 3), (113, .goto 34, 3), (46, .iload 5, 2), (48, .aload_n 0, 1), (49, .getfield 11, 3), (52, .iconst 3, 1), (53, .iaload, 1), (54, .if_icmp .ge 99, 3), (57, .iload 5, 2), (59, .bipush 8, 2), (61, .if_icmp .ge 92, 3), (64, .aload_n 0, 1), (65, .invokevirtual 83, 3), (68, .ifCond .ne 85, 3), (71, .iload_n 1, 1), (72, .iload 5, 2), (74, .iadd, 1), (75, .aload_n 0, 1), (76, .getfield 11, 3), (79, .iconst 3, 1), (80, .iaload, 1), (81, .if_icmp .ge 10, 3), (91, .iload_n 1, 1), (92, .iload 5, 2), (94, .iadd, 1), (95, .aload_n 0, 1), (96, .getfield 11, 3), (99, .iconst 3, 1), (100, .iaload, 1), (101, .isub, 1), (84, .iload_n 1, 1)]
set_option maxRecDepth 100000 in
theorem dall_X5_moveSite_20_st04_0 : dchk cX5_moveSite dl_X5_moveSite_20_st04_0 = true := by decide +kernel
theorem dX5_moveSite_102 : decode cX5_moveSite 102 = .ok (.istore 6, 2) := dchk_at dall_X5_moveSite_20_st04_0 (k := 0) rfl
theorem dX5_moveSite_104 : decode cX5_moveSite 104 = .ok (.aload_n 0, 1) := dchk_at dall_X5_moveSite_20_st04_0 (k := 1) rfl
theorem dX5_moveSite_105 : decode cX5_moveSite 105 = .ok (.iload 6, 2) := dchk_at dall_X5_moveSite_20_st04_0 (k := 2) rfl
theorem dX5_moveSite_107 : decode cX5_moveSite 107 = .ok (.invokevirtual 131, 3) := dchk_at dall_X5_moveSite_20_st04_0 (k := 3) rfl
theorem dX5_moveSite_110 : decode cX5_moveSite 110 = .ok (.ifCond .eq 6, 3) := dchk_at dall_X5_moveSite_20_st04_0 (k := 4) rfl
theorem dX5_moveSite_116 : decode cX5_moveSite 116 = .ok (.aload_n 0, 1) := dchk_at dall_X5_moveSite_20_st04_0 (k := 5) rfl
theorem dX5_moveSite_117 : decode cX5_moveSite 117 = .ok (.iload 6, 2) := dchk_at dall_X5_moveSite_20_st04_0 (k := 6) rfl
theorem dX5_moveSite_119 : decode cX5_moveSite 119 = .ok (.invokevirtual 153, 3) := dchk_at dall_X5_moveSite_20_st04_0 (k := 7) rfl
theorem dX5_moveSite_122 : decode cX5_moveSite 122 = .ok (.iload 4, 2) := dchk_at dall_X5_moveSite_20_st04_0 (k := 8) rfl
theorem dX5_moveSite_124 : decode cX5_moveSite 124 = .ok (.iconst 1, 1) := dchk_at dall_X5_moveSite_20_st04_0 (k := 9) rfl
theorem dX5_moveSite_125 : decode cX5_moveSite 125 = .ok (.iload 6, 2) := dchk_at dall_X5_moveSite_20_st04_0 (k := 10) rfl
theorem dX5_moveSite_127 : decode cX5_moveSite 127 = .ok (.ishl, 1) := dchk_at dall_X5_moveSite_20_st04_0 (k := 11) rfl
theorem dX5_moveSite_128 : decode cX5_moveSite 128 = .ok (.ior, 1) := dchk_at dall_X5_moveSite_20_st04_0 (k := 12) rfl
theorem dX5_moveSite_129 : decode cX5_moveSite 129 = .ok (.istore 4, 2) := dchk_at dall_X5_moveSite_20_st04_0 (k := 13) rfl
theorem dX5_moveSite_131 : decode cX5_moveSite 131 = .ok (.aload_n 0, 1) := dchk_at dall_X5_moveSite_20_st04_0 (k := 14) rfl
theorem dX5_moveSite_132 : decode cX5_moveSite 132 = .ok (.iload 4, 2) := dchk_at dall_X5_moveSite_20_st04_0 (k := 15) rfl
theorem dX5_moveSite_134 : decode cX5_moveSite 134 = .ok (.invokevirtual 156, 3) := dchk_at dall_X5_moveSite_20_st04_0 (k := 16) rfl
theorem dX5_moveSite_137 : decode cX5_moveSite 137 = .ok (.ifCond .eq 10, 3) := dchk_at dall_X5_moveSite_20_st04_0 (k := 17) rfl
theorem dX5_moveSite_147 : decode cX5_moveSite 147 = .ok (.iinc 5 1, 3) := dchk_at dall_X5_moveSite_20_st04_0 (k := 18) rfl
theorem dX5_moveSite_150 : decode cX5_moveSite 150 = .ok (.goto (-104), 3) := dchk_at dall_X5_moveSite_20_st04_0 (k := 19) rfl
theorem dX5_moveSite_113 : decode cX5_moveSite 113 = .ok (.goto 34, 3) := dchk_at dall_X5_moveSite_20_st04_0 (k := 20) rfl
theorem dX5_moveSite_46 : decode cX5_moveSite 46 = .ok (.iload 5, 2) := dchk_at dall_X5_moveSite_20_st04_0 (k := 21) rfl
theorem dX5_moveSite_48 : decode cX5_moveSite 48 = .ok (.aload_n 0, 1) := dchk_at dall_X5_moveSite_20_st04_0 (k := 22) rfl
theorem dX5_moveSite_49 : decode cX5_moveSite 49 = .ok (.getfield 11, 3) := dchk_at dall_X5_moveSite_20_st04_0 (k := 23) rfl
theorem dX5_moveSite_52 : decode cX5_moveSite 52 = .ok (.iconst 3, 1) := dchk_at dall_X5_moveSite_20_st04_0 (k := 24) rfl
theorem dX5_moveSite_53 : decode cX5_moveSite 53 = .ok (.iaload, 1) := dchk_at dall_X5_moveSite_20_st04_0 (k := 25) rfl
theorem dX5_moveSite_54 : decode cX5_moveSite 54 = .ok (.if_icmp .ge 99, 3) := dchk_at dall_X5_moveSite_20_st04_0 (k := 26) rfl
theorem dX5_moveSite_57 : decode cX5_moveSite 57 = .ok (.iload 5, 2) := dchk_at dall_X5_moveSite_20_st04_0 (k := 27) rfl
theorem dX5_moveSite_59 : decode cX5_moveSite 59 = .ok (.bipush 8, 2) := dchk_at dall_X5_moveSite_20_st04_0 (k := 28) rfl
theorem dX5_moveSite_61 : decode cX5_moveSite 61 = .ok (.if_icmp .ge 92, 3) := dchk_at dall_X5_moveSite_20_st04_0 (k := 29) rfl
theorem dX5_moveSite_64 : decode cX5_moveSite 64 = .ok (.aload_n 0, 1) := dchk_at dall_X5_moveSite_20_st04_0 (k := 30) rfl
theorem dX5_moveSite_65 : decode cX5_moveSite 65 = .ok (.invokevirtual 83, 3) := dchk_at dall_X5_moveSite_20_st04_0 (k := 31) rfl
theorem dX5_moveSite_68 : decode cX5_moveSite 68 = .ok (.ifCond .ne 85, 3) := dchk_at dall_X5_moveSite_20_st04_0 (k := 32) rfl
theorem dX5_moveSite_71 : decode cX5_moveSite 71 = .ok (.iload_n 1, 1) := dchk_at dall_X5_moveSite_20_st04_0 (k := 33) rfl
theorem dX5_moveSite_72 : decode cX5_moveSite 72 = .ok (.iload 5, 2) := dchk_at dall_X5_moveSite_20_st04_0 (k := 34) rfl
theorem dX5_moveSite_74 : decode cX5_moveSite 74 = .ok (.iadd, 1) := dchk_at dall_X5_moveSite_20_st04_0 (k := 35) rfl
theorem dX5_moveSite_75 : decode cX5_moveSite 75 = .ok (.aload_n 0, 1) := dchk_at dall_X5_moveSite_20_st04_0 (k := 36) rfl
theorem dX5_moveSite_76 : decode cX5_moveSite 76 = .ok (.getfield 11, 3) := dchk_at dall_X5_moveSite_20_st04_0 (k := 37) rfl
theorem dX5_moveSite_79 : decode cX5_moveSite 79 = .ok (.iconst 3, 1) := dchk_at dall_X5_moveSite_20_st04_0 (k := 38) rfl
theorem dX5_moveSite_80 : decode cX5_moveSite 80 = .ok (.iaload, 1) := dchk_at dall_X5_moveSite_20_st04_0 (k := 39) rfl
theorem dX5_moveSite_81 : decode cX5_moveSite 81 = .ok (.if_icmp .ge 10, 3) := dchk_at dall_X5_moveSite_20_st04_0 (k := 40) rfl
theorem dX5_moveSite_91 : decode cX5_moveSite 91 = .ok (.iload_n 1, 1) := dchk_at dall_X5_moveSite_20_st04_0 (k := 41) rfl
theorem dX5_moveSite_92 : decode cX5_moveSite 92 = .ok (.iload 5, 2) := dchk_at dall_X5_moveSite_20_st04_0 (k := 42) rfl
theorem dX5_moveSite_94 : decode cX5_moveSite 94 = .ok (.iadd, 1) := dchk_at dall_X5_moveSite_20_st04_0 (k := 43) rfl
theorem dX5_moveSite_95 : decode cX5_moveSite 95 = .ok (.aload_n 0, 1) := dchk_at dall_X5_moveSite_20_st04_0 (k := 44) rfl
theorem dX5_moveSite_96 : decode cX5_moveSite 96 = .ok (.getfield 11, 3) := dchk_at dall_X5_moveSite_20_st04_0 (k := 45) rfl
theorem dX5_moveSite_99 : decode cX5_moveSite 99 = .ok (.iconst 3, 1) := dchk_at dall_X5_moveSite_20_st04_0 (k := 46) rfl
theorem dX5_moveSite_100 : decode cX5_moveSite 100 = .ok (.iaload, 1) := dchk_at dall_X5_moveSite_20_st04_0 (k := 47) rfl
theorem dX5_moveSite_101 : decode cX5_moveSite 101 = .ok (.isub, 1) := dchk_at dall_X5_moveSite_20_st04_0 (k := 48) rfl
theorem dX5_moveSite_84 : decode cX5_moveSite 84 = .ok (.iload_n 1, 1) := dchk_at dall_X5_moveSite_20_st04_0 (k := 49) rfl
def dl_X5_moveSite_20_st04_1 : List (Nat × Instr × Nat) := [(85, .iload 5, 2), (87, .iadd, 1), (88, .goto 14, 3), (153, .aload_n 0, 1), (154, .invokevirtual 162, 3), (157, .aload_n 0, 1), (158, .iconst 2, 1), (159, .putfield 22, 3), (162, .aload_n 0, 1), (163, .getfield 11, 3), (166, .iconst 3, 1), (167, .iaload, 1), (168, .iconst 1, 1), (169, .isub, 1), (170, .aload_n 0, 1), (171, .getfield 18, 3), (174, .isub, 1), (175, .istore 5, 2), (177, .iconst 1, 1), (178, .iconst 2, 1), (179, .aload_n 0, 1), (180, .getfield 18, 3), (183, .imul, 1), (184, .iadd, 1), (185, .iload 5, 2), (187, .iadd, 1), (188, .aload_n 0, 1), (189, .getfield 11, 3), (192, .iconst 3, 1), (193, .iaload, 1), (194, .iadd, 1), (195, .ireturn, 1), (0, .aload_n 0, 1), (1, .iconst 0, 1), (2, .putfield 18, 3), (5, .aload_n 0, 1), (6, .iconst 0, 1), (7, .putfield 22, 3), (10, .aload_n 0, 1), (11, .iload_n 1, 1), (12, .iload_n 2, 1), (13, .iload_n 3, 1), (14, .invokevirtual 150, 3), (17, .aload_n 0, 1), (18, .iload_n 1, 1), (19, .invokevirtual 99, 3), (22, .ifCond .eq 5, 3), (27, .aload_n 0, 1), (28, .getfield 11, 3), (31, .bipush 12, 2)]
set_option maxRecDepth 100000 in
theorem dall_X5_moveSite_20_st04_1 : dchk cX5_moveSite dl_X5_moveSite_20_st04_1 = true := by decide +kernel
theorem dX5_moveSite_85 : decode cX5_moveSite 85 = .ok (.iload 5, 2) := dchk_at dall_X5_moveSite_20_st04_1 (k := 0) rfl
theorem dX5_moveSite_87 : decode cX5_moveSite 87 = .ok (.iadd, 1) := dchk_at dall_X5_moveSite_20_st04_1 (k := 1) rfl
theorem dX5_moveSite_88 : decode cX5_moveSite 88 = .ok (.goto 14, 3) := dchk_at dall_X5_moveSite_20_st04_1 (k := 2) rfl
theorem dX5_moveSite_153 : decode cX5_moveSite 153 = .ok (.aload_n 0, 1) := dchk_at dall_X5_moveSite_20_st04_1 (k := 3) rfl
theorem dX5_moveSite_154 : decode cX5_moveSite 154 = .ok (.invokevirtual 162, 3) := dchk_at dall_X5_moveSite_20_st04_1 (k := 4) rfl
theorem dX5_moveSite_157 : decode cX5_moveSite 157 = .ok (.aload_n 0, 1) := dchk_at dall_X5_moveSite_20_st04_1 (k := 5) rfl
theorem dX5_moveSite_158 : decode cX5_moveSite 158 = .ok (.iconst 2, 1) := dchk_at dall_X5_moveSite_20_st04_1 (k := 6) rfl
theorem dX5_moveSite_159 : decode cX5_moveSite 159 = .ok (.putfield 22, 3) := dchk_at dall_X5_moveSite_20_st04_1 (k := 7) rfl
theorem dX5_moveSite_162 : decode cX5_moveSite 162 = .ok (.aload_n 0, 1) := dchk_at dall_X5_moveSite_20_st04_1 (k := 8) rfl
theorem dX5_moveSite_163 : decode cX5_moveSite 163 = .ok (.getfield 11, 3) := dchk_at dall_X5_moveSite_20_st04_1 (k := 9) rfl
theorem dX5_moveSite_166 : decode cX5_moveSite 166 = .ok (.iconst 3, 1) := dchk_at dall_X5_moveSite_20_st04_1 (k := 10) rfl
theorem dX5_moveSite_167 : decode cX5_moveSite 167 = .ok (.iaload, 1) := dchk_at dall_X5_moveSite_20_st04_1 (k := 11) rfl
theorem dX5_moveSite_168 : decode cX5_moveSite 168 = .ok (.iconst 1, 1) := dchk_at dall_X5_moveSite_20_st04_1 (k := 12) rfl
theorem dX5_moveSite_169 : decode cX5_moveSite 169 = .ok (.isub, 1) := dchk_at dall_X5_moveSite_20_st04_1 (k := 13) rfl
theorem dX5_moveSite_170 : decode cX5_moveSite 170 = .ok (.aload_n 0, 1) := dchk_at dall_X5_moveSite_20_st04_1 (k := 14) rfl
theorem dX5_moveSite_171 : decode cX5_moveSite 171 = .ok (.getfield 18, 3) := dchk_at dall_X5_moveSite_20_st04_1 (k := 15) rfl
theorem dX5_moveSite_174 : decode cX5_moveSite 174 = .ok (.isub, 1) := dchk_at dall_X5_moveSite_20_st04_1 (k := 16) rfl
theorem dX5_moveSite_175 : decode cX5_moveSite 175 = .ok (.istore 5, 2) := dchk_at dall_X5_moveSite_20_st04_1 (k := 17) rfl
theorem dX5_moveSite_177 : decode cX5_moveSite 177 = .ok (.iconst 1, 1) := dchk_at dall_X5_moveSite_20_st04_1 (k := 18) rfl
theorem dX5_moveSite_178 : decode cX5_moveSite 178 = .ok (.iconst 2, 1) := dchk_at dall_X5_moveSite_20_st04_1 (k := 19) rfl
theorem dX5_moveSite_179 : decode cX5_moveSite 179 = .ok (.aload_n 0, 1) := dchk_at dall_X5_moveSite_20_st04_1 (k := 20) rfl
theorem dX5_moveSite_180 : decode cX5_moveSite 180 = .ok (.getfield 18, 3) := dchk_at dall_X5_moveSite_20_st04_1 (k := 21) rfl
theorem dX5_moveSite_183 : decode cX5_moveSite 183 = .ok (.imul, 1) := dchk_at dall_X5_moveSite_20_st04_1 (k := 22) rfl
theorem dX5_moveSite_184 : decode cX5_moveSite 184 = .ok (.iadd, 1) := dchk_at dall_X5_moveSite_20_st04_1 (k := 23) rfl
theorem dX5_moveSite_185 : decode cX5_moveSite 185 = .ok (.iload 5, 2) := dchk_at dall_X5_moveSite_20_st04_1 (k := 24) rfl
theorem dX5_moveSite_187 : decode cX5_moveSite 187 = .ok (.iadd, 1) := dchk_at dall_X5_moveSite_20_st04_1 (k := 25) rfl
theorem dX5_moveSite_188 : decode cX5_moveSite 188 = .ok (.aload_n 0, 1) := dchk_at dall_X5_moveSite_20_st04_1 (k := 26) rfl
theorem dX5_moveSite_189 : decode cX5_moveSite 189 = .ok (.getfield 11, 3) := dchk_at dall_X5_moveSite_20_st04_1 (k := 27) rfl
theorem dX5_moveSite_192 : decode cX5_moveSite 192 = .ok (.iconst 3, 1) := dchk_at dall_X5_moveSite_20_st04_1 (k := 28) rfl
theorem dX5_moveSite_193 : decode cX5_moveSite 193 = .ok (.iaload, 1) := dchk_at dall_X5_moveSite_20_st04_1 (k := 29) rfl
theorem dX5_moveSite_194 : decode cX5_moveSite 194 = .ok (.iadd, 1) := dchk_at dall_X5_moveSite_20_st04_1 (k := 30) rfl
theorem dX5_moveSite_195 : decode cX5_moveSite 195 = .ok (.ireturn, 1) := dchk_at dall_X5_moveSite_20_st04_1 (k := 31) rfl
theorem dX5_moveSite_0 : decode cX5_moveSite 0 = .ok (.aload_n 0, 1) := dchk_at dall_X5_moveSite_20_st04_1 (k := 32) rfl
theorem dX5_moveSite_1 : decode cX5_moveSite 1 = .ok (.iconst 0, 1) := dchk_at dall_X5_moveSite_20_st04_1 (k := 33) rfl
theorem dX5_moveSite_2 : decode cX5_moveSite 2 = .ok (.putfield 18, 3) := dchk_at dall_X5_moveSite_20_st04_1 (k := 34) rfl
theorem dX5_moveSite_5 : decode cX5_moveSite 5 = .ok (.aload_n 0, 1) := dchk_at dall_X5_moveSite_20_st04_1 (k := 35) rfl
theorem dX5_moveSite_6 : decode cX5_moveSite 6 = .ok (.iconst 0, 1) := dchk_at dall_X5_moveSite_20_st04_1 (k := 36) rfl
theorem dX5_moveSite_7 : decode cX5_moveSite 7 = .ok (.putfield 22, 3) := dchk_at dall_X5_moveSite_20_st04_1 (k := 37) rfl
theorem dX5_moveSite_10 : decode cX5_moveSite 10 = .ok (.aload_n 0, 1) := dchk_at dall_X5_moveSite_20_st04_1 (k := 38) rfl
theorem dX5_moveSite_11 : decode cX5_moveSite 11 = .ok (.iload_n 1, 1) := dchk_at dall_X5_moveSite_20_st04_1 (k := 39) rfl
theorem dX5_moveSite_12 : decode cX5_moveSite 12 = .ok (.iload_n 2, 1) := dchk_at dall_X5_moveSite_20_st04_1 (k := 40) rfl
theorem dX5_moveSite_13 : decode cX5_moveSite 13 = .ok (.iload_n 3, 1) := dchk_at dall_X5_moveSite_20_st04_1 (k := 41) rfl
theorem dX5_moveSite_14 : decode cX5_moveSite 14 = .ok (.invokevirtual 150, 3) := dchk_at dall_X5_moveSite_20_st04_1 (k := 42) rfl
theorem dX5_moveSite_17 : decode cX5_moveSite 17 = .ok (.aload_n 0, 1) := dchk_at dall_X5_moveSite_20_st04_1 (k := 43) rfl
theorem dX5_moveSite_18 : decode cX5_moveSite 18 = .ok (.iload_n 1, 1) := dchk_at dall_X5_moveSite_20_st04_1 (k := 44) rfl
theorem dX5_moveSite_19 : decode cX5_moveSite 19 = .ok (.invokevirtual 99, 3) := dchk_at dall_X5_moveSite_20_st04_1 (k := 45) rfl
theorem dX5_moveSite_22 : decode cX5_moveSite 22 = .ok (.ifCond .eq 5, 3) := dchk_at dall_X5_moveSite_20_st04_1 (k := 46) rfl
theorem dX5_moveSite_27 : decode cX5_moveSite 27 = .ok (.aload_n 0, 1) := dchk_at dall_X5_moveSite_20_st04_1 (k := 47) rfl
theorem dX5_moveSite_28 : decode cX5_moveSite 28 = .ok (.getfield 11, 3) := dchk_at dall_X5_moveSite_20_st04_1 (k := 48) rfl
theorem dX5_moveSite_31 : decode cX5_moveSite 31 = .ok (.bipush 12, 2) := dchk_at dall_X5_moveSite_20_st04_1 (k := 49) rfl
def dl_X5_moveSite_20_st04_2 : List (Nat × Instr × Nat) := [(33, .dup2, 1), (34, .iaload, 1), (35, .iconst 1, 1), (36, .iadd, 1), (37, .iastore, 1), (38, .iconst 1, 1), (39, .iload_n 1, 1), (40, .ishl, 1), (41, .istore 4, 2), (43, .iconst 1, 1), (44, .istore 5, 2), (140, .aload_n 0, 1), (141, .iload 4, 2), (143, .invokevirtual 159, 3), (146, .ireturn, 1), (25, .iconst 0, 1), (26, .ireturn, 1)]
set_option maxRecDepth 100000 in
theorem dall_X5_moveSite_20_st04_2 : dchk cX5_moveSite dl_X5_moveSite_20_st04_2 = true := by decide +kernel
theorem dX5_moveSite_33 : decode cX5_moveSite 33 = .ok (.dup2, 1) := dchk_at dall_X5_moveSite_20_st04_2 (k := 0) rfl
theorem dX5_moveSite_34 : decode cX5_moveSite 34 = .ok (.iaload, 1) := dchk_at dall_X5_moveSite_20_st04_2 (k := 1) rfl
theorem dX5_moveSite_35 : decode cX5_moveSite 35 = .ok (.iconst 1, 1) := dchk_at dall_X5_moveSite_20_st04_2 (k := 2) rfl
theorem dX5_moveSite_36 : decode cX5_moveSite 36 = .ok (.iadd, 1) := dchk_at dall_X5_moveSite_20_st04_2 (k := 3) rfl
theorem dX5_moveSite_37 : decode cX5_moveSite 37 = .ok (.iastore, 1) := dchk_at dall_X5_moveSite_20_st04_2 (k := 4) rfl
theorem dX5_moveSite_38 : decode cX5_moveSite 38 = .ok (.iconst 1, 1) := dchk_at dall_X5_moveSite_20_st04_2 (k := 5) rfl
theorem dX5_moveSite_39 : decode cX5_moveSite 39 = .ok (.iload_n 1, 1) := dchk_at dall_X5_moveSite_20_st04_2 (k := 6) rfl
theorem dX5_moveSite_40 : decode cX5_moveSite 40 = .ok (.ishl, 1) := dchk_at dall_X5_moveSite_20_st04_2 (k := 7) rfl
theorem dX5_moveSite_41 : decode cX5_moveSite 41 = .ok (.istore 4, 2) := dchk_at dall_X5_moveSite_20_st04_2 (k := 8) rfl
theorem dX5_moveSite_43 : decode cX5_moveSite 43 = .ok (.iconst 1, 1) := dchk_at dall_X5_moveSite_20_st04_2 (k := 9) rfl
theorem dX5_moveSite_44 : decode cX5_moveSite 44 = .ok (.istore 5, 2) := dchk_at dall_X5_moveSite_20_st04_2 (k := 10) rfl
theorem dX5_moveSite_140 : decode cX5_moveSite 140 = .ok (.aload_n 0, 1) := dchk_at dall_X5_moveSite_20_st04_2 (k := 11) rfl
theorem dX5_moveSite_141 : decode cX5_moveSite 141 = .ok (.iload 4, 2) := dchk_at dall_X5_moveSite_20_st04_2 (k := 12) rfl
theorem dX5_moveSite_143 : decode cX5_moveSite 143 = .ok (.invokevirtual 159, 3) := dchk_at dall_X5_moveSite_20_st04_2 (k := 13) rfl
theorem dX5_moveSite_146 : decode cX5_moveSite 146 = .ok (.ireturn, 1) := dchk_at dall_X5_moveSite_20_st04_2 (k := 14) rfl
theorem dX5_moveSite_25 : decode cX5_moveSite 25 = .ok (.iconst 0, 1) := dchk_at dall_X5_moveSite_20_st04_2 (k := 15) rfl
theorem dX5_moveSite_26 : decode cX5_moveSite 26 = .ok (.ireturn, 1) := dchk_at dall_X5_moveSite_20_st04_2 (k := 16) rfl
def dl_X5_hearByHand_20_st04_0 : List (Nat × Instr × Nat) := [(0, .aload_n 0, 1), (1, .invokevirtual 162, 3), (4, .iconst 2, 1), (5, .aload_n 0, 1), (6, .getfield 11, 3), (9, .iconst 3, 1), (10, .iaload, 1), (11, .imul, 1), (12, .ireturn, 1)]
set_option maxRecDepth 100000 in
theorem dall_X5_hearByHand_20_st04_0 : dchk cX5_hearByHand dl_X5_hearByHand_20_st04_0 = true := by decide +kernel
theorem dX5_hearByHand_0 : decode cX5_hearByHand 0 = .ok (.aload_n 0, 1) := dchk_at dall_X5_hearByHand_20_st04_0 (k := 0) rfl
theorem dX5_hearByHand_1 : decode cX5_hearByHand 1 = .ok (.invokevirtual 162, 3) := dchk_at dall_X5_hearByHand_20_st04_0 (k := 1) rfl
theorem dX5_hearByHand_4 : decode cX5_hearByHand 4 = .ok (.iconst 2, 1) := dchk_at dall_X5_hearByHand_20_st04_0 (k := 2) rfl
theorem dX5_hearByHand_5 : decode cX5_hearByHand 5 = .ok (.aload_n 0, 1) := dchk_at dall_X5_hearByHand_20_st04_0 (k := 3) rfl
theorem dX5_hearByHand_6 : decode cX5_hearByHand 6 = .ok (.getfield 11, 3) := dchk_at dall_X5_hearByHand_20_st04_0 (k := 4) rfl
theorem dX5_hearByHand_9 : decode cX5_hearByHand 9 = .ok (.iconst 3, 1) := dchk_at dall_X5_hearByHand_20_st04_0 (k := 5) rfl
theorem dX5_hearByHand_10 : decode cX5_hearByHand 10 = .ok (.iaload, 1) := dchk_at dall_X5_hearByHand_20_st04_0 (k := 6) rfl
theorem dX5_hearByHand_11 : decode cX5_hearByHand 11 = .ok (.imul, 1) := dchk_at dall_X5_hearByHand_20_st04_0 (k := 7) rfl
theorem dX5_hearByHand_12 : decode cX5_hearByHand 12 = .ok (.ireturn, 1) := dchk_at dall_X5_hearByHand_20_st04_0 (k := 8) rfl
def dl_X5_startCounts_20_st04_0 : List (Nat × Instr × Nat) := [(33, .iload_n 2, 1), (34, .aload_n 0, 1), (35, .invokevirtual 45, 3), (38, .if_icmp .ge 25, 3), (41, .aload_n 0, 1), (42, .iload_n 2, 1), (43, .bipush 6, 2), (45, .iconst 0, 1), (46, .invokevirtual 52, 3), (49, .aload_n 0, 1), (50, .iload_n 2, 1), (51, .bipush 7, 2), (53, .iconst 0, 1), (54, .invokevirtual 52, 3), (57, .iinc 2 1, 3), (60, .goto (-27), 3), (0, .aload_n 0, 1), (1, .getfield 11, 3), (4, .iconst 2, 1), (5, .iload_n 1, 1), (6, .iastore, 1), (7, .aload_n 0, 1), (8, .getfield 11, 3), (11, .bipush 8, 2), (13, .iconst 0, 1), (14, .iastore, 1), (15, .aload_n 0, 1), (16, .getfield 11, 3), (19, .bipush 9, 2), (21, .iconst 0, 1), (22, .iastore, 1), (23, .aload_n 0, 1), (24, .getfield 11, 3), (27, .bipush 10, 2), (29, .iconst 0, 1), (30, .iastore, 1), (31, .iconst 0, 1), (32, .istore_n 2, 1), (63, .return_, 1)]
set_option maxRecDepth 100000 in
theorem dall_X5_startCounts_20_st04_0 : dchk cX5_startCounts dl_X5_startCounts_20_st04_0 = true := by decide +kernel
theorem dX5_startCounts_33 : decode cX5_startCounts 33 = .ok (.iload_n 2, 1) := dchk_at dall_X5_startCounts_20_st04_0 (k := 0) rfl
theorem dX5_startCounts_34 : decode cX5_startCounts 34 = .ok (.aload_n 0, 1) := dchk_at dall_X5_startCounts_20_st04_0 (k := 1) rfl
theorem dX5_startCounts_35 : decode cX5_startCounts 35 = .ok (.invokevirtual 45, 3) := dchk_at dall_X5_startCounts_20_st04_0 (k := 2) rfl
theorem dX5_startCounts_38 : decode cX5_startCounts 38 = .ok (.if_icmp .ge 25, 3) := dchk_at dall_X5_startCounts_20_st04_0 (k := 3) rfl
theorem dX5_startCounts_41 : decode cX5_startCounts 41 = .ok (.aload_n 0, 1) := dchk_at dall_X5_startCounts_20_st04_0 (k := 4) rfl
theorem dX5_startCounts_42 : decode cX5_startCounts 42 = .ok (.iload_n 2, 1) := dchk_at dall_X5_startCounts_20_st04_0 (k := 5) rfl
theorem dX5_startCounts_43 : decode cX5_startCounts 43 = .ok (.bipush 6, 2) := dchk_at dall_X5_startCounts_20_st04_0 (k := 6) rfl
theorem dX5_startCounts_45 : decode cX5_startCounts 45 = .ok (.iconst 0, 1) := dchk_at dall_X5_startCounts_20_st04_0 (k := 7) rfl
theorem dX5_startCounts_46 : decode cX5_startCounts 46 = .ok (.invokevirtual 52, 3) := dchk_at dall_X5_startCounts_20_st04_0 (k := 8) rfl
theorem dX5_startCounts_49 : decode cX5_startCounts 49 = .ok (.aload_n 0, 1) := dchk_at dall_X5_startCounts_20_st04_0 (k := 9) rfl
theorem dX5_startCounts_50 : decode cX5_startCounts 50 = .ok (.iload_n 2, 1) := dchk_at dall_X5_startCounts_20_st04_0 (k := 10) rfl
theorem dX5_startCounts_51 : decode cX5_startCounts 51 = .ok (.bipush 7, 2) := dchk_at dall_X5_startCounts_20_st04_0 (k := 11) rfl
theorem dX5_startCounts_53 : decode cX5_startCounts 53 = .ok (.iconst 0, 1) := dchk_at dall_X5_startCounts_20_st04_0 (k := 12) rfl
theorem dX5_startCounts_54 : decode cX5_startCounts 54 = .ok (.invokevirtual 52, 3) := dchk_at dall_X5_startCounts_20_st04_0 (k := 13) rfl
theorem dX5_startCounts_57 : decode cX5_startCounts 57 = .ok (.iinc 2 1, 3) := dchk_at dall_X5_startCounts_20_st04_0 (k := 14) rfl
theorem dX5_startCounts_60 : decode cX5_startCounts 60 = .ok (.goto (-27), 3) := dchk_at dall_X5_startCounts_20_st04_0 (k := 15) rfl
theorem dX5_startCounts_0 : decode cX5_startCounts 0 = .ok (.aload_n 0, 1) := dchk_at dall_X5_startCounts_20_st04_0 (k := 16) rfl
theorem dX5_startCounts_1 : decode cX5_startCounts 1 = .ok (.getfield 11, 3) := dchk_at dall_X5_startCounts_20_st04_0 (k := 17) rfl
theorem dX5_startCounts_4 : decode cX5_startCounts 4 = .ok (.iconst 2, 1) := dchk_at dall_X5_startCounts_20_st04_0 (k := 18) rfl
theorem dX5_startCounts_5 : decode cX5_startCounts 5 = .ok (.iload_n 1, 1) := dchk_at dall_X5_startCounts_20_st04_0 (k := 19) rfl
theorem dX5_startCounts_6 : decode cX5_startCounts 6 = .ok (.iastore, 1) := dchk_at dall_X5_startCounts_20_st04_0 (k := 20) rfl
theorem dX5_startCounts_7 : decode cX5_startCounts 7 = .ok (.aload_n 0, 1) := dchk_at dall_X5_startCounts_20_st04_0 (k := 21) rfl
theorem dX5_startCounts_8 : decode cX5_startCounts 8 = .ok (.getfield 11, 3) := dchk_at dall_X5_startCounts_20_st04_0 (k := 22) rfl
theorem dX5_startCounts_11 : decode cX5_startCounts 11 = .ok (.bipush 8, 2) := dchk_at dall_X5_startCounts_20_st04_0 (k := 23) rfl
theorem dX5_startCounts_13 : decode cX5_startCounts 13 = .ok (.iconst 0, 1) := dchk_at dall_X5_startCounts_20_st04_0 (k := 24) rfl
theorem dX5_startCounts_14 : decode cX5_startCounts 14 = .ok (.iastore, 1) := dchk_at dall_X5_startCounts_20_st04_0 (k := 25) rfl
theorem dX5_startCounts_15 : decode cX5_startCounts 15 = .ok (.aload_n 0, 1) := dchk_at dall_X5_startCounts_20_st04_0 (k := 26) rfl
theorem dX5_startCounts_16 : decode cX5_startCounts 16 = .ok (.getfield 11, 3) := dchk_at dall_X5_startCounts_20_st04_0 (k := 27) rfl
theorem dX5_startCounts_19 : decode cX5_startCounts 19 = .ok (.bipush 9, 2) := dchk_at dall_X5_startCounts_20_st04_0 (k := 28) rfl
theorem dX5_startCounts_21 : decode cX5_startCounts 21 = .ok (.iconst 0, 1) := dchk_at dall_X5_startCounts_20_st04_0 (k := 29) rfl
theorem dX5_startCounts_22 : decode cX5_startCounts 22 = .ok (.iastore, 1) := dchk_at dall_X5_startCounts_20_st04_0 (k := 30) rfl
theorem dX5_startCounts_23 : decode cX5_startCounts 23 = .ok (.aload_n 0, 1) := dchk_at dall_X5_startCounts_20_st04_0 (k := 31) rfl
theorem dX5_startCounts_24 : decode cX5_startCounts 24 = .ok (.getfield 11, 3) := dchk_at dall_X5_startCounts_20_st04_0 (k := 32) rfl
theorem dX5_startCounts_27 : decode cX5_startCounts 27 = .ok (.bipush 10, 2) := dchk_at dall_X5_startCounts_20_st04_0 (k := 33) rfl
theorem dX5_startCounts_29 : decode cX5_startCounts 29 = .ok (.iconst 0, 1) := dchk_at dall_X5_startCounts_20_st04_0 (k := 34) rfl
theorem dX5_startCounts_30 : decode cX5_startCounts 30 = .ok (.iastore, 1) := dchk_at dall_X5_startCounts_20_st04_0 (k := 35) rfl
theorem dX5_startCounts_31 : decode cX5_startCounts 31 = .ok (.iconst 0, 1) := dchk_at dall_X5_startCounts_20_st04_0 (k := 36) rfl
theorem dX5_startCounts_32 : decode cX5_startCounts 32 = .ok (.istore_n 2, 1) := dchk_at dall_X5_startCounts_20_st04_0 (k := 37) rfl
theorem dX5_startCounts_63 : decode cX5_startCounts 63 = .ok (.return_, 1) := dchk_at dall_X5_startCounts_20_st04_0 (k := 38) rfl
def J_X5_moveSite_102_r47 (K : Nat) (k0 : Int32) (x4 : Int32) (x5 : Int32) (c_row : Nat → Int32) (c_partners : Nat → Int32) (c_askedCount : Int32) (c_share : Nat → Int32) (c_leftOver : Nat → Int32) : Option ((Int32 × Int32 × (Nat → Int32) × Int32 × (Nat → Int32) × (Nat → Int32)) ⊕ (Nat × Int32 × (Nat → Int32) × Int32 × (Nat → Int32) × (Nat → Int32))) :=
  bd1 (F_X5_isFrozen k0 c_row) (fun r_15 => if r_15 = (0 : Int32) then bd2 (F_X5_noteAsked k0 c_partners c_askedCount) (fun w_19 w_20 => bd3 (F_X5_canShare K (x4 ||| ((1 : Int32) <<< (k0 &&& (31 : Int32)))) c_row c_share c_leftOver) (fun r_22 w_23 w_24 => if r_22 = (0 : Int32) then some (.inl (x4 ||| ((1 : Int32) <<< (k0 &&& (31 : Int32))), x5 + (1 : Int32), w_19, w_20, w_23, w_24)) else some (.inr (0, x4 ||| ((1 : Int32) <<< (k0 &&& (31 : Int32))), w_19, w_20, w_23, w_24)))) else some (.inl (x4, x5 + (1 : Int32), c_partners, c_askedCount, c_share, c_leftOver)))
def B_X5_moveSite_46 (K : Nat) (p1 : Int32) (c_row : Nat → Int32) (x4 : Int32) (x5 : Int32) (c_partners : Nat → Int32) (c_askedCount : Int32) (c_share : Nat → Int32) (c_leftOver : Nat → Int32) : Option ((Int32 × Int32 × (Nat → Int32) × Int32 × (Nat → Int32) × (Nat → Int32)) ⊕ (Nat × Int32 × (Nat → Int32) × Int32 × (Nat → Int32) × (Nat → Int32))) :=
  if c_row 3 ≤ x5 then some (.inr (1, x4, c_partners, c_askedCount, c_share, c_leftOver)) else if (8 : Int32) ≤ x5 then some (.inr (1, x4, c_partners, c_askedCount, c_share, c_leftOver)) else bd1 (F_X5_isAbove c_row) (fun r_10 => if r_10 = (0 : Int32) then if c_row 3 ≤ p1 + x5 then J_X5_moveSite_102_r47 K ((p1 + x5) - (c_row 3)) x4 x5 c_row c_partners c_askedCount c_share c_leftOver else J_X5_moveSite_102_r47 K (p1 + x5) x4 x5 c_row c_partners c_askedCount c_share c_leftOver else some (.inr (1, x4, c_partners, c_askedCount, c_share, c_leftOver)))
def J_X5_moveSite_153 (K : Nat) (c_row : Nat → Int32) (c_partners : Nat → Int32) (c_askedCount : Int32) (c_share : Nat → Int32) (c_leftOver : Nat → Int32) : Option (Int32 × (Nat → Int32) × (Nat → Int32) × Int32 × Int32 × (Nat → Int32) × (Nat → Int32)) :=
  bd1 (F_X5_hearAll K c_row) (fun w_39 => some ((((1 : Int32) + ((2 : Int32) * c_askedCount)) + (((w_39 3) - (1 : Int32)) - c_askedCount)) + (w_39 3), w_39, c_partners, c_askedCount, (2 : Int32), c_share, c_leftOver))
def F_X5_moveSite (K : Nat) (p1 : Int32) (p2 : Int32) (p3 : Int32) (c_row : Nat → Int32) (c_partners : Nat → Int32) (c_askedCount : Int32) (c_outcome : Int32) (c_share : Nat → Int32) (c_leftOver : Nat → Int32) : Option (Int32 × (Nat → Int32) × (Nat → Int32) × Int32 × Int32 × (Nat → Int32) × (Nat → Int32)) :=
  bd1 (F_X5_shift p1 p2 p3 c_row) (fun w_1 => bd1 (F_X5_isQuiet p1 w_1) (fun r_3 => if r_3 = (0 : Int32) then nmF (upd w_1 12 ((w_1 12) + (1 : Int32))) (fun f_7 => bd6 (lpF (fun u9 : Int32 × Int32 × (Nat → Int32) × Int32 × (Nat → Int32) × (Nat → Int32) => B_X5_moveSite_46 K p1 f_7 u9.1 u9.2.1 u9.2.2.1 u9.2.2.2.1 u9.2.2.2.2.1 u9.2.2.2.2.2) K ((1 : Int32) <<< (p1 &&& (31 : Int32)), (1 : Int32), c_partners, (0 : Int32), c_share, c_leftOver)) (fun t_28 x4_29 c_partners_30 c_askedCount_31 c_share_32 c_leftOver_33 => if t_28 = 0 then bd3 (F_X5_balance K x4_29 f_7 c_askedCount_31 (0 : Int32) c_share_32 c_leftOver_33) (fun r_35 w_36 w_37 => some (r_35, w_36, c_partners_30, c_askedCount_31, w_37, c_share_32, c_leftOver_33)) else if t_28 = 1 then J_X5_moveSite_153 K f_7 c_partners_30 c_askedCount_31 c_share_32 c_leftOver_33 else none)) else some ((0 : Int32), w_1, c_partners, (0 : Int32), (0 : Int32), c_share, c_leftOver)))
abbrev w_X5_moveSite (E : EE) (a_ a_row a_partners a_share a_leftOver : Nat) (c_askedCount : Int32) (c_outcome : Int32) (c_row : Nat → Int32) (c_partners : Nat → Int32) (c_share : Nat → Int32) (c_leftOver : Nat → Int32) : va_W := [(a_, .inr (6, [.ref a_row, .ref a_partners, .int c_askedCount, .int c_outcome, .ref a_share, .ref a_leftOver])), (a_row, .inl (E.2.1, 81, .inl c_row)), (a_partners, .inl (E.2.1, 8, .inl c_partners)), (a_share, .inl (E.2.1, 2, .inl c_share)), (a_leftOver, .inl (E.2.1, 2, .inl c_leftOver))]
def v_f_X5_moveSite : List Cond := .code yX5_moveSite cX5_moveSite 7 (some .int) :: ([.fieldLink RX5 18 "HushWatch$State" "askedCount" "I", .fieldLink RX5 22 "HushWatch$State" "outcome" "I", .fieldLink RX5 11 "HushWatch$State" "row" "[I", .methodLink RX5 150 yX5_shift, .instanceMethod yX5_shift, .selects RX5 yX5_shift yX5_shift, .initialized RX5, .methodLink RX5 99 yX5_isQuiet, .instanceMethod yX5_isQuiet, .selects RX5 yX5_isQuiet yX5_isQuiet, .methodLink RX5 83 yX5_isAbove, .instanceMethod yX5_isAbove, .selects RX5 yX5_isAbove yX5_isAbove, .methodLink RX5 131 yX5_isFrozen, .instanceMethod yX5_isFrozen, .selects RX5 yX5_isFrozen yX5_isFrozen, .methodLink RX5 153 yX5_noteAsked, .instanceMethod yX5_noteAsked, .selects RX5 yX5_noteAsked yX5_noteAsked, .methodLink RX5 156 yX5_canShare, .instanceMethod yX5_canShare, .selects RX5 yX5_canShare yX5_canShare, .methodLink RX5 159 yX5_balance, .instanceMethod yX5_balance, .selects RX5 yX5_balance yX5_balance, .methodLink RX5 162 yX5_hearAll, .instanceMethod yX5_hearAll, .selects RX5 yX5_hearAll yX5_hearAll] ++ (wsX50 ++ (v_f_X5_shift ++ (v_f_X5_isQuiet ++ (v_f_X5_isAbove ++ (v_f_X5_isFrozen ++ (v_f_X5_noteAsked ++ (v_f_X5_canShare ++ (v_f_X5_balance ++ (v_f_X5_hearAll ++ ([])))))))))))
theorem gw_f_X5_moveSite : v_f_X5_moveSite.all goodWord = true := by decide +kernel
theorem i_f_X5_moveSite_X5 : ∀ w ∈ wsX50, w ∈ v_f_X5_moveSite := fun _ h => List.mem_cons_of_mem _ (List.mem_append_right _ (List.mem_append_left _ h))
theorem g_f_X5_moveSite_f_X5_shift_150 : GoodIn v_f_X5_moveSite (wsV RX5 150 RX5 yX5_shift v_f_X5_shift) := goodIn_app (goodIn_of _ (by decide +kernel)) (goodIn_sub (fun _ h => List.mem_cons_of_mem _ (List.mem_append_right _ (List.mem_append_right _ (List.mem_append_left _ h)))) gw_f_X5_shift)
theorem g_f_X5_moveSite_f_X5_isQuiet_99 : GoodIn v_f_X5_moveSite (wsV RX5 99 RX5 yX5_isQuiet v_f_X5_isQuiet) := goodIn_app (goodIn_of _ (by decide +kernel)) (goodIn_sub (fun _ h => List.mem_cons_of_mem _ (List.mem_append_right _ (List.mem_append_right _ (List.mem_append_right _ (List.mem_append_left _ h))))) gw_f_X5_isQuiet)
theorem g_f_X5_moveSite_f_X5_isAbove_83 : GoodIn v_f_X5_moveSite (wsV RX5 83 RX5 yX5_isAbove v_f_X5_isAbove) := goodIn_app (goodIn_of _ (by decide +kernel)) (goodIn_sub (fun _ h => List.mem_cons_of_mem _ (List.mem_append_right _ (List.mem_append_right _ (List.mem_append_right _ (List.mem_append_right _ (List.mem_append_left _ h)))))) gw_f_X5_isAbove)
theorem g_f_X5_moveSite_f_X5_isFrozen_131 : GoodIn v_f_X5_moveSite (wsV RX5 131 RX5 yX5_isFrozen v_f_X5_isFrozen) := goodIn_app (goodIn_of _ (by decide +kernel)) (goodIn_sub (fun _ h => List.mem_cons_of_mem _ (List.mem_append_right _ (List.mem_append_right _ (List.mem_append_right _ (List.mem_append_right _ (List.mem_append_right _ (List.mem_append_left _ h))))))) gw_f_X5_isFrozen)
theorem g_f_X5_moveSite_f_X5_noteAsked_153 : GoodIn v_f_X5_moveSite (wsV RX5 153 RX5 yX5_noteAsked v_f_X5_noteAsked) := goodIn_app (goodIn_of _ (by decide +kernel)) (goodIn_sub (fun _ h => List.mem_cons_of_mem _ (List.mem_append_right _ (List.mem_append_right _ (List.mem_append_right _ (List.mem_append_right _ (List.mem_append_right _ (List.mem_append_right _ (List.mem_append_left _ h)))))))) gw_f_X5_noteAsked)
theorem g_f_X5_moveSite_f_X5_canShare_156 : GoodIn v_f_X5_moveSite (wsV RX5 156 RX5 yX5_canShare v_f_X5_canShare) := goodIn_app (goodIn_of _ (by decide +kernel)) (goodIn_sub (fun _ h => List.mem_cons_of_mem _ (List.mem_append_right _ (List.mem_append_right _ (List.mem_append_right _ (List.mem_append_right _ (List.mem_append_right _ (List.mem_append_right _ (List.mem_append_right _ (List.mem_append_left _ h))))))))) gw_f_X5_canShare)
theorem g_f_X5_moveSite_f_X5_balance_159 : GoodIn v_f_X5_moveSite (wsV RX5 159 RX5 yX5_balance v_f_X5_balance) := goodIn_app (goodIn_of _ (by decide +kernel)) (goodIn_sub (fun _ h => List.mem_cons_of_mem _ (List.mem_append_right _ (List.mem_append_right _ (List.mem_append_right _ (List.mem_append_right _ (List.mem_append_right _ (List.mem_append_right _ (List.mem_append_right _ (List.mem_append_right _ (List.mem_append_left _ h)))))))))) gw_f_X5_balance)
theorem g_f_X5_moveSite_f_X5_hearAll_162 : GoodIn v_f_X5_moveSite (wsV RX5 162 RX5 yX5_hearAll v_f_X5_hearAll) := goodIn_app (goodIn_of _ (by decide +kernel)) (goodIn_sub (fun _ h => List.mem_cons_of_mem _ (List.mem_append_right _ (List.mem_append_right _ (List.mem_append_right _ (List.mem_append_right _ (List.mem_append_right _ (List.mem_append_right _ (List.mem_append_right _ (List.mem_append_right _ (List.mem_append_right _ (List.mem_append_left _ h))))))))))) gw_f_X5_hearAll)
theorem hd_X5_moveSite : yX5_moveSite.cls = RX5 ∧ yX5_moveSite.cls ≠ "java/lang/invoke/MethodHandle" ∧ yX5_moveSite.cls ≠ "java/lang/invoke/VarHandle" ∧ (parseMethodDescriptor yX5_moveSite.desc).map (fun d => d.parameters.length) = some 3 := by decide +kernel
set_option maxHeartbeats 4000000 in
set_option maxRecDepth 100000 in
theorem j_X5_moveSite_102_r47 {p : Program} (l : Launch) {e : Env} {s : State} {m : MethodId} {below : List Frame} {meth : Method} {c : Code} {Q : State → Prop} (E : EE) (K : Nat) {a_ a_row a_partners a_share a_leftOver : Nat} {p1 : Int32} {p2 : Int32} {p3 : Int32} {k0 : Int32} {x4 : Int32} {x5 : Int32} {c_row : Nat → Int32} {c_partners : Nat → Int32} {c_askedCount : Int32} {c_outcome : Int32} {c_share : Nat → Int32} {c_leftOver : Nat → Int32} (hx : p.tables.exec = Jvm.exec) (hb : c.code = cX5_moveSite) (hml : c.maxLocals = 7) (hown : s.vm.findClass RX5 = some m.cls) (hts : ∀ w ∈ v_f_X5_moveSite, w.before #[Value.ref a_, Value.int p1, Value.int p2, Value.int p3] s = true) (hK : va_K E.1 vwCl (TY E) s) (hN : NX s) {A : Nat → Prop} (hA : ∀ q : Nat, s.heap.size ≤ q → A q) {xx : (Int32 × Int32 × (Nat → Int32) × Int32 × (Nat → Int32) × (Nat → Int32)) ⊕ (Nat × Int32 × (Nat → Int32) × Int32 × (Nat → Int32) × (Nat → Int32))} (hC : ∀ (x4 : Int32), ∀ (x5 : Int32), ∀ (c_partners : Nat → Int32), ∀ (c_askedCount : Int32), ∀ (c_share : Nat → Int32), ∀ (c_leftOver : Nat → Int32), xx = .inl (x4, x5, c_partners, c_askedCount, c_share, c_leftOver) → ∀ (H : Heap) (locs : List Loc) (ls : Array Slot), va_P E.1 vwCl (w_X5_moveSite E a_ a_row a_partners a_share a_leftOver c_askedCount c_outcome c_row c_partners c_share c_leftOver) H → va_D A (w_X5_moveSite E a_ a_row a_partners a_share a_leftOver c_askedCount c_outcome c_row c_partners c_share c_leftOver) → va_S A s.heap H locs → lv_has ls 7 [(0, .ref a_), (1, .int p1), (4, .int x4), (5, .int x5)] → W p l e ({ frames := 3, cells := 0, slots := 0, locals := 73 } : Room) s m #[Value.ref a_, Value.int p1, Value.int p2, Value.int p3] below meth c H locs 0 0 Q (F0 m 46 ls [])) (hE : ∀ (t9 : Nat), ∀ (x4 : Int32), ∀ (c_partners : Nat → Int32), ∀ (c_askedCount : Int32), ∀ (c_share : Nat → Int32), ∀ (c_leftOver : Nat → Int32), xx = .inr (t9, x4, c_partners, c_askedCount, c_share, c_leftOver) → ((t9 = 0 → ∀ (H : Heap) (locs : List Loc) (ls : Array Slot), va_P E.1 vwCl (w_X5_moveSite E a_ a_row a_partners a_share a_leftOver c_askedCount c_outcome c_row c_partners c_share c_leftOver) H → va_D A (w_X5_moveSite E a_ a_row a_partners a_share a_leftOver c_askedCount c_outcome c_row c_partners c_share c_leftOver) → va_S A s.heap H locs → lv_has ls 7 [(0, .ref a_), (4, .int x4)] → W p l e ({ frames := 3, cells := 0, slots := 0, locals := 73 } : Room) s m #[Value.ref a_, Value.int p1, Value.int p2, Value.int p3] below meth c H locs 0 0 Q (F0 m 140 ls [])) ∧ (t9 = 1 → ∀ (H : Heap) (locs : List Loc) (ls : Array Slot), va_P E.1 vwCl (w_X5_moveSite E a_ a_row a_partners a_share a_leftOver c_askedCount c_outcome c_row c_partners c_share c_leftOver) H → va_D A (w_X5_moveSite E a_ a_row a_partners a_share a_leftOver c_askedCount c_outcome c_row c_partners c_share c_leftOver) → va_S A s.heap H locs → lv_has ls 7 [(0, .ref a_)] → W p l e ({ frames := 3, cells := 0, slots := 0, locals := 73 } : Room) s m #[Value.ref a_, Value.int p1, Value.int p2, Value.int p3] below meth c H locs 0 0 Q (F0 m 153 ls [])))) (hF : J_X5_moveSite_102_r47 K k0 x4 x5 c_row c_partners c_askedCount c_share c_leftOver = some xx) : ∀ (H : Heap) (locs : List Loc) (ls : Array Slot), va_P E.1 vwCl (w_X5_moveSite E a_ a_row a_partners a_share a_leftOver c_askedCount c_outcome c_row c_partners c_share c_leftOver) H → va_D A (w_X5_moveSite E a_ a_row a_partners a_share a_leftOver c_askedCount c_outcome c_row c_partners c_share c_leftOver) → va_S A s.heap H locs → lv_has ls 7 [(0, .ref a_), (1, .int p1), (4, .int x4), (5, .int x5)] → W p l e ({ frames := 3, cells := 0, slots := 0, locals := 73 } : Room) s m #[Value.ref a_, Value.int p1, Value.int p2, Value.int p3] below meth c H locs 0 0 Q (F0 m 102 ls [.int k0]) := by
  unfold J_X5_moveSite_102_r47 at hF
  intro H locs ls hP hD hS hl
  replace hP : va_P E.1 vwCl [(a_, .inr (6, [.ref a_row, .ref a_partners, .int c_askedCount, .int c_outcome, .ref a_share, .ref a_leftOver])), (a_row, .inl (E.2.1, 81, .inl c_row)), (a_partners, .inl (E.2.1, 8, .inl c_partners)), (a_share, .inl (E.2.1, 2, .inl c_share)), (a_leftOver, .inl (E.2.1, 2, .inl c_leftOver))] H := hP
  replace hD : va_D A [(a_, .inr (6, [.ref a_row, .ref a_partners, .int c_askedCount, .int c_outcome, .ref a_share, .ref a_leftOver])), (a_row, .inl (E.2.1, 81, .inl c_row)), (a_partners, .inl (E.2.1, 8, .inl c_partners)), (a_share, .inl (E.2.1, 2, .inl c_share)), (a_leftOver, .inl (E.2.1, 2, .inl c_leftOver))] := hD
  refine lv_istore (lv' := [(6, .int k0), (0, .ref a_), (1, .int p1), (4, .int x4), (5, .int x5)]) hx hb dX5_moveSite_102 hl (by decide) rfl (fun ls hl => ?_)
  refine lv_aload_n hx hb dX5_moveSite_104 rfl (lv_at hl 1 rfl) ?_
  refine lv_iload hx hb dX5_moveSite_105 (lv_at hl 0 rfl) ?_
  replace hF := bd1_s hF
  obtain ⟨r_15, hc_16, hF⟩ := hF
  have hPc : va_P E.1 vwCl (w_X5_isFrozen E a_ a_row a_partners a_share a_leftOver c_askedCount c_outcome c_row) H := hP.sub (ws' := [(a_, .inr (6, [.ref a_row, .ref a_partners, .int c_askedCount, .int c_outcome, .ref a_share, .ref a_leftOver])), (a_row, .inl (E.2.1, 81, .inl c_row))]) [0, 1] rfl
  have hrc := va_recv hK hPc (ci := 6) (q0 := 0) rfl rfl
  refine pE_z (va_runV (As := [.int k0]) (rest := [])  ⟨hx, hb, hml, hown, hts⟩ (f_X5_isFrozen l E (a_ := a_) (a_row := a_row) (a_partners := a_partners) (a_share := a_share) (a_leftOver := a_leftOver) (p1 := k0) (c_askedCount := c_askedCount) (c_outcome := c_outcome) (c_row := c_row) hc_16) (cwV 1 hts g_f_X5_moveSite_f_X5_isFrozen_131 rfl rfl rfl hd_X5_isFrozen ⟨Nat.le_of_ble_eq_true rfl, Nat.le_of_ble_eq_true rfl⟩) ⟨pP.blind, hrc, (pP.pre ⟨hK, hN⟩ hPc)⟩ rfl rfl hl.1 rfl (lv_room (Nat.le_of_ble_eq_true rfl)) dX5_moveSite_107 ⟨Nat.le_of_ble_eq_true rfl, Nat.le_of_ble_eq_true rfl⟩) (fun hb_17 => ?_)
  refine lv_if_eq (tgt := 116) hx hb dX5_moveSite_110 (by decide) (fun c_18 => ?_) (fun c_18 => ?_)
  ·
    replace hF := ip c_18 hF
    refine lv_aload_n hx hb dX5_moveSite_116 rfl (lv_at hl 1 rfl) ?_
    refine lv_iload hx hb dX5_moveSite_117 (lv_at hl 0 rfl) ?_
    replace hF := bd2_s hF
    obtain ⟨w_19, w_20, hc_21, hF⟩ := hF
    obtain ⟨hPc, hDc, hFc⟩ := wcut (wc := (w_X5_noteAsked E a_ a_row a_partners a_share a_leftOver c_askedCount c_outcome c_partners)) hP hD hS hA [0, 2] (by decide) rfl
    have hrc := va_recv hK hPc (ci := 6) (q0 := 0) rfl rfl
    refine cE_v (wc := (w_X5_noteAsked E a_ a_row a_partners a_share a_leftOver c_askedCount c_outcome c_partners)) (wr := [(a_row, .inl (E.2.1, 81, .inl c_row)), (a_share, .inl (E.2.1, 2, .inl c_share)), (a_leftOver, .inl (E.2.1, 2, .inl c_leftOver))]) (w1 := (w_X5_noteAsked E a_ a_row a_partners a_share a_leftOver w_20 c_outcome w_19)) (va_runV (As := [.int k0]) (rest := [])  ⟨hx, hb, hml, hown, hts⟩ (f_X5_noteAsked l E H.size (a_ := a_) (a_row := a_row) (a_partners := a_partners) (a_share := a_share) (a_leftOver := a_leftOver) (p1 := k0) (c_askedCount := c_askedCount) (c_outcome := c_outcome) (c_partners := c_partners) hc_21) (cwV 1 hts g_f_X5_moveSite_f_X5_noteAsked_153 rfl rfl rfl hd_X5_noteAsked ⟨Nat.le_of_ble_eq_true rfl, Nat.le_of_ble_eq_true rfl⟩) ⟨pW.blind, hrc, (pW.pre ⟨hK, hN⟩ hPc hDc)⟩ rfl rfl hl.1 rfl (lv_room (Nat.le_of_ble_eq_true rfl)) dX5_moveSite_119 ⟨Nat.le_of_ble_eq_true rfl, Nat.le_of_ble_eq_true rfl⟩) hS hFc hP hD [0, 2] [1, 3, 4] rfl rfl (by decide) (by decide) (fun H locs hP hD hS => ?_)
    replace hP : va_P E.1 vwCl [(a_row, .inl (E.2.1, 81, .inl c_row)), (a_share, .inl (E.2.1, 2, .inl c_share)), (a_leftOver, .inl (E.2.1, 2, .inl c_leftOver)), (a_, .inr (6, [.ref a_row, .ref a_partners, .int w_20, .int c_outcome, .ref a_share, .ref a_leftOver])), (a_partners, .inl (E.2.1, 8, .inl w_19))] H := hP
    replace hD : va_D A [(a_row, .inl (E.2.1, 81, .inl c_row)), (a_share, .inl (E.2.1, 2, .inl c_share)), (a_leftOver, .inl (E.2.1, 2, .inl c_leftOver)), (a_, .inr (6, [.ref a_row, .ref a_partners, .int w_20, .int c_outcome, .ref a_share, .ref a_leftOver])), (a_partners, .inl (E.2.1, 8, .inl w_19))] := hD
    refine lv_iload hx hb dX5_moveSite_122 (lv_at hl 3 rfl) ?_
    refine lv_iconst (v := 1) hx hb dX5_moveSite_124 (by decide) ?_
    refine lv_iload hx hb dX5_moveSite_125 (lv_at hl 0 rfl) ?_
    refine lv_ishl hx hb dX5_moveSite_127 ?_
    refine lv_ior hx hb dX5_moveSite_128 ?_
    refine lv_istore (lv' := [(4, .int (x4 ||| ((1 : Int32) <<< (k0 &&& (31 : Int32))))), (6, .int k0), (0, .ref a_), (1, .int p1), (5, .int x5)]) hx hb dX5_moveSite_129 hl (by decide) rfl (fun ls hl => ?_)
    refine lv_aload_n hx hb dX5_moveSite_131 rfl (lv_at hl 2 rfl) ?_
    refine lv_iload hx hb dX5_moveSite_132 (lv_at hl 0 rfl) ?_
    replace hF := bd3_s hF
    obtain ⟨r_22, w_23, w_24, hc_25, hF⟩ := hF
    obtain ⟨hPc, hDc, hFc⟩ := wcut (wc := (w_X5_canShare E a_ a_row a_partners a_share a_leftOver w_20 c_outcome c_row c_share c_leftOver)) hP hD hS hA [3, 0, 1, 2] (by decide) rfl
    have hrc := va_recv hK hPc (ci := 6) (q0 := 0) rfl rfl
    refine cE_z (wc := (w_X5_canShare E a_ a_row a_partners a_share a_leftOver w_20 c_outcome c_row c_share c_leftOver)) (wr := [(a_partners, .inl (E.2.1, 8, .inl w_19))]) (w1 := (w_X5_canShare E a_ a_row a_partners a_share a_leftOver w_20 c_outcome c_row w_23 w_24)) (va_runV (As := [.int (x4 ||| ((1 : Int32) <<< (k0 &&& (31 : Int32))))]) (rest := [])  ⟨hx, hb, hml, hown, hts⟩ (f_X5_canShare l E H.size K (a_ := a_) (a_row := a_row) (a_partners := a_partners) (a_share := a_share) (a_leftOver := a_leftOver) (p1 := x4 ||| ((1 : Int32) <<< (k0 &&& (31 : Int32)))) (c_askedCount := w_20) (c_outcome := c_outcome) (c_row := c_row) (c_share := c_share) (c_leftOver := c_leftOver) hc_25) (cwV 1 hts g_f_X5_moveSite_f_X5_canShare_156 rfl rfl rfl hd_X5_canShare ⟨Nat.le_of_ble_eq_true rfl, Nat.le_of_ble_eq_true rfl⟩) ⟨pW.blind, hrc, (pW.pre ⟨hK, hN⟩ hPc hDc)⟩ rfl rfl hl.1 rfl (lv_room (Nat.le_of_ble_eq_true rfl)) dX5_moveSite_134 ⟨Nat.le_of_ble_eq_true rfl, Nat.le_of_ble_eq_true rfl⟩) hS hFc hP hD [3, 0, 1, 2] [4] rfl rfl (by decide) (by decide) (fun hb_26 H locs hP hD hS => ?_)
    replace hP : va_P E.1 vwCl [(a_partners, .inl (E.2.1, 8, .inl w_19)), (a_, .inr (6, [.ref a_row, .ref a_partners, .int w_20, .int c_outcome, .ref a_share, .ref a_leftOver])), (a_row, .inl (E.2.1, 81, .inl c_row)), (a_share, .inl (E.2.1, 2, .inl w_23)), (a_leftOver, .inl (E.2.1, 2, .inl w_24))] H := hP
    replace hD : va_D A [(a_partners, .inl (E.2.1, 8, .inl w_19)), (a_, .inr (6, [.ref a_row, .ref a_partners, .int w_20, .int c_outcome, .ref a_share, .ref a_leftOver])), (a_row, .inl (E.2.1, 81, .inl c_row)), (a_share, .inl (E.2.1, 2, .inl w_23)), (a_leftOver, .inl (E.2.1, 2, .inl w_24))] := hD
    refine lv_if_eq (tgt := 147) hx hb dX5_moveSite_137 (by decide) (fun c_27 => ?_) (fun c_27 => ?_)
    ·
      replace hF := ip c_27 hF
      refine lv_iinc (v := x5 + (1 : Int32)) (lv' := [(5, .int (x5 + (1 : Int32))), (4, .int (x4 ||| ((1 : Int32) <<< (k0 &&& (31 : Int32))))), (6, .int k0), (0, .ref a_), (1, .int p1)]) hx hb dX5_moveSite_147 hl (k := 4) rfl (rfl) (by decide) rfl (fun ls hl => ?_)
      refine lv_goto (tgt := 46) hx hb dX5_moveSite_150 (by decide) ?_
      cases hF
      exact hC (x4 ||| ((1 : Int32) <<< (k0 &&& (31 : Int32)))) (x5 + (1 : Int32)) w_19 w_20 w_23 w_24 rfl H locs ls (hP.sub [1, 2, 0, 3, 4] rfl) (hD.sub [1, 2, 0, 3, 4] (by decide) rfl) hS (lv_sub hl [3, 4, 1, 0] rfl)
    ·
      replace hF := inn c_27 hF
      cases hF
      exact (hE 0 (x4 ||| ((1 : Int32) <<< (k0 &&& (31 : Int32)))) w_19 w_20 w_23 w_24 rfl).1 rfl H locs ls (hP.sub [1, 2, 0, 3, 4] rfl) (hD.sub [1, 2, 0, 3, 4] (by decide) rfl) hS (lv_sub hl [2, 0] rfl)
  ·
    replace hF := inn c_18 hF
    refine lv_goto (tgt := 147) hx hb dX5_moveSite_113 (by decide) ?_
    refine lv_iinc (v := x5 + (1 : Int32)) (lv' := [(5, .int (x5 + (1 : Int32))), (6, .int k0), (0, .ref a_), (1, .int p1), (4, .int x4)]) hx hb dX5_moveSite_147 hl (k := 4) rfl (rfl) (by decide) rfl (fun ls hl => ?_)
    refine lv_goto (tgt := 46) hx hb dX5_moveSite_150 (by decide) ?_
    cases hF
    exact hC x4 (x5 + (1 : Int32)) c_partners c_askedCount c_share c_leftOver rfl H locs ls (hP.sub [0, 1, 2, 3, 4] rfl) (hD.sub [0, 1, 2, 3, 4] (by decide) rfl) hS (lv_sub hl [2, 3, 4, 0] rfl)

set_option maxHeartbeats 4000000 in
set_option maxRecDepth 100000 in
theorem wb_X5_moveSite_46 {p : Program} (l : Launch) {e : Env} {s : State} {m : MethodId} {below : List Frame} {meth : Method} {c : Code} {Q : State → Prop} (E : EE) (K : Nat) {a_ a_row a_partners a_share a_leftOver : Nat} {p1 : Int32} {p2 : Int32} {p3 : Int32} {x4 : Int32} {x5 : Int32} {c_row : Nat → Int32} {c_partners : Nat → Int32} {c_askedCount : Int32} {c_outcome : Int32} {c_share : Nat → Int32} {c_leftOver : Nat → Int32} (hx : p.tables.exec = Jvm.exec) (hb : c.code = cX5_moveSite) (hml : c.maxLocals = 7) (hown : s.vm.findClass RX5 = some m.cls) (hts : ∀ w ∈ v_f_X5_moveSite, w.before #[Value.ref a_, Value.int p1, Value.int p2, Value.int p3] s = true) (hK : va_K E.1 vwCl (TY E) s) (hN : NX s) {A : Nat → Prop} (hA : ∀ q : Nat, s.heap.size ≤ q → A q) {xx : (Int32 × Int32 × (Nat → Int32) × Int32 × (Nat → Int32) × (Nat → Int32)) ⊕ (Nat × Int32 × (Nat → Int32) × Int32 × (Nat → Int32) × (Nat → Int32))} (hC : ∀ (x4 : Int32), ∀ (x5 : Int32), ∀ (c_partners : Nat → Int32), ∀ (c_askedCount : Int32), ∀ (c_share : Nat → Int32), ∀ (c_leftOver : Nat → Int32), xx = .inl (x4, x5, c_partners, c_askedCount, c_share, c_leftOver) → ∀ (H : Heap) (locs : List Loc) (ls : Array Slot), va_P E.1 vwCl (w_X5_moveSite E a_ a_row a_partners a_share a_leftOver c_askedCount c_outcome c_row c_partners c_share c_leftOver) H → va_D A (w_X5_moveSite E a_ a_row a_partners a_share a_leftOver c_askedCount c_outcome c_row c_partners c_share c_leftOver) → va_S A s.heap H locs → lv_has ls 7 [(0, .ref a_), (1, .int p1), (4, .int x4), (5, .int x5)] → W p l e ({ frames := 3, cells := 0, slots := 0, locals := 73 } : Room) s m #[Value.ref a_, Value.int p1, Value.int p2, Value.int p3] below meth c H locs 0 0 Q (F0 m 46 ls [])) (hE : ∀ (t9 : Nat), ∀ (x4 : Int32), ∀ (c_partners : Nat → Int32), ∀ (c_askedCount : Int32), ∀ (c_share : Nat → Int32), ∀ (c_leftOver : Nat → Int32), xx = .inr (t9, x4, c_partners, c_askedCount, c_share, c_leftOver) → ((t9 = 0 → ∀ (H : Heap) (locs : List Loc) (ls : Array Slot), va_P E.1 vwCl (w_X5_moveSite E a_ a_row a_partners a_share a_leftOver c_askedCount c_outcome c_row c_partners c_share c_leftOver) H → va_D A (w_X5_moveSite E a_ a_row a_partners a_share a_leftOver c_askedCount c_outcome c_row c_partners c_share c_leftOver) → va_S A s.heap H locs → lv_has ls 7 [(0, .ref a_), (4, .int x4)] → W p l e ({ frames := 3, cells := 0, slots := 0, locals := 73 } : Room) s m #[Value.ref a_, Value.int p1, Value.int p2, Value.int p3] below meth c H locs 0 0 Q (F0 m 140 ls [])) ∧ (t9 = 1 → ∀ (H : Heap) (locs : List Loc) (ls : Array Slot), va_P E.1 vwCl (w_X5_moveSite E a_ a_row a_partners a_share a_leftOver c_askedCount c_outcome c_row c_partners c_share c_leftOver) H → va_D A (w_X5_moveSite E a_ a_row a_partners a_share a_leftOver c_askedCount c_outcome c_row c_partners c_share c_leftOver) → va_S A s.heap H locs → lv_has ls 7 [(0, .ref a_)] → W p l e ({ frames := 3, cells := 0, slots := 0, locals := 73 } : Room) s m #[Value.ref a_, Value.int p1, Value.int p2, Value.int p3] below meth c H locs 0 0 Q (F0 m 153 ls [])))) (hF : B_X5_moveSite_46 K p1 c_row x4 x5 c_partners c_askedCount c_share c_leftOver = some xx) : ∀ (H : Heap) (locs : List Loc) (ls : Array Slot), va_P E.1 vwCl (w_X5_moveSite E a_ a_row a_partners a_share a_leftOver c_askedCount c_outcome c_row c_partners c_share c_leftOver) H → va_D A (w_X5_moveSite E a_ a_row a_partners a_share a_leftOver c_askedCount c_outcome c_row c_partners c_share c_leftOver) → va_S A s.heap H locs → lv_has ls 7 [(0, .ref a_), (1, .int p1), (4, .int x4), (5, .int x5)] → W p l e ({ frames := 3, cells := 0, slots := 0, locals := 73 } : Room) s m #[Value.ref a_, Value.int p1, Value.int p2, Value.int p3] below meth c H locs 0 0 Q (F0 m 46 ls []) := by
  unfold B_X5_moveSite_46 at hF
  intro H locs ls hP hD hS hl
  replace hP : va_P E.1 vwCl [(a_, .inr (6, [.ref a_row, .ref a_partners, .int c_askedCount, .int c_outcome, .ref a_share, .ref a_leftOver])), (a_row, .inl (E.2.1, 81, .inl c_row)), (a_partners, .inl (E.2.1, 8, .inl c_partners)), (a_share, .inl (E.2.1, 2, .inl c_share)), (a_leftOver, .inl (E.2.1, 2, .inl c_leftOver))] H := hP
  replace hD : va_D A [(a_, .inr (6, [.ref a_row, .ref a_partners, .int c_askedCount, .int c_outcome, .ref a_share, .ref a_leftOver])), (a_row, .inl (E.2.1, 81, .inl c_row)), (a_partners, .inl (E.2.1, 8, .inl c_partners)), (a_share, .inl (E.2.1, 2, .inl c_share)), (a_leftOver, .inl (E.2.1, 2, .inl c_leftOver))] := hD
  refine lv_iload hx hb dX5_moveSite_46 (lv_at hl 3 rfl) ?_
  refine lv_aload_n hx hb dX5_moveSite_48 rfl (lv_at hl 0 rfl) ?_
  refine gt_X5_0 (v := .ref a_row) hx hb hts i_f_X5_moveSite_X5 hown hK hP 0 rfl (hts (.fieldLink RX5 11 "HushWatch$State" "row" "[I") (List.mem_of_getElem? (i := 3) rfl)) rfl dX5_moveSite_49 ?_
  refine lv_iconst (v := 3) hx hb dX5_moveSite_52 (by decide) ?_
  refine va_iald hx hb hK hP 1 0 rfl rfl (vin rfl) dX5_moveSite_53 ?_
  refine W.eq (g2 := F0 m 54 ls [.int (c_row 3), .int x5]) rfl ?_
  refine lv_icmp_ge (tgt := 153) hx hb dX5_moveSite_54 (by decide) (fun c_8 => ?_) (fun c_8 => ?_)
  ·
    replace hF := ip c_8 hF
    cases hF
    exact (hE 1 x4 c_partners c_askedCount c_share c_leftOver rfl).2 rfl H locs ls (hP.sub [0, 1, 2, 3, 4] rfl) (hD.sub [0, 1, 2, 3, 4] (by decide) rfl) hS (lv_sub hl [0] rfl)
  ·
    replace hF := inn c_8 hF
    refine lv_iload hx hb dX5_moveSite_57 (lv_at hl 3 rfl) ?_
    refine lv_bipush (v := 8) hx hb dX5_moveSite_59 (by decide) ?_
    refine lv_icmp_ge (tgt := 153) hx hb dX5_moveSite_61 (by decide) (fun c_9 => ?_) (fun c_9 => ?_)
    ·
      replace hF := ip c_9 hF
      cases hF
      exact (hE 1 x4 c_partners c_askedCount c_share c_leftOver rfl).2 rfl H locs ls (hP.sub [0, 1, 2, 3, 4] rfl) (hD.sub [0, 1, 2, 3, 4] (by decide) rfl) hS (lv_sub hl [0] rfl)
    ·
      replace hF := inn c_9 hF
      refine lv_aload_n hx hb dX5_moveSite_64 rfl (lv_at hl 0 rfl) ?_
      replace hF := bd1_s hF
      obtain ⟨r_10, hc_11, hF⟩ := hF
      have hPc : va_P E.1 vwCl (w_X5_isAbove E a_ a_row a_partners a_share a_leftOver c_askedCount c_outcome c_row) H := hP.sub (ws' := [(a_, .inr (6, [.ref a_row, .ref a_partners, .int c_askedCount, .int c_outcome, .ref a_share, .ref a_leftOver])), (a_row, .inl (E.2.1, 81, .inl c_row))]) [0, 1] rfl
      have hrc := va_recv hK hPc (ci := 6) (q0 := 0) rfl rfl
      refine pE_z (va_runV (As := []) (rest := [])  ⟨hx, hb, hml, hown, hts⟩ (f_X5_isAbove l E (a_ := a_) (a_row := a_row) (a_partners := a_partners) (a_share := a_share) (a_leftOver := a_leftOver) (c_askedCount := c_askedCount) (c_outcome := c_outcome) (c_row := c_row) hc_11) (cwV 0 hts g_f_X5_moveSite_f_X5_isAbove_83 rfl rfl rfl hd_X5_isAbove ⟨Nat.le_of_ble_eq_true rfl, Nat.le_of_ble_eq_true rfl⟩) ⟨pP.blind, hrc, (pP.pre ⟨hK, hN⟩ hPc)⟩ rfl rfl hl.1 rfl (lv_room (Nat.le_of_ble_eq_true rfl)) dX5_moveSite_65 ⟨Nat.le_of_ble_eq_true rfl, Nat.le_of_ble_eq_true rfl⟩) (fun hb_12 => ?_)
      refine lv_if_ne (tgt := 153) hx hb dX5_moveSite_68 (by decide) (fun c_13 => ?_) (fun c_13 => ?_)
      ·
        replace hF := inn c_13 hF
        cases hF
        exact (hE 1 x4 c_partners c_askedCount c_share c_leftOver rfl).2 rfl H locs ls (hP.sub [0, 1, 2, 3, 4] rfl) (hD.sub [0, 1, 2, 3, 4] (by decide) rfl) hS (lv_sub hl [0] rfl)
      ·
        replace hF := ip c_13 hF
        refine lv_iload_n hx hb dX5_moveSite_71 rfl (lv_at hl 1 rfl) ?_
        refine lv_iload hx hb dX5_moveSite_72 (lv_at hl 3 rfl) ?_
        refine lv_iadd hx hb dX5_moveSite_74 ?_
        refine lv_aload_n hx hb dX5_moveSite_75 rfl (lv_at hl 0 rfl) ?_
        refine gt_X5_0 (v := .ref a_row) hx hb hts i_f_X5_moveSite_X5 hown hK hP 0 rfl (hts (.fieldLink RX5 11 "HushWatch$State" "row" "[I") (List.mem_of_getElem? (i := 3) rfl)) rfl dX5_moveSite_76 ?_
        refine lv_iconst (v := 3) hx hb dX5_moveSite_79 (by decide) ?_
        refine va_iald hx hb hK hP 1 0 rfl rfl (vin rfl) dX5_moveSite_80 ?_
        refine W.eq (g2 := F0 m 81 ls [.int (c_row 3), .int (p1 + x5)]) rfl ?_
        refine lv_icmp_ge (tgt := 91) hx hb dX5_moveSite_81 (by decide) (fun c_14 => ?_) (fun c_14 => ?_)
        ·
          replace hF := ip c_14 hF
          refine lv_iload_n hx hb dX5_moveSite_91 rfl (lv_at hl 1 rfl) ?_
          refine lv_iload hx hb dX5_moveSite_92 (lv_at hl 3 rfl) ?_
          refine lv_iadd hx hb dX5_moveSite_94 ?_
          refine lv_aload_n hx hb dX5_moveSite_95 rfl (lv_at hl 0 rfl) ?_
          refine gt_X5_0 (v := .ref a_row) hx hb hts i_f_X5_moveSite_X5 hown hK hP 0 rfl (hts (.fieldLink RX5 11 "HushWatch$State" "row" "[I") (List.mem_of_getElem? (i := 3) rfl)) rfl dX5_moveSite_96 ?_
          refine lv_iconst (v := 3) hx hb dX5_moveSite_99 (by decide) ?_
          refine va_iald hx hb hK hP 1 0 rfl rfl (vin rfl) dX5_moveSite_100 ?_
          refine W.eq (g2 := F0 m 101 ls [.int (c_row 3), .int (p1 + x5)]) rfl ?_
          refine lv_isub hx hb dX5_moveSite_101 ?_
          exact j_X5_moveSite_102_r47 l E K (p1 := p1) (p2 := p2) (p3 := p3) (k0 := (p1 + x5) - (c_row 3)) (x4 := x4) (x5 := x5) (c_row := c_row) (c_partners := c_partners) (c_askedCount := c_askedCount) (c_outcome := c_outcome) (c_share := c_share) (c_leftOver := c_leftOver) hx hb hml hown hts hK hN hA hC hE hF H locs ls (hP.sub [0, 1, 2, 3, 4] rfl) (hD.sub [0, 1, 2, 3, 4] (by decide) rfl) hS (lv_sub hl [0, 1, 2, 3] rfl)
        ·
          replace hF := inn c_14 hF
          refine lv_iload_n hx hb dX5_moveSite_84 rfl (lv_at hl 1 rfl) ?_
          refine lv_iload hx hb dX5_moveSite_85 (lv_at hl 3 rfl) ?_
          refine lv_iadd hx hb dX5_moveSite_87 ?_
          refine lv_goto (tgt := 102) hx hb dX5_moveSite_88 (by decide) ?_
          exact j_X5_moveSite_102_r47 l E K (p1 := p1) (p2 := p2) (p3 := p3) (k0 := p1 + x5) (x4 := x4) (x5 := x5) (c_row := c_row) (c_partners := c_partners) (c_askedCount := c_askedCount) (c_outcome := c_outcome) (c_share := c_share) (c_leftOver := c_leftOver) hx hb hml hown hts hK hN hA hC hE hF H locs ls (hP.sub [0, 1, 2, 3, 4] rfl) (hD.sub [0, 1, 2, 3, 4] (by decide) rfl) hS (lv_sub hl [0, 1, 2, 3] rfl)

set_option maxHeartbeats 4000000 in
set_option maxRecDepth 100000 in
theorem lw_X5_moveSite_46 {p : Program} (l : Launch) {e : Env} {s : State} {m : MethodId} {below : List Frame} {meth : Method} {c : Code} {Q : State → Prop} (E : EE) (K : Nat) {a_ a_row a_partners a_share a_leftOver : Nat} {p1 : Int32} {p2 : Int32} {p3 : Int32} {c_row : Nat → Int32} {c_outcome : Int32} (hx : p.tables.exec = Jvm.exec) (hb : c.code = cX5_moveSite) (hml : c.maxLocals = 7) (hown : s.vm.findClass RX5 = some m.cls) (hts : ∀ w ∈ v_f_X5_moveSite, w.before #[Value.ref a_, Value.int p1, Value.int p2, Value.int p3] s = true) (hK : va_K E.1 vwCl (TY E) s) (hN : NX s) {A : Nat → Prop} (hA : ∀ q : Nat, s.heap.size ≤ q → A q) (j9 : Nat) (x4 : Int32) (x5 : Int32) (c_partners : Nat → Int32) (c_askedCount : Int32) (c_share : Nat → Int32) (c_leftOver : Nat → Int32) (t9' : Nat) (x4' : Int32) (c_partners' : Nat → Int32) (c_askedCount' : Int32) (c_share' : Nat → Int32) (c_leftOver' : Nat → Int32) (hL : lpF (fun u9 : Int32 × Int32 × (Nat → Int32) × Int32 × (Nat → Int32) × (Nat → Int32) => B_X5_moveSite_46 K p1 c_row u9.1 u9.2.1 u9.2.2.1 u9.2.2.2.1 u9.2.2.2.2.1 u9.2.2.2.2.2) j9 (x4, x5, c_partners, c_askedCount, c_share, c_leftOver) = some (t9', x4', c_partners', c_askedCount', c_share', c_leftOver')) (hX : (t9' = 0 → ∀ (H : Heap) (locs : List Loc) (ls : Array Slot), va_P E.1 vwCl (w_X5_moveSite E a_ a_row a_partners a_share a_leftOver c_askedCount' c_outcome c_row c_partners' c_share' c_leftOver') H → va_D A (w_X5_moveSite E a_ a_row a_partners a_share a_leftOver c_askedCount' c_outcome c_row c_partners' c_share' c_leftOver') → va_S A s.heap H locs → lv_has ls 7 [(0, .ref a_), (4, .int x4')] → W p l e ({ frames := 3, cells := 0, slots := 0, locals := 73 } : Room) s m #[Value.ref a_, Value.int p1, Value.int p2, Value.int p3] below meth c H locs 0 0 Q (F0 m 140 ls [])) ∧ (t9' = 1 → ∀ (H : Heap) (locs : List Loc) (ls : Array Slot), va_P E.1 vwCl (w_X5_moveSite E a_ a_row a_partners a_share a_leftOver c_askedCount' c_outcome c_row c_partners' c_share' c_leftOver') H → va_D A (w_X5_moveSite E a_ a_row a_partners a_share a_leftOver c_askedCount' c_outcome c_row c_partners' c_share' c_leftOver') → va_S A s.heap H locs → lv_has ls 7 [(0, .ref a_)] → W p l e ({ frames := 3, cells := 0, slots := 0, locals := 73 } : Room) s m #[Value.ref a_, Value.int p1, Value.int p2, Value.int p3] below meth c H locs 0 0 Q (F0 m 153 ls []))) : ∀ (H : Heap) (locs : List Loc) (ls : Array Slot), va_P E.1 vwCl (w_X5_moveSite E a_ a_row a_partners a_share a_leftOver c_askedCount c_outcome c_row c_partners c_share c_leftOver) H → va_D A (w_X5_moveSite E a_ a_row a_partners a_share a_leftOver c_askedCount c_outcome c_row c_partners c_share c_leftOver) → va_S A s.heap H locs → lv_has ls 7 [(0, .ref a_), (1, .int p1), (4, .int x4), (5, .int x5)] → W p l e ({ frames := 3, cells := 0, slots := 0, locals := 73 } : Room) s m #[Value.ref a_, Value.int p1, Value.int p2, Value.int p3] below meth c H locs 0 0 Q (F0 m 46 ls []) := by
  exact lp_rule (P := (fun u9 : Int32 × Int32 × (Nat → Int32) × Int32 × (Nat → Int32) × (Nat → Int32) => ∀ (H : Heap) (locs : List Loc) (ls : Array Slot), va_P E.1 vwCl (w_X5_moveSite E a_ a_row a_partners a_share a_leftOver u9.2.2.2.1 c_outcome c_row u9.2.2.1 u9.2.2.2.2.1 u9.2.2.2.2.2) H → va_D A (w_X5_moveSite E a_ a_row a_partners a_share a_leftOver u9.2.2.2.1 c_outcome c_row u9.2.2.1 u9.2.2.2.2.1 u9.2.2.2.2.2) → va_S A s.heap H locs → lv_has ls 7 [(0, .ref a_), (1, .int p1), (4, .int u9.1), (5, .int u9.2.1)] → W p l e ({ frames := 3, cells := 0, slots := 0, locals := 73 } : Room) s m #[Value.ref a_, Value.int p1, Value.int p2, Value.int p3] below meth c H locs 0 0 Q (F0 m 46 ls []))) (R := (fun r9 : Nat × Int32 × (Nat → Int32) × Int32 × (Nat → Int32) × (Nat → Int32) => (r9.1 = 0 → ∀ (H : Heap) (locs : List Loc) (ls : Array Slot), va_P E.1 vwCl (w_X5_moveSite E a_ a_row a_partners a_share a_leftOver r9.2.2.2.1 c_outcome c_row r9.2.2.1 r9.2.2.2.2.1 r9.2.2.2.2.2) H → va_D A (w_X5_moveSite E a_ a_row a_partners a_share a_leftOver r9.2.2.2.1 c_outcome c_row r9.2.2.1 r9.2.2.2.2.1 r9.2.2.2.2.2) → va_S A s.heap H locs → lv_has ls 7 [(0, .ref a_), (4, .int r9.2.1)] → W p l e ({ frames := 3, cells := 0, slots := 0, locals := 73 } : Room) s m #[Value.ref a_, Value.int p1, Value.int p2, Value.int p3] below meth c H locs 0 0 Q (F0 m 140 ls [])) ∧ (r9.1 = 1 → ∀ (H : Heap) (locs : List Loc) (ls : Array Slot), va_P E.1 vwCl (w_X5_moveSite E a_ a_row a_partners a_share a_leftOver r9.2.2.2.1 c_outcome c_row r9.2.2.1 r9.2.2.2.2.1 r9.2.2.2.2.2) H → va_D A (w_X5_moveSite E a_ a_row a_partners a_share a_leftOver r9.2.2.2.1 c_outcome c_row r9.2.2.1 r9.2.2.2.2.1 r9.2.2.2.2.2) → va_S A s.heap H locs → lv_has ls 7 [(0, .ref a_)] → W p l e ({ frames := 3, cells := 0, slots := 0, locals := 73 } : Room) s m #[Value.ref a_, Value.int p1, Value.int p2, Value.int p3] below meth c H locs 0 0 Q (F0 m 153 ls [])))) (fun u9 xx hF hC hE => wb_X5_moveSite_46 l E K (p1 := p1) (p2 := p2) (p3 := p3) (x4 := u9.1) (x5 := u9.2.1) (c_row := c_row) (c_partners := u9.2.2.1) (c_askedCount := u9.2.2.2.1) (c_outcome := c_outcome) (c_share := u9.2.2.2.2.1) (c_leftOver := u9.2.2.2.2.2) hx hb hml hown hts hK hN hA (fun x4 x5 c_partners c_askedCount c_share c_leftOver q9 => hC _ q9) (fun t9 x4 c_partners c_askedCount c_share c_leftOver q9 => hE _ q9) hF) j9 (x4, x5, c_partners, c_askedCount, c_share, c_leftOver) (t9', x4', c_partners', c_askedCount', c_share', c_leftOver') hL hX

set_option maxHeartbeats 4000000 in
set_option maxRecDepth 100000 in
theorem j_X5_moveSite_153 {p : Program} (l : Launch) {e : Env} {s : State} {m : MethodId} {below : List Frame} {meth : Method} {c : Code} {Q : State → Prop} (E : EE) (K : Nat) {a_ a_row a_partners a_share a_leftOver : Nat} {p1 : Int32} {p2 : Int32} {p3 : Int32} {c_row : Nat → Int32} {c_partners : Nat → Int32} {c_askedCount : Int32} {c_outcome : Int32} {c_share : Nat → Int32} {c_leftOver : Nat → Int32} (hx : p.tables.exec = Jvm.exec) (hb : c.code = cX5_moveSite) (hml : c.maxLocals = 7) (hown : s.vm.findClass RX5 = some m.cls) (hts : ∀ w ∈ v_f_X5_moveSite, w.before #[Value.ref a_, Value.int p1, Value.int p2, Value.int p3] s = true) (hK : va_K E.1 vwCl (TY E) s) (hN : NX s) {A : Nat → Prop} (hA : ∀ q : Nat, s.heap.size ≤ q → A q) {rr : Int32} {n_row : Nat → Int32} {n_partners : Nat → Int32} {n_askedCount : Int32} {n_outcome : Int32} {n_share : Nat → Int32} {n_leftOver : Nat → Int32} (hr : meth.sig.returnType = (some .int)) (hlocks : meth.locks = false) (hQ : Q = MQ below (va_Qi (fun (q : Int32) (_u : Unit) => q = rr) (fun (_u : Unit) tt => va_P E.1 vwCl (w_X5_moveSite E a_ a_row a_partners a_share a_leftOver n_askedCount n_outcome n_row n_partners n_share n_leftOver) tt.heap ∧ va_D A (w_X5_moveSite E a_ a_row a_partners a_share a_leftOver n_askedCount n_outcome n_row n_partners n_share n_leftOver)) A) #[Value.ref a_, Value.int p1, Value.int p2, Value.int p3] s 0 0 A) (hF : J_X5_moveSite_153 K c_row c_partners c_askedCount c_share c_leftOver = some (rr, n_row, n_partners, n_askedCount, n_outcome, n_share, n_leftOver)) : ∀ (H : Heap) (locs : List Loc) (ls : Array Slot), va_P E.1 vwCl (w_X5_moveSite E a_ a_row a_partners a_share a_leftOver c_askedCount c_outcome c_row c_partners c_share c_leftOver) H → va_D A (w_X5_moveSite E a_ a_row a_partners a_share a_leftOver c_askedCount c_outcome c_row c_partners c_share c_leftOver) → va_S A s.heap H locs → lv_has ls 7 [(0, .ref a_)] → W p l e ({ frames := 3, cells := 0, slots := 0, locals := 73 } : Room) s m #[Value.ref a_, Value.int p1, Value.int p2, Value.int p3] below meth c H locs 0 0 Q (F0 m 153 ls []) := by
  unfold J_X5_moveSite_153 at hF
  intro H locs ls hP hD hS hl
  replace hP : va_P E.1 vwCl [(a_, .inr (6, [.ref a_row, .ref a_partners, .int c_askedCount, .int c_outcome, .ref a_share, .ref a_leftOver])), (a_row, .inl (E.2.1, 81, .inl c_row)), (a_partners, .inl (E.2.1, 8, .inl c_partners)), (a_share, .inl (E.2.1, 2, .inl c_share)), (a_leftOver, .inl (E.2.1, 2, .inl c_leftOver))] H := hP
  replace hD : va_D A [(a_, .inr (6, [.ref a_row, .ref a_partners, .int c_askedCount, .int c_outcome, .ref a_share, .ref a_leftOver])), (a_row, .inl (E.2.1, 81, .inl c_row)), (a_partners, .inl (E.2.1, 8, .inl c_partners)), (a_share, .inl (E.2.1, 2, .inl c_share)), (a_leftOver, .inl (E.2.1, 2, .inl c_leftOver))] := hD
  refine lv_aload_n hx hb dX5_moveSite_153 rfl (lv_at hl 0 rfl) ?_
  replace hF := bd1_s hF
  obtain ⟨w_39, hc_40, hF⟩ := hF
  obtain ⟨hPc, hDc, hFc⟩ := wcut (wc := (w_X5_hearAll E a_ a_row a_partners a_share a_leftOver c_askedCount c_outcome c_row)) hP hD hS hA [0, 1] (by decide) rfl
  have hrc := va_recv hK hPc (ci := 6) (q0 := 0) rfl rfl
  refine cE_v (wc := (w_X5_hearAll E a_ a_row a_partners a_share a_leftOver c_askedCount c_outcome c_row)) (wr := [(a_partners, .inl (E.2.1, 8, .inl c_partners)), (a_share, .inl (E.2.1, 2, .inl c_share)), (a_leftOver, .inl (E.2.1, 2, .inl c_leftOver))]) (w1 := (w_X5_hearAll E a_ a_row a_partners a_share a_leftOver c_askedCount c_outcome w_39)) (va_runV (As := []) (rest := [])  ⟨hx, hb, hml, hown, hts⟩ (f_X5_hearAll l E H.size K (a_ := a_) (a_row := a_row) (a_partners := a_partners) (a_share := a_share) (a_leftOver := a_leftOver) (c_askedCount := c_askedCount) (c_outcome := c_outcome) (c_row := c_row) hc_40) (cwV 0 hts g_f_X5_moveSite_f_X5_hearAll_162 rfl rfl rfl hd_X5_hearAll ⟨Nat.le_of_ble_eq_true rfl, Nat.le_of_ble_eq_true rfl⟩) ⟨pW.blind, hrc, (pW.pre ⟨hK, hN⟩ hPc hDc)⟩ rfl rfl hl.1 rfl (lv_room (Nat.le_of_ble_eq_true rfl)) dX5_moveSite_154 ⟨Nat.le_of_ble_eq_true rfl, Nat.le_of_ble_eq_true rfl⟩) hS hFc hP hD [0, 1] [2, 3, 4] rfl rfl (by decide) (by decide) (fun H locs hP hD hS => ?_)
  replace hP : va_P E.1 vwCl [(a_partners, .inl (E.2.1, 8, .inl c_partners)), (a_share, .inl (E.2.1, 2, .inl c_share)), (a_leftOver, .inl (E.2.1, 2, .inl c_leftOver)), (a_, .inr (6, [.ref a_row, .ref a_partners, .int c_askedCount, .int c_outcome, .ref a_share, .ref a_leftOver])), (a_row, .inl (E.2.1, 81, .inl w_39))] H := hP
  replace hD : va_D A [(a_partners, .inl (E.2.1, 8, .inl c_partners)), (a_share, .inl (E.2.1, 2, .inl c_share)), (a_leftOver, .inl (E.2.1, 2, .inl c_leftOver)), (a_, .inr (6, [.ref a_row, .ref a_partners, .int c_askedCount, .int c_outcome, .ref a_share, .ref a_leftOver])), (a_row, .inl (E.2.1, 81, .inl w_39))] := hD
  refine lv_aload_n hx hb dX5_moveSite_157 rfl (lv_at hl 0 rfl) ?_
  refine lv_iconst (v := 2) hx hb dX5_moveSite_158 (by decide) ?_
  refine pt_X5_3 (v := .int (2 : Int32)) hx hb hts i_f_X5_moveSite_X5 hown hK hP hD hS 3 rfl (hts (.fieldLink RX5 22 "HushWatch$State" "outcome" "I") (List.mem_of_getElem? (i := 2) rfl)) rfl rfl (Nat.le_of_ble_eq_true rfl) dX5_moveSite_159 (fun H locs hP hD hS => ?_)
  replace hP : va_P E.1 vwCl [(a_partners, .inl (E.2.1, 8, .inl c_partners)), (a_share, .inl (E.2.1, 2, .inl c_share)), (a_leftOver, .inl (E.2.1, 2, .inl c_leftOver)), (a_, .inr (6, [.ref a_row, .ref a_partners, .int c_askedCount, .int (2 : Int32), .ref a_share, .ref a_leftOver])), (a_row, .inl (E.2.1, 81, .inl w_39))] H := hP
  replace hD : va_D A [(a_partners, .inl (E.2.1, 8, .inl c_partners)), (a_share, .inl (E.2.1, 2, .inl c_share)), (a_leftOver, .inl (E.2.1, 2, .inl c_leftOver)), (a_, .inr (6, [.ref a_row, .ref a_partners, .int c_askedCount, .int (2 : Int32), .ref a_share, .ref a_leftOver])), (a_row, .inl (E.2.1, 81, .inl w_39))] := hD
  refine lv_aload_n hx hb dX5_moveSite_162 rfl (lv_at hl 0 rfl) ?_
  refine gt_X5_0 (v := .ref a_row) hx hb hts i_f_X5_moveSite_X5 hown hK hP 3 rfl (hts (.fieldLink RX5 11 "HushWatch$State" "row" "[I") (List.mem_of_getElem? (i := 3) rfl)) rfl dX5_moveSite_163 ?_
  refine lv_iconst (v := 3) hx hb dX5_moveSite_166 (by decide) ?_
  refine va_iald hx hb hK hP 4 0 rfl rfl (vin rfl) dX5_moveSite_167 ?_
  refine W.eq (g2 := F0 m 168 ls [.int (w_39 3)]) rfl ?_
  refine lv_iconst (v := 1) hx hb dX5_moveSite_168 (by decide) ?_
  refine lv_isub hx hb dX5_moveSite_169 ?_
  refine lv_aload_n hx hb dX5_moveSite_170 rfl (lv_at hl 0 rfl) ?_
  refine gt_X5_2 (v := .int c_askedCount) hx hb hts i_f_X5_moveSite_X5 hown hK hP 3 rfl (hts (.fieldLink RX5 18 "HushWatch$State" "askedCount" "I") (List.mem_of_getElem? (i := 1) rfl)) rfl dX5_moveSite_171 ?_
  refine lv_isub hx hb dX5_moveSite_174 ?_
  refine lv_istore (lv' := [(5, .int (((w_39 3) - (1 : Int32)) - c_askedCount)), (0, .ref a_)]) hx hb dX5_moveSite_175 hl (by decide) rfl (fun ls hl => ?_)
  refine lv_iconst (v := 1) hx hb dX5_moveSite_177 (by decide) ?_
  refine lv_iconst (v := 2) hx hb dX5_moveSite_178 (by decide) ?_
  refine lv_aload_n hx hb dX5_moveSite_179 rfl (lv_at hl 1 rfl) ?_
  refine gt_X5_2 (v := .int c_askedCount) hx hb hts i_f_X5_moveSite_X5 hown hK hP 3 rfl (hts (.fieldLink RX5 18 "HushWatch$State" "askedCount" "I") (List.mem_of_getElem? (i := 1) rfl)) rfl dX5_moveSite_180 ?_
  refine lv_imul hx hb dX5_moveSite_183 ?_
  refine lv_iadd hx hb dX5_moveSite_184 ?_
  refine lv_iload hx hb dX5_moveSite_185 (lv_at hl 0 rfl) ?_
  refine lv_iadd hx hb dX5_moveSite_187 ?_
  refine lv_aload_n hx hb dX5_moveSite_188 rfl (lv_at hl 1 rfl) ?_
  refine gt_X5_0 (v := .ref a_row) hx hb hts i_f_X5_moveSite_X5 hown hK hP 3 rfl (hts (.fieldLink RX5 11 "HushWatch$State" "row" "[I") (List.mem_of_getElem? (i := 3) rfl)) rfl dX5_moveSite_189 ?_
  refine lv_iconst (v := 3) hx hb dX5_moveSite_192 (by decide) ?_
  refine va_iald hx hb hK hP 4 0 rfl rfl (vin rfl) dX5_moveSite_193 ?_
  refine W.eq (g2 := F0 m 194 ls [.int (w_39 3), .int (((1 : Int32) + ((2 : Int32) * c_askedCount)) + (((w_39 3) - (1 : Int32)) - c_askedCount))]) rfl ?_
  refine lv_iadd hx hb dX5_moveSite_194 ?_
  rw [hQ]
  have h9 := fin9 (P := fun u9 : Int32 × (Nat → Int32) × (Nat → Int32) × Int32 × Int32 × (Nat → Int32) × (Nat → Int32) => ((((1 : Int32) + ((2 : Int32) * c_askedCount)) + (((w_39 3) - (1 : Int32)) - c_askedCount)) + (w_39 3)) = u9.1 ∧ va_P E.1 vwCl (w_X5_moveSite E a_ a_row a_partners a_share a_leftOver u9.2.2.2.1 u9.2.2.2.2.1 u9.2.1 u9.2.2.1 u9.2.2.2.2.2.1 u9.2.2.2.2.2.2) H ∧ va_D A (w_X5_moveSite E a_ a_row a_partners a_share a_leftOver u9.2.2.2.1 u9.2.2.2.2.1 u9.2.1 u9.2.2.1 u9.2.2.2.2.2.1 u9.2.2.2.2.2.2)) hF ⟨rfl, hP.sub [3, 4, 0, 1, 2] rfl, hD.sub [3, 4, 0, 1, 2] (by decide) rfl⟩
  obtain ⟨e9_0, hP9, hD9⟩ := h9
  exact W.iret (v := (((1 : Int32) + ((2 : Int32) * c_askedCount)) + (((w_39 3) - (1 : Int32)) - c_askedCount)) + (w_39 3)) hx hb hr (fun tt ht hW => ⟨⟨_, (), rfl, e9_0, ht ▸ hP9, hD9⟩, hS.F ht⟩) hS.2.2 dX5_moveSite_195

set_option maxHeartbeats 4000000 in
set_option maxRecDepth 100000 in
theorem f_X5_moveSite (l : Launch) (E : EE) (sz : Nat) (K : Nat) {a_ a_row a_partners a_share a_leftOver : Nat} {p1 : Int32} {p2 : Int32} {p3 : Int32} {c_askedCount : Int32} {c_outcome : Int32} {c_row : Nat → Int32} {c_partners : Nat → Int32} {c_share : Nat → Int32} {c_leftOver : Nat → Int32} {rr : Int32} {n_row : Nat → Int32} {n_partners : Nat → Int32} {n_askedCount : Int32} {n_outcome : Int32} {n_share : Nat → Int32} {n_leftOver : Nat → Int32} (hF : F_X5_moveSite K p1 p2 p3 c_row c_partners c_askedCount c_outcome c_share c_leftOver = some (rr, n_row, n_partners, n_askedCount, n_outcome, n_share, n_leftOver)) : Met l yX5_moveSite v_f_X5_moveSite (({ frames := 3, cells := 0, slots := 0, locals := 73 } : Room)) (va_Pc [.ref a_, .int p1, .int p2, .int p3] (pW E sz (w_X5_moveSite E a_ a_row a_partners a_share a_leftOver c_askedCount c_outcome c_row c_partners c_share c_leftOver))) (va_Qi (fun (q : Int32) (_u : Unit) => q = rr) (fun (_u : Unit) tt => va_P E.1 vwCl (w_X5_moveSite E a_ a_row a_partners a_share a_leftOver n_askedCount n_outcome n_row n_partners n_share n_leftOver) tt.heap ∧ va_D (va_A (w_X5_moveSite E a_ a_row a_partners a_share a_leftOver c_askedCount c_outcome c_row c_partners c_share c_leftOver) sz) (w_X5_moveSite E a_ a_row a_partners a_share a_leftOver n_askedCount n_outcome n_row n_partners n_share n_leftOver)) (va_A (w_X5_moveSite E a_ a_row a_partners a_share a_leftOver c_askedCount c_outcome c_row c_partners c_share c_leftOver) sz)) 0 0 (va_A (w_X5_moveSite E a_ a_row a_partners a_share a_leftOver c_askedCount c_outcome c_row c_partners c_share c_leftOver) sz) := by
  refine Met.ofW (cc := cX5_moveSite) (maxL := 7) (ret := (some .int)) (by decide) rfl ?_
  intro p e s m args below meth c s₁ B hml hv
  obtain ⟨rfl, hsz, ⟨hK, hN⟩, hP, hD0⟩ := hv
  have hx := B.exec
  have hb := B.bytes
  have hr := B.returns
  have hts := atoms_spec (ws := v_f_X5_moveSite) B.pre
  have hown : s.vm.findClass RX5 = some m.cls := own_of hd_X5_moveSite.1 (findClass_of_methodNamed B.named)
  have hlocks : meth.locks = false := B.notSynchronized
  subst hsz
  have hD := hD0.self (sz := s.heap.size)
  generalize hAe : va_A (w_X5_moveSite E a_ a_row a_partners a_share a_leftOver c_askedCount c_outcome c_row c_partners c_share c_leftOver) s.heap.size = A at hD ⊢
  have hA : ∀ q : Nat, s.heap.size ≤ q → A q := fun q h => by rw [← hAe]; exact Or.inr h
  have hS : va_S A s.heap s.heap [] := va_S.rf
  have hl := lv_entry ([.ref a_, .int p1, .int p2, .int p3]) (n := 7) (Nat.le_of_ble_eq_true rfl)
  rw [lg_entry_eq]
  generalize (lg_sl ([.ref a_, .int p1, .int p2, .int p3]) ++ List.replicate (7 - (lg_sl ([.ref a_, .int p1, .int p2, .int p3])).length) Slot.unset).toArray = ls at hl ⊢
  have hl : lv_has ls 7 [(0, .ref a_), (1, .int p1), (2, .int p2), (3, .int p3)] := hl
  obtain ⟨Q, hQ⟩ : ∃ Q : State → Prop, Q = MQ below (va_Qi (fun (q : Int32) (_u : Unit) => q = rr) (fun (_u : Unit) tt => va_P E.1 vwCl (w_X5_moveSite E a_ a_row a_partners a_share a_leftOver n_askedCount n_outcome n_row n_partners n_share n_leftOver) tt.heap ∧ va_D A (w_X5_moveSite E a_ a_row a_partners a_share a_leftOver n_askedCount n_outcome n_row n_partners n_share n_leftOver)) A) #[Value.ref a_, Value.int p1, Value.int p2, Value.int p3] s 0 0 A := ⟨_, rfl⟩
  rw [← hQ]
  change W p l e ({ frames := 3, cells := 0, slots := 0, locals := 73 } : Room) s m #[Value.ref a_, Value.int p1, Value.int p2, Value.int p3] below meth c s.heap [] 0 0 Q (F0 m 0 ls [])
  suffices hh9 : ∀ (H : Heap) (locs : List Loc), va_P E.1 vwCl (w_X5_moveSite E a_ a_row a_partners a_share a_leftOver c_askedCount c_outcome c_row c_partners c_share c_leftOver) H → va_D A (w_X5_moveSite E a_ a_row a_partners a_share a_leftOver c_askedCount c_outcome c_row c_partners c_share c_leftOver) → va_S A s.heap H locs → W p l e ({ frames := 3, cells := 0, slots := 0, locals := 73 } : Room) s m #[Value.ref a_, Value.int p1, Value.int p2, Value.int p3] below meth c H locs 0 0 Q (F0 m 0 ls []) from hh9 s.heap [] hP hD hS
  clear hP hD hS
  intro H locs hP hD hS
  replace hP : va_P E.1 vwCl [(a_, .inr (6, [.ref a_row, .ref a_partners, .int c_askedCount, .int c_outcome, .ref a_share, .ref a_leftOver])), (a_row, .inl (E.2.1, 81, .inl c_row)), (a_partners, .inl (E.2.1, 8, .inl c_partners)), (a_share, .inl (E.2.1, 2, .inl c_share)), (a_leftOver, .inl (E.2.1, 2, .inl c_leftOver))] H := hP
  replace hD : va_D A [(a_, .inr (6, [.ref a_row, .ref a_partners, .int c_askedCount, .int c_outcome, .ref a_share, .ref a_leftOver])), (a_row, .inl (E.2.1, 81, .inl c_row)), (a_partners, .inl (E.2.1, 8, .inl c_partners)), (a_share, .inl (E.2.1, 2, .inl c_share)), (a_leftOver, .inl (E.2.1, 2, .inl c_leftOver))] := hD
  unfold F_X5_moveSite at hF
  refine lv_aload_n hx hb dX5_moveSite_0 rfl (lv_at hl 0 rfl) ?_
  refine lv_iconst (v := 0) hx hb dX5_moveSite_1 (by decide) ?_
  refine pt_X5_2 (v := .int (0 : Int32)) hx hb hts i_f_X5_moveSite_X5 hown hK hP hD hS 0 rfl (hts (.fieldLink RX5 18 "HushWatch$State" "askedCount" "I") (List.mem_of_getElem? (i := 1) rfl)) rfl rfl (Nat.le_of_ble_eq_true rfl) dX5_moveSite_2 (fun H locs hP hD hS => ?_)
  replace hP : va_P E.1 vwCl [(a_, .inr (6, [.ref a_row, .ref a_partners, .int (0 : Int32), .int c_outcome, .ref a_share, .ref a_leftOver])), (a_row, .inl (E.2.1, 81, .inl c_row)), (a_partners, .inl (E.2.1, 8, .inl c_partners)), (a_share, .inl (E.2.1, 2, .inl c_share)), (a_leftOver, .inl (E.2.1, 2, .inl c_leftOver))] H := hP
  replace hD : va_D A [(a_, .inr (6, [.ref a_row, .ref a_partners, .int (0 : Int32), .int c_outcome, .ref a_share, .ref a_leftOver])), (a_row, .inl (E.2.1, 81, .inl c_row)), (a_partners, .inl (E.2.1, 8, .inl c_partners)), (a_share, .inl (E.2.1, 2, .inl c_share)), (a_leftOver, .inl (E.2.1, 2, .inl c_leftOver))] := hD
  refine lv_aload_n hx hb dX5_moveSite_5 rfl (lv_at hl 0 rfl) ?_
  refine lv_iconst (v := 0) hx hb dX5_moveSite_6 (by decide) ?_
  refine pt_X5_3 (v := .int (0 : Int32)) hx hb hts i_f_X5_moveSite_X5 hown hK hP hD hS 0 rfl (hts (.fieldLink RX5 22 "HushWatch$State" "outcome" "I") (List.mem_of_getElem? (i := 2) rfl)) rfl rfl (Nat.le_of_ble_eq_true rfl) dX5_moveSite_7 (fun H locs hP hD hS => ?_)
  replace hP : va_P E.1 vwCl [(a_, .inr (6, [.ref a_row, .ref a_partners, .int (0 : Int32), .int (0 : Int32), .ref a_share, .ref a_leftOver])), (a_row, .inl (E.2.1, 81, .inl c_row)), (a_partners, .inl (E.2.1, 8, .inl c_partners)), (a_share, .inl (E.2.1, 2, .inl c_share)), (a_leftOver, .inl (E.2.1, 2, .inl c_leftOver))] H := hP
  replace hD : va_D A [(a_, .inr (6, [.ref a_row, .ref a_partners, .int (0 : Int32), .int (0 : Int32), .ref a_share, .ref a_leftOver])), (a_row, .inl (E.2.1, 81, .inl c_row)), (a_partners, .inl (E.2.1, 8, .inl c_partners)), (a_share, .inl (E.2.1, 2, .inl c_share)), (a_leftOver, .inl (E.2.1, 2, .inl c_leftOver))] := hD
  refine lv_aload_n hx hb dX5_moveSite_10 rfl (lv_at hl 0 rfl) ?_
  refine lv_iload_n hx hb dX5_moveSite_11 rfl (lv_at hl 1 rfl) ?_
  refine lv_iload_n hx hb dX5_moveSite_12 rfl (lv_at hl 2 rfl) ?_
  refine lv_iload_n hx hb dX5_moveSite_13 rfl (lv_at hl 3 rfl) ?_
  replace hF := bd1_s hF
  obtain ⟨w_1, hc_2, hF⟩ := hF
  obtain ⟨hPc, hDc, hFc⟩ := wcut (wc := (w_X5_shift E a_ a_row a_partners a_share a_leftOver (0 : Int32) (0 : Int32) c_row)) hP hD hS hA [0, 1] (by decide) rfl
  have hrc := va_recv hK hPc (ci := 6) (q0 := 0) rfl rfl
  refine cE_v (wc := (w_X5_shift E a_ a_row a_partners a_share a_leftOver (0 : Int32) (0 : Int32) c_row)) (wr := [(a_partners, .inl (E.2.1, 8, .inl c_partners)), (a_share, .inl (E.2.1, 2, .inl c_share)), (a_leftOver, .inl (E.2.1, 2, .inl c_leftOver))]) (w1 := (w_X5_shift E a_ a_row a_partners a_share a_leftOver (0 : Int32) (0 : Int32) w_1)) (va_runV (As := [.int p1, .int p2, .int p3]) (rest := [])  ⟨hx, hb, hml, hown, hts⟩ (f_X5_shift l E H.size (a_ := a_) (a_row := a_row) (a_partners := a_partners) (a_share := a_share) (a_leftOver := a_leftOver) (p1 := p1) (p2 := p2) (p3 := p3) (c_askedCount := (0 : Int32)) (c_outcome := (0 : Int32)) (c_row := c_row) hc_2) (cwV 3 hts g_f_X5_moveSite_f_X5_shift_150 rfl rfl rfl hd_X5_shift ⟨Nat.le_of_ble_eq_true rfl, Nat.le_of_ble_eq_true rfl⟩) ⟨pW.blind, hrc, (pW.pre ⟨hK, hN⟩ hPc hDc)⟩ rfl rfl hl.1 rfl (lv_room (Nat.le_of_ble_eq_true rfl)) dX5_moveSite_14 ⟨Nat.le_of_ble_eq_true rfl, Nat.le_of_ble_eq_true rfl⟩) hS hFc hP hD [0, 1] [2, 3, 4] rfl rfl (by decide) (by decide) (fun H locs hP hD hS => ?_)
  replace hP : va_P E.1 vwCl [(a_partners, .inl (E.2.1, 8, .inl c_partners)), (a_share, .inl (E.2.1, 2, .inl c_share)), (a_leftOver, .inl (E.2.1, 2, .inl c_leftOver)), (a_, .inr (6, [.ref a_row, .ref a_partners, .int (0 : Int32), .int (0 : Int32), .ref a_share, .ref a_leftOver])), (a_row, .inl (E.2.1, 81, .inl w_1))] H := hP
  replace hD : va_D A [(a_partners, .inl (E.2.1, 8, .inl c_partners)), (a_share, .inl (E.2.1, 2, .inl c_share)), (a_leftOver, .inl (E.2.1, 2, .inl c_leftOver)), (a_, .inr (6, [.ref a_row, .ref a_partners, .int (0 : Int32), .int (0 : Int32), .ref a_share, .ref a_leftOver])), (a_row, .inl (E.2.1, 81, .inl w_1))] := hD
  refine lv_aload_n hx hb dX5_moveSite_17 rfl (lv_at hl 0 rfl) ?_
  refine lv_iload_n hx hb dX5_moveSite_18 rfl (lv_at hl 1 rfl) ?_
  replace hF := bd1_s hF
  obtain ⟨r_3, hc_4, hF⟩ := hF
  have hPc : va_P E.1 vwCl (w_X5_isQuiet E a_ a_row a_partners a_share a_leftOver (0 : Int32) (0 : Int32) w_1) H := hP.sub (ws' := [(a_, .inr (6, [.ref a_row, .ref a_partners, .int (0 : Int32), .int (0 : Int32), .ref a_share, .ref a_leftOver])), (a_row, .inl (E.2.1, 81, .inl w_1))]) [3, 4] rfl
  have hrc := va_recv hK hPc (ci := 6) (q0 := 0) rfl rfl
  refine pE_z (va_runV (As := [.int p1]) (rest := [])  ⟨hx, hb, hml, hown, hts⟩ (f_X5_isQuiet l E (a_ := a_) (a_row := a_row) (a_partners := a_partners) (a_share := a_share) (a_leftOver := a_leftOver) (p1 := p1) (c_askedCount := (0 : Int32)) (c_outcome := (0 : Int32)) (c_row := w_1) hc_4) (cwV 1 hts g_f_X5_moveSite_f_X5_isQuiet_99 rfl rfl rfl hd_X5_isQuiet ⟨Nat.le_of_ble_eq_true rfl, Nat.le_of_ble_eq_true rfl⟩) ⟨pP.blind, hrc, (pP.pre ⟨hK, hN⟩ hPc)⟩ rfl rfl hl.1 rfl (lv_room (Nat.le_of_ble_eq_true rfl)) dX5_moveSite_19 ⟨Nat.le_of_ble_eq_true rfl, Nat.le_of_ble_eq_true rfl⟩) (fun hb_5 => ?_)
  refine lv_if_eq (tgt := 27) hx hb dX5_moveSite_22 (by decide) (fun c_6 => ?_) (fun c_6 => ?_)
  ·
    replace hF := ip c_6 hF
    refine lv_aload_n hx hb dX5_moveSite_27 rfl (lv_at hl 0 rfl) ?_
    refine gt_X5_0 (v := .ref a_row) hx hb hts i_f_X5_moveSite_X5 hown hK hP 3 rfl (hts (.fieldLink RX5 11 "HushWatch$State" "row" "[I") (List.mem_of_getElem? (i := 3) rfl)) rfl dX5_moveSite_28 ?_
    refine lv_bipush (v := 12) hx hb dX5_moveSite_31 (by decide) ?_
    refine lv_dup2_11 hx hb dX5_moveSite_33 rfl rfl ?_
    refine va_iald hx hb hK hP 4 0 rfl rfl (vin rfl) dX5_moveSite_34 ?_
    refine W.eq (g2 := F0 m 35 ls [.int (w_1 12), .int (12 : Int32), .ref a_row]) rfl ?_
    refine lv_iconst (v := 1) hx hb dX5_moveSite_35 (by decide) ?_
    refine lv_iadd hx hb dX5_moveSite_36 ?_
    refine va_iast hx hb hK hP hD hS 4 0 rfl rfl (vin rfl) dX5_moveSite_37 (fun H locs hP hD hS => ?_)
    replace hP : va_P E.1 vwCl [(a_partners, .inl (E.2.1, 8, .inl c_partners)), (a_share, .inl (E.2.1, 2, .inl c_share)), (a_leftOver, .inl (E.2.1, 2, .inl c_leftOver)), (a_, .inr (6, [.ref a_row, .ref a_partners, .int (0 : Int32), .int (0 : Int32), .ref a_share, .ref a_leftOver])), (a_row, .inl (E.2.1, 81, .inl (upd w_1 12 ((w_1 12) + (1 : Int32)))))] H := hP
    replace hD : va_D A [(a_partners, .inl (E.2.1, 8, .inl c_partners)), (a_share, .inl (E.2.1, 2, .inl c_share)), (a_leftOver, .inl (E.2.1, 2, .inl c_leftOver)), (a_, .inr (6, [.ref a_row, .ref a_partners, .int (0 : Int32), .int (0 : Int32), .ref a_share, .ref a_leftOver])), (a_row, .inl (E.2.1, 81, .inl (upd w_1 12 ((w_1 12) + (1 : Int32)))))] := hD
    replace hF := nm_s hF
    obtain ⟨f_7, hf_7, hF⟩ := hF
    rw [← hf_7] at hP hD
    refine lv_iconst (v := 1) hx hb dX5_moveSite_38 (by decide) ?_
    refine lv_iload_n hx hb dX5_moveSite_39 rfl (lv_at hl 1 rfl) ?_
    refine lv_ishl hx hb dX5_moveSite_40 ?_
    refine lv_istore (lv' := [(4, .int ((1 : Int32) <<< (p1 &&& (31 : Int32)))), (0, .ref a_), (1, .int p1), (2, .int p2), (3, .int p3)]) hx hb dX5_moveSite_41 hl (by decide) rfl (fun ls hl => ?_)
    refine lv_iconst (v := 1) hx hb dX5_moveSite_43 (by decide) ?_
    refine lv_istore (lv' := [(5, .int (1 : Int32)), (4, .int ((1 : Int32) <<< (p1 &&& (31 : Int32)))), (0, .ref a_), (1, .int p1), (2, .int p2), (3, .int p3)]) hx hb dX5_moveSite_44 hl (by decide) rfl (fun ls hl => ?_)
    replace hF := bd6_s hF
    obtain ⟨t_28, x4_29, c_partners_30, c_askedCount_31, c_share_32, c_leftOver_33, hL_34, hF⟩ := hF
    refine lw_X5_moveSite_46 l E K (p1 := p1) (p2 := p2) (p3 := p3) (c_row := f_7) (c_outcome := (0 : Int32)) hx hb hml hown hts hK hN hA K ((1 : Int32) <<< (p1 &&& (31 : Int32))) (1 : Int32) c_partners (0 : Int32) c_share c_leftOver t_28 x4_29 c_partners_30 c_askedCount_31 c_share_32 c_leftOver_33 hL_34 ⟨?_, ?_⟩ H locs ls (hP.sub [3, 4, 0, 1, 2] rfl) (hD.sub [3, 4, 0, 1, 2] (by decide) rfl) hS (lv_sub hl [2, 3, 1, 0] rfl)
    ·
      intro t9
      replace hF := ip t9 hF
      intro H locs ls hP hD hS hl
      replace hP : va_P E.1 vwCl [(a_, .inr (6, [.ref a_row, .ref a_partners, .int c_askedCount_31, .int (0 : Int32), .ref a_share, .ref a_leftOver])), (a_row, .inl (E.2.1, 81, .inl f_7)), (a_partners, .inl (E.2.1, 8, .inl c_partners_30)), (a_share, .inl (E.2.1, 2, .inl c_share_32)), (a_leftOver, .inl (E.2.1, 2, .inl c_leftOver_33))] H := hP
      replace hD : va_D A [(a_, .inr (6, [.ref a_row, .ref a_partners, .int c_askedCount_31, .int (0 : Int32), .ref a_share, .ref a_leftOver])), (a_row, .inl (E.2.1, 81, .inl f_7)), (a_partners, .inl (E.2.1, 8, .inl c_partners_30)), (a_share, .inl (E.2.1, 2, .inl c_share_32)), (a_leftOver, .inl (E.2.1, 2, .inl c_leftOver_33))] := hD
      refine lv_aload_n hx hb dX5_moveSite_140 rfl (lv_at hl 0 rfl) ?_
      refine lv_iload hx hb dX5_moveSite_141 (lv_at hl 1 rfl) ?_
      replace hF := bd3_s hF
      obtain ⟨r_35, w_36, w_37, hc_38, hF⟩ := hF
      obtain ⟨hPc, hDc, hFc⟩ := wcut (wc := (w_X5_balance E a_ a_row a_partners a_share a_leftOver c_askedCount_31 (0 : Int32) f_7 c_share_32 c_leftOver_33)) hP hD hS hA [0, 1, 3, 4] (by decide) rfl
      have hrc := va_recv hK hPc (ci := 6) (q0 := 0) rfl rfl
      refine cE_i (wc := (w_X5_balance E a_ a_row a_partners a_share a_leftOver c_askedCount_31 (0 : Int32) f_7 c_share_32 c_leftOver_33)) (wr := [(a_partners, .inl (E.2.1, 8, .inl c_partners_30))]) (w1 := (w_X5_balance E a_ a_row a_partners a_share a_leftOver c_askedCount_31 w_37 w_36 c_share_32 c_leftOver_33)) (va_runV (As := [.int x4_29]) (rest := [])  ⟨hx, hb, hml, hown, hts⟩ (f_X5_balance l E H.size K (a_ := a_) (a_row := a_row) (a_partners := a_partners) (a_share := a_share) (a_leftOver := a_leftOver) (p1 := x4_29) (c_askedCount := c_askedCount_31) (c_outcome := (0 : Int32)) (c_row := f_7) (c_share := c_share_32) (c_leftOver := c_leftOver_33) hc_38) (cwV 1 hts g_f_X5_moveSite_f_X5_balance_159 rfl rfl rfl hd_X5_balance ⟨Nat.le_of_ble_eq_true rfl, Nat.le_of_ble_eq_true rfl⟩) ⟨pW.blind, hrc, (pW.pre ⟨hK, hN⟩ hPc hDc)⟩ rfl rfl hl.1 rfl (lv_room (Nat.le_of_ble_eq_true rfl)) dX5_moveSite_143 ⟨Nat.le_of_ble_eq_true rfl, Nat.le_of_ble_eq_true rfl⟩) hS hFc hP hD [0, 1, 3, 4] [2] rfl rfl (by decide) (by decide) (fun H locs hP hD hS => ?_)
      replace hP : va_P E.1 vwCl [(a_partners, .inl (E.2.1, 8, .inl c_partners_30)), (a_, .inr (6, [.ref a_row, .ref a_partners, .int c_askedCount_31, .int w_37, .ref a_share, .ref a_leftOver])), (a_row, .inl (E.2.1, 81, .inl w_36)), (a_share, .inl (E.2.1, 2, .inl c_share_32)), (a_leftOver, .inl (E.2.1, 2, .inl c_leftOver_33))] H := hP
      replace hD : va_D A [(a_partners, .inl (E.2.1, 8, .inl c_partners_30)), (a_, .inr (6, [.ref a_row, .ref a_partners, .int c_askedCount_31, .int w_37, .ref a_share, .ref a_leftOver])), (a_row, .inl (E.2.1, 81, .inl w_36)), (a_share, .inl (E.2.1, 2, .inl c_share_32)), (a_leftOver, .inl (E.2.1, 2, .inl c_leftOver_33))] := hD
      rw [hQ]
      have h9 := fin9 (P := fun u9 : Int32 × (Nat → Int32) × (Nat → Int32) × Int32 × Int32 × (Nat → Int32) × (Nat → Int32) => r_35 = u9.1 ∧ va_P E.1 vwCl (w_X5_moveSite E a_ a_row a_partners a_share a_leftOver u9.2.2.2.1 u9.2.2.2.2.1 u9.2.1 u9.2.2.1 u9.2.2.2.2.2.1 u9.2.2.2.2.2.2) H ∧ va_D A (w_X5_moveSite E a_ a_row a_partners a_share a_leftOver u9.2.2.2.1 u9.2.2.2.2.1 u9.2.1 u9.2.2.1 u9.2.2.2.2.2.1 u9.2.2.2.2.2.2)) hF ⟨rfl, hP.sub [1, 2, 0, 3, 4] rfl, hD.sub [1, 2, 0, 3, 4] (by decide) rfl⟩
      obtain ⟨e9_0, hP9, hD9⟩ := h9
      exact W.iret (v := r_35) hx hb hr (fun tt ht hW => ⟨⟨_, (), rfl, e9_0, ht ▸ hP9, hD9⟩, hS.F ht⟩) hS.2.2 dX5_moveSite_146
    ·
      intro t9
      replace hF := inn (show ¬ t_28 = 0 by omega) hF
      replace hF := ip t9 hF
      intro H locs ls hP hD hS hl
      replace hP : va_P E.1 vwCl [(a_, .inr (6, [.ref a_row, .ref a_partners, .int c_askedCount_31, .int (0 : Int32), .ref a_share, .ref a_leftOver])), (a_row, .inl (E.2.1, 81, .inl f_7)), (a_partners, .inl (E.2.1, 8, .inl c_partners_30)), (a_share, .inl (E.2.1, 2, .inl c_share_32)), (a_leftOver, .inl (E.2.1, 2, .inl c_leftOver_33))] H := hP
      replace hD : va_D A [(a_, .inr (6, [.ref a_row, .ref a_partners, .int c_askedCount_31, .int (0 : Int32), .ref a_share, .ref a_leftOver])), (a_row, .inl (E.2.1, 81, .inl f_7)), (a_partners, .inl (E.2.1, 8, .inl c_partners_30)), (a_share, .inl (E.2.1, 2, .inl c_share_32)), (a_leftOver, .inl (E.2.1, 2, .inl c_leftOver_33))] := hD
      exact j_X5_moveSite_153 l E K (p1 := p1) (p2 := p2) (p3 := p3) (c_row := f_7) (c_partners := c_partners_30) (c_askedCount := c_askedCount_31) (c_outcome := (0 : Int32)) (c_share := c_share_32) (c_leftOver := c_leftOver_33) hx hb hml hown hts hK hN hA hr hlocks hQ hF H locs ls (hP.sub [0, 1, 2, 3, 4] rfl) (hD.sub [0, 1, 2, 3, 4] (by decide) rfl) hS (lv_sub hl [0] rfl)
  ·
    replace hF := inn c_6 hF
    refine lv_iconst (v := 0) hx hb dX5_moveSite_25 (by decide) ?_
    rw [hQ]
    have h9 := fin9 (P := fun u9 : Int32 × (Nat → Int32) × (Nat → Int32) × Int32 × Int32 × (Nat → Int32) × (Nat → Int32) => (0 : Int32) = u9.1 ∧ va_P E.1 vwCl (w_X5_moveSite E a_ a_row a_partners a_share a_leftOver u9.2.2.2.1 u9.2.2.2.2.1 u9.2.1 u9.2.2.1 u9.2.2.2.2.2.1 u9.2.2.2.2.2.2) H ∧ va_D A (w_X5_moveSite E a_ a_row a_partners a_share a_leftOver u9.2.2.2.1 u9.2.2.2.2.1 u9.2.1 u9.2.2.1 u9.2.2.2.2.2.1 u9.2.2.2.2.2.2)) hF ⟨rfl, hP.sub [3, 4, 0, 1, 2] rfl, hD.sub [3, 4, 0, 1, 2] (by decide) rfl⟩
    obtain ⟨e9_0, hP9, hD9⟩ := h9
    exact W.iret (v := (0 : Int32)) hx hb hr (fun tt ht hW => ⟨⟨_, (), rfl, e9_0, ht ▸ hP9, hD9⟩, hS.F ht⟩) hS.2.2 dX5_moveSite_26

def F_X5_hearByHand (K : Nat) (c_row : Nat → Int32) : Option (Int32 × (Nat → Int32)) :=
  bd1 (F_X5_hearAll K c_row) (fun w_1 => some ((2 : Int32) * (w_1 3), w_1))
abbrev w_X5_hearByHand (E : EE) (a_ a_row a_partners a_share a_leftOver : Nat) (c_askedCount : Int32) (c_outcome : Int32) (c_row : Nat → Int32) : va_W := [(a_, .inr (6, [.ref a_row, .ref a_partners, .int c_askedCount, .int c_outcome, .ref a_share, .ref a_leftOver])), (a_row, .inl (E.2.1, 81, .inl c_row))]
def v_f_X5_hearByHand : List Cond := .code yX5_hearByHand cX5_hearByHand 1 (some .int) :: ([.fieldLink RX5 11 "HushWatch$State" "row" "[I", .methodLink RX5 162 yX5_hearAll, .instanceMethod yX5_hearAll, .selects RX5 yX5_hearAll yX5_hearAll, .initialized RX5] ++ (v_f_X5_hearAll ++ (wsX50 ++ ([]))))
theorem gw_f_X5_hearByHand : v_f_X5_hearByHand.all goodWord = true := by decide +kernel
theorem i_f_X5_hearByHand_X5 : ∀ w ∈ wsX50, w ∈ v_f_X5_hearByHand := fun _ h => List.mem_cons_of_mem _ (List.mem_append_right _ (List.mem_append_right _ (List.mem_append_left _ h)))
theorem g_f_X5_hearByHand_f_X5_hearAll_162 : GoodIn v_f_X5_hearByHand (wsV RX5 162 RX5 yX5_hearAll v_f_X5_hearAll) := goodIn_app (goodIn_of _ (by decide +kernel)) (goodIn_sub (fun _ h => List.mem_cons_of_mem _ (List.mem_append_right _ (List.mem_append_left _ h))) gw_f_X5_hearAll)
theorem hd_X5_hearByHand : yX5_hearByHand.cls = RX5 ∧ yX5_hearByHand.cls ≠ "java/lang/invoke/MethodHandle" ∧ yX5_hearByHand.cls ≠ "java/lang/invoke/VarHandle" ∧ (parseMethodDescriptor yX5_hearByHand.desc).map (fun d => d.parameters.length) = some 0 := by decide +kernel
set_option maxHeartbeats 4000000 in
set_option maxRecDepth 100000 in
theorem f_X5_hearByHand (l : Launch) (E : EE) (sz : Nat) (K : Nat) {a_ a_row a_partners a_share a_leftOver : Nat} {c_askedCount : Int32} {c_outcome : Int32} {c_row : Nat → Int32} {rr : Int32} {n_row : Nat → Int32} (hF : F_X5_hearByHand K c_row = some (rr, n_row)) : Met l yX5_hearByHand v_f_X5_hearByHand (({ frames := 3, cells := 0, slots := 0, locals := 73 } : Room)) (va_Pc [.ref a_] (pW E sz (w_X5_hearByHand E a_ a_row a_partners a_share a_leftOver c_askedCount c_outcome c_row))) (va_Qi (fun (q : Int32) (_u : Unit) => q = rr) (fun (_u : Unit) tt => va_P E.1 vwCl (w_X5_hearByHand E a_ a_row a_partners a_share a_leftOver c_askedCount c_outcome n_row) tt.heap ∧ va_D (va_A (w_X5_hearByHand E a_ a_row a_partners a_share a_leftOver c_askedCount c_outcome c_row) sz) (w_X5_hearByHand E a_ a_row a_partners a_share a_leftOver c_askedCount c_outcome n_row)) (va_A (w_X5_hearByHand E a_ a_row a_partners a_share a_leftOver c_askedCount c_outcome c_row) sz)) 0 0 (va_A (w_X5_hearByHand E a_ a_row a_partners a_share a_leftOver c_askedCount c_outcome c_row) sz) := by
  refine Met.ofW (cc := cX5_hearByHand) (maxL := 1) (ret := (some .int)) (by decide) rfl ?_
  intro p e s m args below meth c s₁ B hml hv
  obtain ⟨rfl, hsz, ⟨hK, hN⟩, hP, hD0⟩ := hv
  have hx := B.exec
  have hb := B.bytes
  have hr := B.returns
  have hts := atoms_spec (ws := v_f_X5_hearByHand) B.pre
  have hown : s.vm.findClass RX5 = some m.cls := own_of hd_X5_hearByHand.1 (findClass_of_methodNamed B.named)
  have hlocks : meth.locks = false := B.notSynchronized
  subst hsz
  have hD := hD0.self (sz := s.heap.size)
  generalize hAe : va_A (w_X5_hearByHand E a_ a_row a_partners a_share a_leftOver c_askedCount c_outcome c_row) s.heap.size = A at hD ⊢
  have hA : ∀ q : Nat, s.heap.size ≤ q → A q := fun q h => by rw [← hAe]; exact Or.inr h
  have hS : va_S A s.heap s.heap [] := va_S.rf
  have hl := lv_entry ([.ref a_]) (n := 1) (Nat.le_of_ble_eq_true rfl)
  rw [lg_entry_eq]
  generalize (lg_sl ([.ref a_]) ++ List.replicate (1 - (lg_sl ([.ref a_])).length) Slot.unset).toArray = ls at hl ⊢
  have hl : lv_has ls 1 [(0, .ref a_)] := hl
  obtain ⟨Q, hQ⟩ : ∃ Q : State → Prop, Q = MQ below (va_Qi (fun (q : Int32) (_u : Unit) => q = rr) (fun (_u : Unit) tt => va_P E.1 vwCl (w_X5_hearByHand E a_ a_row a_partners a_share a_leftOver c_askedCount c_outcome n_row) tt.heap ∧ va_D A (w_X5_hearByHand E a_ a_row a_partners a_share a_leftOver c_askedCount c_outcome n_row)) A) #[Value.ref a_] s 0 0 A := ⟨_, rfl⟩
  rw [← hQ]
  change W p l e ({ frames := 3, cells := 0, slots := 0, locals := 73 } : Room) s m #[Value.ref a_] below meth c s.heap [] 0 0 Q (F0 m 0 ls [])
  suffices hh9 : ∀ (H : Heap) (locs : List Loc), va_P E.1 vwCl (w_X5_hearByHand E a_ a_row a_partners a_share a_leftOver c_askedCount c_outcome c_row) H → va_D A (w_X5_hearByHand E a_ a_row a_partners a_share a_leftOver c_askedCount c_outcome c_row) → va_S A s.heap H locs → W p l e ({ frames := 3, cells := 0, slots := 0, locals := 73 } : Room) s m #[Value.ref a_] below meth c H locs 0 0 Q (F0 m 0 ls []) from hh9 s.heap [] hP hD hS
  clear hP hD hS
  intro H locs hP hD hS
  replace hP : va_P E.1 vwCl [(a_, .inr (6, [.ref a_row, .ref a_partners, .int c_askedCount, .int c_outcome, .ref a_share, .ref a_leftOver])), (a_row, .inl (E.2.1, 81, .inl c_row))] H := hP
  replace hD : va_D A [(a_, .inr (6, [.ref a_row, .ref a_partners, .int c_askedCount, .int c_outcome, .ref a_share, .ref a_leftOver])), (a_row, .inl (E.2.1, 81, .inl c_row))] := hD
  unfold F_X5_hearByHand at hF
  refine lv_aload_n hx hb dX5_hearByHand_0 rfl (lv_at hl 0 rfl) ?_
  replace hF := bd1_s hF
  obtain ⟨w_1, hc_2, hF⟩ := hF
  obtain ⟨hPc, hDc, hFc⟩ := wcut (wc := (w_X5_hearAll E a_ a_row a_partners a_share a_leftOver c_askedCount c_outcome c_row)) hP hD hS hA [0, 1] (by decide) rfl
  have hrc := va_recv hK hPc (ci := 6) (q0 := 0) rfl rfl
  refine cE_v (wc := (w_X5_hearAll E a_ a_row a_partners a_share a_leftOver c_askedCount c_outcome c_row)) (wr := []) (w1 := (w_X5_hearAll E a_ a_row a_partners a_share a_leftOver c_askedCount c_outcome w_1)) (va_runV (As := []) (rest := [])  ⟨hx, hb, hml, hown, hts⟩ (f_X5_hearAll l E H.size K (a_ := a_) (a_row := a_row) (a_partners := a_partners) (a_share := a_share) (a_leftOver := a_leftOver) (c_askedCount := c_askedCount) (c_outcome := c_outcome) (c_row := c_row) hc_2) (cwV 0 hts g_f_X5_hearByHand_f_X5_hearAll_162 rfl rfl rfl hd_X5_hearAll ⟨Nat.le_of_ble_eq_true rfl, Nat.le_of_ble_eq_true rfl⟩) ⟨pW.blind, hrc, (pW.pre ⟨hK, hN⟩ hPc hDc)⟩ rfl rfl hl.1 rfl (lv_room (Nat.le_of_ble_eq_true rfl)) dX5_hearByHand_1 ⟨Nat.le_of_ble_eq_true rfl, Nat.le_of_ble_eq_true rfl⟩) hS hFc hP hD [0, 1] [] rfl rfl (by decide) (by decide) (fun H locs hP hD hS => ?_)
  replace hP : va_P E.1 vwCl [(a_, .inr (6, [.ref a_row, .ref a_partners, .int c_askedCount, .int c_outcome, .ref a_share, .ref a_leftOver])), (a_row, .inl (E.2.1, 81, .inl w_1))] H := hP
  replace hD : va_D A [(a_, .inr (6, [.ref a_row, .ref a_partners, .int c_askedCount, .int c_outcome, .ref a_share, .ref a_leftOver])), (a_row, .inl (E.2.1, 81, .inl w_1))] := hD
  refine lv_iconst (v := 2) hx hb dX5_hearByHand_4 (by decide) ?_
  refine lv_aload_n hx hb dX5_hearByHand_5 rfl (lv_at hl 0 rfl) ?_
  refine gt_X5_0 (v := .ref a_row) hx hb hts i_f_X5_hearByHand_X5 hown hK hP 0 rfl (hts (.fieldLink RX5 11 "HushWatch$State" "row" "[I") (List.mem_of_getElem? (i := 1) rfl)) rfl dX5_hearByHand_6 ?_
  refine lv_iconst (v := 3) hx hb dX5_hearByHand_9 (by decide) ?_
  refine va_iald hx hb hK hP 1 0 rfl rfl (vin rfl) dX5_hearByHand_10 ?_
  refine W.eq (g2 := F0 m 11 ls [.int (w_1 3), .int (2 : Int32)]) rfl ?_
  refine lv_imul hx hb dX5_hearByHand_11 ?_
  rw [hQ]
  have h9 := fin9 (P := fun u9 : Int32 × (Nat → Int32) => ((2 : Int32) * (w_1 3)) = u9.1 ∧ va_P E.1 vwCl (w_X5_hearByHand E a_ a_row a_partners a_share a_leftOver c_askedCount c_outcome u9.2) H ∧ va_D A (w_X5_hearByHand E a_ a_row a_partners a_share a_leftOver c_askedCount c_outcome u9.2)) hF ⟨rfl, hP, hD⟩
  obtain ⟨e9_0, hP9, hD9⟩ := h9
  exact W.iret (v := (2 : Int32) * (w_1 3)) hx hb hr (fun tt ht hW => ⟨⟨_, (), rfl, e9_0, ht ▸ hP9, hD9⟩, hS.F ht⟩) hS.2.2 dX5_hearByHand_12

def B_X5_startCounts_33 (x2 : Int32) (c_row : Nat → Int32) : Option ((Int32 × (Nat → Int32)) ⊕ ((Nat → Int32))) :=
  bd1 (F_X5_sites c_row) (fun r_5 => if r_5 ≤ x2 then some (.inr c_row) else bd1 (F_X5_put x2 (6 : Int32) (0 : Int32) c_row) (fun w_8 => bd1 (F_X5_put x2 (7 : Int32) (0 : Int32) w_8) (fun w_10 => some (.inl (x2 + (1 : Int32), w_10)))))
def F_X5_startCounts (K : Nat) (p1 : Int32) (c_row : Nat → Int32) : Option ((Nat → Int32)) :=
  nmF (upd c_row 2 p1) (fun f_1 => nmF (upd f_1 8 (0 : Int32)) (fun f_2 => nmF (upd f_2 9 (0 : Int32)) (fun f_3 => nmF (upd f_3 10 (0 : Int32)) (fun f_4 => bd1 (lpF (fun u9 : Int32 × (Nat → Int32) => B_X5_startCounts_33  u9.1 u9.2) K ((0 : Int32), f_4)) (fun c_row_12 => some c_row_12)))))
abbrev w_X5_startCounts (E : EE) (a_ a_row a_partners a_share a_leftOver : Nat) (c_askedCount : Int32) (c_outcome : Int32) (c_row : Nat → Int32) : va_W := [(a_, .inr (6, [.ref a_row, .ref a_partners, .int c_askedCount, .int c_outcome, .ref a_share, .ref a_leftOver])), (a_row, .inl (E.2.1, 81, .inl c_row))]
def v_f_X5_startCounts : List Cond := .code yX5_startCounts cX5_startCounts 3 none :: ([.fieldLink RX5 11 "HushWatch$State" "row" "[I", .methodLink RX5 45 yX5_sites, .instanceMethod yX5_sites, .selects RX5 yX5_sites yX5_sites, .initialized RX5, .methodLink RX5 52 yX5_put, .instanceMethod yX5_put, .selects RX5 yX5_put yX5_put] ++ (wsX50 ++ (v_f_X5_sites ++ (v_f_X5_put ++ ([])))))
theorem gw_f_X5_startCounts : v_f_X5_startCounts.all goodWord = true := by decide +kernel
theorem i_f_X5_startCounts_X5 : ∀ w ∈ wsX50, w ∈ v_f_X5_startCounts := fun _ h => List.mem_cons_of_mem _ (List.mem_append_right _ (List.mem_append_left _ h))
theorem g_f_X5_startCounts_f_X5_sites_45 : GoodIn v_f_X5_startCounts (wsV RX5 45 RX5 yX5_sites v_f_X5_sites) := goodIn_app (goodIn_of _ (by decide +kernel)) (goodIn_sub (fun _ h => List.mem_cons_of_mem _ (List.mem_append_right _ (List.mem_append_right _ (List.mem_append_left _ h)))) gw_f_X5_sites)
theorem g_f_X5_startCounts_f_X5_put_52 : GoodIn v_f_X5_startCounts (wsV RX5 52 RX5 yX5_put v_f_X5_put) := goodIn_app (goodIn_of _ (by decide +kernel)) (goodIn_sub (fun _ h => List.mem_cons_of_mem _ (List.mem_append_right _ (List.mem_append_right _ (List.mem_append_right _ (List.mem_append_left _ h))))) gw_f_X5_put)
theorem hd_X5_startCounts : yX5_startCounts.cls = RX5 ∧ yX5_startCounts.cls ≠ "java/lang/invoke/MethodHandle" ∧ yX5_startCounts.cls ≠ "java/lang/invoke/VarHandle" ∧ (parseMethodDescriptor yX5_startCounts.desc).map (fun d => d.parameters.length) = some 1 := by decide +kernel
set_option maxHeartbeats 4000000 in
set_option maxRecDepth 100000 in
theorem wb_X5_startCounts_33 {p : Program} (l : Launch) {e : Env} {s : State} {m : MethodId} {below : List Frame} {meth : Method} {c : Code} {Q : State → Prop} (E : EE) (K : Nat) {a_ a_row a_partners a_share a_leftOver : Nat} {p1 : Int32} {c_askedCount : Int32} {c_outcome : Int32} {x2 : Int32} {c_row : Nat → Int32} (hx : p.tables.exec = Jvm.exec) (hb : c.code = cX5_startCounts) (hml : c.maxLocals = 3) (hown : s.vm.findClass RX5 = some m.cls) (hts : ∀ w ∈ v_f_X5_startCounts, w.before #[Value.ref a_, Value.int p1] s = true) (hK : va_K E.1 vwCl (TY E) s) (hN : NX s) {A : Nat → Prop} (hA : ∀ q : Nat, s.heap.size ≤ q → A q) {xx : (Int32 × (Nat → Int32)) ⊕ ((Nat → Int32))} (hC : ∀ (x2 : Int32), ∀ (c_row : Nat → Int32), xx = .inl (x2, c_row) → ∀ (H : Heap) (locs : List Loc) (ls : Array Slot), va_P E.1 vwCl (w_X5_startCounts E a_ a_row a_partners a_share a_leftOver c_askedCount c_outcome c_row) H → va_D A (w_X5_startCounts E a_ a_row a_partners a_share a_leftOver c_askedCount c_outcome c_row) → va_S A s.heap H locs → lv_has ls 3 [(0, .ref a_), (2, .int x2)] → W p l e ({ frames := 1, cells := 0, slots := 0, locals := 23 } : Room) s m #[Value.ref a_, Value.int p1] below meth c H locs 0 0 Q (F0 m 33 ls [])) (hE : ∀ (c_row : Nat → Int32), xx = .inr c_row → ((∀ (H : Heap) (locs : List Loc) (ls : Array Slot), va_P E.1 vwCl (w_X5_startCounts E a_ a_row a_partners a_share a_leftOver c_askedCount c_outcome c_row) H → va_D A (w_X5_startCounts E a_ a_row a_partners a_share a_leftOver c_askedCount c_outcome c_row) → va_S A s.heap H locs → lv_has ls 3 [] → W p l e ({ frames := 1, cells := 0, slots := 0, locals := 23 } : Room) s m #[Value.ref a_, Value.int p1] below meth c H locs 0 0 Q (F0 m 63 ls [])))) (hF : B_X5_startCounts_33  x2 c_row = some xx) : ∀ (H : Heap) (locs : List Loc) (ls : Array Slot), va_P E.1 vwCl (w_X5_startCounts E a_ a_row a_partners a_share a_leftOver c_askedCount c_outcome c_row) H → va_D A (w_X5_startCounts E a_ a_row a_partners a_share a_leftOver c_askedCount c_outcome c_row) → va_S A s.heap H locs → lv_has ls 3 [(0, .ref a_), (2, .int x2)] → W p l e ({ frames := 1, cells := 0, slots := 0, locals := 23 } : Room) s m #[Value.ref a_, Value.int p1] below meth c H locs 0 0 Q (F0 m 33 ls []) := by
  unfold B_X5_startCounts_33 at hF
  intro H locs ls hP hD hS hl
  replace hP : va_P E.1 vwCl [(a_, .inr (6, [.ref a_row, .ref a_partners, .int c_askedCount, .int c_outcome, .ref a_share, .ref a_leftOver])), (a_row, .inl (E.2.1, 81, .inl c_row))] H := hP
  replace hD : va_D A [(a_, .inr (6, [.ref a_row, .ref a_partners, .int c_askedCount, .int c_outcome, .ref a_share, .ref a_leftOver])), (a_row, .inl (E.2.1, 81, .inl c_row))] := hD
  refine lv_iload_n hx hb dX5_startCounts_33 rfl (lv_at hl 1 rfl) ?_
  refine lv_aload_n hx hb dX5_startCounts_34 rfl (lv_at hl 0 rfl) ?_
  replace hF := bd1_s hF
  obtain ⟨r_5, hc_6, hF⟩ := hF
  have hPc : va_P E.1 vwCl (w_X5_sites E a_ a_row a_partners a_share a_leftOver c_askedCount c_outcome c_row) H := hP.sub (ws' := [(a_, .inr (6, [.ref a_row, .ref a_partners, .int c_askedCount, .int c_outcome, .ref a_share, .ref a_leftOver])), (a_row, .inl (E.2.1, 81, .inl c_row))]) [0, 1] rfl
  have hrc := va_recv hK hPc (ci := 6) (q0 := 0) rfl rfl
  refine pE_i (va_runV (As := []) (rest := [.int x2])  ⟨hx, hb, hml, hown, hts⟩ (f_X5_sites l E (a_ := a_) (a_row := a_row) (a_partners := a_partners) (a_share := a_share) (a_leftOver := a_leftOver) (c_askedCount := c_askedCount) (c_outcome := c_outcome) (c_row := c_row) hc_6) (cwV 0 hts g_f_X5_startCounts_f_X5_sites_45 rfl rfl rfl hd_X5_sites ⟨Nat.le_of_ble_eq_true rfl, Nat.le_of_ble_eq_true rfl⟩) ⟨pP.blind, hrc, (pP.pre ⟨hK, hN⟩ hPc)⟩ rfl rfl hl.1 rfl (lv_room (Nat.le_of_ble_eq_true rfl)) dX5_startCounts_35 ⟨Nat.le_of_ble_eq_true rfl, Nat.le_of_ble_eq_true rfl⟩) ?_
  refine lv_icmp_ge (tgt := 63) hx hb dX5_startCounts_38 (by decide) (fun c_7 => ?_) (fun c_7 => ?_)
  ·
    replace hF := ip c_7 hF
    cases hF
    exact hE c_row rfl H locs ls (hP.sub [0, 1] rfl) (hD.sub [0, 1] (by decide) rfl) hS (lv_sub hl [] rfl)
  ·
    replace hF := inn c_7 hF
    refine lv_aload_n hx hb dX5_startCounts_41 rfl (lv_at hl 0 rfl) ?_
    refine lv_iload_n hx hb dX5_startCounts_42 rfl (lv_at hl 1 rfl) ?_
    refine lv_bipush (v := 6) hx hb dX5_startCounts_43 (by decide) ?_
    refine lv_iconst (v := 0) hx hb dX5_startCounts_45 (by decide) ?_
    replace hF := bd1_s hF
    obtain ⟨w_8, hc_9, hF⟩ := hF
    obtain ⟨hPc, hDc, hFc⟩ := wcut (wc := (w_X5_put E a_ a_row a_partners a_share a_leftOver c_askedCount c_outcome c_row)) hP hD hS hA [0, 1] (by decide) rfl
    have hrc := va_recv hK hPc (ci := 6) (q0 := 0) rfl rfl
    refine cE_v (wc := (w_X5_put E a_ a_row a_partners a_share a_leftOver c_askedCount c_outcome c_row)) (wr := []) (w1 := (w_X5_put E a_ a_row a_partners a_share a_leftOver c_askedCount c_outcome w_8)) (va_runV (As := [.int x2, .int (6 : Int32), .int (0 : Int32)]) (rest := [])  ⟨hx, hb, hml, hown, hts⟩ (f_X5_put l E H.size (a_ := a_) (a_row := a_row) (a_partners := a_partners) (a_share := a_share) (a_leftOver := a_leftOver) (p1 := x2) (p2 := (6 : Int32)) (p3 := (0 : Int32)) (c_askedCount := c_askedCount) (c_outcome := c_outcome) (c_row := c_row) hc_9) (cwV 3 hts g_f_X5_startCounts_f_X5_put_52 rfl rfl rfl hd_X5_put ⟨Nat.le_of_ble_eq_true rfl, Nat.le_of_ble_eq_true rfl⟩) ⟨pW.blind, hrc, (pW.pre ⟨hK, hN⟩ hPc hDc)⟩ rfl rfl hl.1 rfl (lv_room (Nat.le_of_ble_eq_true rfl)) dX5_startCounts_46 ⟨Nat.le_of_ble_eq_true rfl, Nat.le_of_ble_eq_true rfl⟩) hS hFc hP hD [0, 1] [] rfl rfl (by decide) (by decide) (fun H locs hP hD hS => ?_)
    replace hP : va_P E.1 vwCl [(a_, .inr (6, [.ref a_row, .ref a_partners, .int c_askedCount, .int c_outcome, .ref a_share, .ref a_leftOver])), (a_row, .inl (E.2.1, 81, .inl w_8))] H := hP
    replace hD : va_D A [(a_, .inr (6, [.ref a_row, .ref a_partners, .int c_askedCount, .int c_outcome, .ref a_share, .ref a_leftOver])), (a_row, .inl (E.2.1, 81, .inl w_8))] := hD
    refine lv_aload_n hx hb dX5_startCounts_49 rfl (lv_at hl 0 rfl) ?_
    refine lv_iload_n hx hb dX5_startCounts_50 rfl (lv_at hl 1 rfl) ?_
    refine lv_bipush (v := 7) hx hb dX5_startCounts_51 (by decide) ?_
    refine lv_iconst (v := 0) hx hb dX5_startCounts_53 (by decide) ?_
    replace hF := bd1_s hF
    obtain ⟨w_10, hc_11, hF⟩ := hF
    obtain ⟨hPc, hDc, hFc⟩ := wcut (wc := (w_X5_put E a_ a_row a_partners a_share a_leftOver c_askedCount c_outcome w_8)) hP hD hS hA [0, 1] (by decide) rfl
    have hrc := va_recv hK hPc (ci := 6) (q0 := 0) rfl rfl
    refine cE_v (wc := (w_X5_put E a_ a_row a_partners a_share a_leftOver c_askedCount c_outcome w_8)) (wr := []) (w1 := (w_X5_put E a_ a_row a_partners a_share a_leftOver c_askedCount c_outcome w_10)) (va_runV (As := [.int x2, .int (7 : Int32), .int (0 : Int32)]) (rest := [])  ⟨hx, hb, hml, hown, hts⟩ (f_X5_put l E H.size (a_ := a_) (a_row := a_row) (a_partners := a_partners) (a_share := a_share) (a_leftOver := a_leftOver) (p1 := x2) (p2 := (7 : Int32)) (p3 := (0 : Int32)) (c_askedCount := c_askedCount) (c_outcome := c_outcome) (c_row := w_8) hc_11) (cwV 3 hts g_f_X5_startCounts_f_X5_put_52 rfl rfl rfl hd_X5_put ⟨Nat.le_of_ble_eq_true rfl, Nat.le_of_ble_eq_true rfl⟩) ⟨pW.blind, hrc, (pW.pre ⟨hK, hN⟩ hPc hDc)⟩ rfl rfl hl.1 rfl (lv_room (Nat.le_of_ble_eq_true rfl)) dX5_startCounts_54 ⟨Nat.le_of_ble_eq_true rfl, Nat.le_of_ble_eq_true rfl⟩) hS hFc hP hD [0, 1] [] rfl rfl (by decide) (by decide) (fun H locs hP hD hS => ?_)
    replace hP : va_P E.1 vwCl [(a_, .inr (6, [.ref a_row, .ref a_partners, .int c_askedCount, .int c_outcome, .ref a_share, .ref a_leftOver])), (a_row, .inl (E.2.1, 81, .inl w_10))] H := hP
    replace hD : va_D A [(a_, .inr (6, [.ref a_row, .ref a_partners, .int c_askedCount, .int c_outcome, .ref a_share, .ref a_leftOver])), (a_row, .inl (E.2.1, 81, .inl w_10))] := hD
    refine lv_iinc (v := x2 + (1 : Int32)) (lv' := [(2, .int (x2 + (1 : Int32))), (0, .ref a_)]) hx hb dX5_startCounts_57 hl (k := 1) rfl (rfl) (by decide) rfl (fun ls hl => ?_)
    refine lv_goto (tgt := 33) hx hb dX5_startCounts_60 (by decide) ?_
    cases hF
    exact hC (x2 + (1 : Int32)) w_10 rfl H locs ls (hP.sub [0, 1] rfl) (hD.sub [0, 1] (by decide) rfl) hS (lv_sub hl [1, 0] rfl)

set_option maxHeartbeats 4000000 in
set_option maxRecDepth 100000 in
theorem lw_X5_startCounts_33 {p : Program} (l : Launch) {e : Env} {s : State} {m : MethodId} {below : List Frame} {meth : Method} {c : Code} {Q : State → Prop} (E : EE) (K : Nat) {a_ a_row a_partners a_share a_leftOver : Nat} {p1 : Int32} {c_askedCount : Int32} {c_outcome : Int32} (hx : p.tables.exec = Jvm.exec) (hb : c.code = cX5_startCounts) (hml : c.maxLocals = 3) (hown : s.vm.findClass RX5 = some m.cls) (hts : ∀ w ∈ v_f_X5_startCounts, w.before #[Value.ref a_, Value.int p1] s = true) (hK : va_K E.1 vwCl (TY E) s) (hN : NX s) {A : Nat → Prop} (hA : ∀ q : Nat, s.heap.size ≤ q → A q) (j9 : Nat) (x2 : Int32) (c_row : Nat → Int32) (c_row' : Nat → Int32) (hL : lpF (fun u9 : Int32 × (Nat → Int32) => B_X5_startCounts_33  u9.1 u9.2) j9 (x2, c_row) = some c_row') (hX : (∀ (H : Heap) (locs : List Loc) (ls : Array Slot), va_P E.1 vwCl (w_X5_startCounts E a_ a_row a_partners a_share a_leftOver c_askedCount c_outcome c_row') H → va_D A (w_X5_startCounts E a_ a_row a_partners a_share a_leftOver c_askedCount c_outcome c_row') → va_S A s.heap H locs → lv_has ls 3 [] → W p l e ({ frames := 1, cells := 0, slots := 0, locals := 23 } : Room) s m #[Value.ref a_, Value.int p1] below meth c H locs 0 0 Q (F0 m 63 ls []))) : ∀ (H : Heap) (locs : List Loc) (ls : Array Slot), va_P E.1 vwCl (w_X5_startCounts E a_ a_row a_partners a_share a_leftOver c_askedCount c_outcome c_row) H → va_D A (w_X5_startCounts E a_ a_row a_partners a_share a_leftOver c_askedCount c_outcome c_row) → va_S A s.heap H locs → lv_has ls 3 [(0, .ref a_), (2, .int x2)] → W p l e ({ frames := 1, cells := 0, slots := 0, locals := 23 } : Room) s m #[Value.ref a_, Value.int p1] below meth c H locs 0 0 Q (F0 m 33 ls []) := by
  exact lp_rule (P := (fun u9 : Int32 × (Nat → Int32) => ∀ (H : Heap) (locs : List Loc) (ls : Array Slot), va_P E.1 vwCl (w_X5_startCounts E a_ a_row a_partners a_share a_leftOver c_askedCount c_outcome u9.2) H → va_D A (w_X5_startCounts E a_ a_row a_partners a_share a_leftOver c_askedCount c_outcome u9.2) → va_S A s.heap H locs → lv_has ls 3 [(0, .ref a_), (2, .int u9.1)] → W p l e ({ frames := 1, cells := 0, slots := 0, locals := 23 } : Room) s m #[Value.ref a_, Value.int p1] below meth c H locs 0 0 Q (F0 m 33 ls []))) (R := (fun r9 : (Nat → Int32) => (∀ (H : Heap) (locs : List Loc) (ls : Array Slot), va_P E.1 vwCl (w_X5_startCounts E a_ a_row a_partners a_share a_leftOver c_askedCount c_outcome r9) H → va_D A (w_X5_startCounts E a_ a_row a_partners a_share a_leftOver c_askedCount c_outcome r9) → va_S A s.heap H locs → lv_has ls 3 [] → W p l e ({ frames := 1, cells := 0, slots := 0, locals := 23 } : Room) s m #[Value.ref a_, Value.int p1] below meth c H locs 0 0 Q (F0 m 63 ls [])))) (fun u9 xx hF hC hE => wb_X5_startCounts_33 l E K (p1 := p1) (c_askedCount := c_askedCount) (c_outcome := c_outcome) (x2 := u9.1) (c_row := u9.2) hx hb hml hown hts hK hN hA (fun x2 c_row q9 => hC _ q9) (fun c_row q9 => hE _ q9) hF) j9 (x2, c_row) c_row' hL hX

set_option maxHeartbeats 4000000 in
set_option maxRecDepth 100000 in
theorem f_X5_startCounts (l : Launch) (E : EE) (sz : Nat) (K : Nat) {a_ a_row a_partners a_share a_leftOver : Nat} {p1 : Int32} {c_askedCount : Int32} {c_outcome : Int32} {c_row : Nat → Int32} {n_row : Nat → Int32} (hF : F_X5_startCounts K p1 c_row = some n_row) : Met l yX5_startCounts v_f_X5_startCounts (({ frames := 1, cells := 0, slots := 0, locals := 23 } : Room)) (va_Pc [.ref a_, .int p1] (pW E sz (w_X5_startCounts E a_ a_row a_partners a_share a_leftOver c_askedCount c_outcome c_row))) (va_Qv (fun (_u : Unit) => True) (fun (_u : Unit) tt => va_P E.1 vwCl (w_X5_startCounts E a_ a_row a_partners a_share a_leftOver c_askedCount c_outcome n_row) tt.heap ∧ va_D (va_A (w_X5_startCounts E a_ a_row a_partners a_share a_leftOver c_askedCount c_outcome c_row) sz) (w_X5_startCounts E a_ a_row a_partners a_share a_leftOver c_askedCount c_outcome n_row)) (va_A (w_X5_startCounts E a_ a_row a_partners a_share a_leftOver c_askedCount c_outcome c_row) sz)) 0 0 (va_A (w_X5_startCounts E a_ a_row a_partners a_share a_leftOver c_askedCount c_outcome c_row) sz) := by
  refine Met.ofW (cc := cX5_startCounts) (maxL := 3) (ret := none) (by decide) rfl ?_
  intro p e s m args below meth c s₁ B hml hv
  obtain ⟨rfl, hsz, ⟨hK, hN⟩, hP, hD0⟩ := hv
  have hx := B.exec
  have hb := B.bytes
  have hr := B.returns
  have hts := atoms_spec (ws := v_f_X5_startCounts) B.pre
  have hown : s.vm.findClass RX5 = some m.cls := own_of hd_X5_startCounts.1 (findClass_of_methodNamed B.named)
  have hlocks : meth.locks = false := B.notSynchronized
  subst hsz
  have hD := hD0.self (sz := s.heap.size)
  generalize hAe : va_A (w_X5_startCounts E a_ a_row a_partners a_share a_leftOver c_askedCount c_outcome c_row) s.heap.size = A at hD ⊢
  have hA : ∀ q : Nat, s.heap.size ≤ q → A q := fun q h => by rw [← hAe]; exact Or.inr h
  have hS : va_S A s.heap s.heap [] := va_S.rf
  have hl := lv_entry ([.ref a_, .int p1]) (n := 3) (Nat.le_of_ble_eq_true rfl)
  rw [lg_entry_eq]
  generalize (lg_sl ([.ref a_, .int p1]) ++ List.replicate (3 - (lg_sl ([.ref a_, .int p1])).length) Slot.unset).toArray = ls at hl ⊢
  have hl : lv_has ls 3 [(0, .ref a_), (1, .int p1)] := hl
  obtain ⟨Q, hQ⟩ : ∃ Q : State → Prop, Q = MQ below (va_Qv (fun (_u : Unit) => True) (fun (_u : Unit) tt => va_P E.1 vwCl (w_X5_startCounts E a_ a_row a_partners a_share a_leftOver c_askedCount c_outcome n_row) tt.heap ∧ va_D A (w_X5_startCounts E a_ a_row a_partners a_share a_leftOver c_askedCount c_outcome n_row)) A) #[Value.ref a_, Value.int p1] s 0 0 A := ⟨_, rfl⟩
  rw [← hQ]
  change W p l e ({ frames := 1, cells := 0, slots := 0, locals := 23 } : Room) s m #[Value.ref a_, Value.int p1] below meth c s.heap [] 0 0 Q (F0 m 0 ls [])
  suffices hh9 : ∀ (H : Heap) (locs : List Loc), va_P E.1 vwCl (w_X5_startCounts E a_ a_row a_partners a_share a_leftOver c_askedCount c_outcome c_row) H → va_D A (w_X5_startCounts E a_ a_row a_partners a_share a_leftOver c_askedCount c_outcome c_row) → va_S A s.heap H locs → W p l e ({ frames := 1, cells := 0, slots := 0, locals := 23 } : Room) s m #[Value.ref a_, Value.int p1] below meth c H locs 0 0 Q (F0 m 0 ls []) from hh9 s.heap [] hP hD hS
  clear hP hD hS
  intro H locs hP hD hS
  replace hP : va_P E.1 vwCl [(a_, .inr (6, [.ref a_row, .ref a_partners, .int c_askedCount, .int c_outcome, .ref a_share, .ref a_leftOver])), (a_row, .inl (E.2.1, 81, .inl c_row))] H := hP
  replace hD : va_D A [(a_, .inr (6, [.ref a_row, .ref a_partners, .int c_askedCount, .int c_outcome, .ref a_share, .ref a_leftOver])), (a_row, .inl (E.2.1, 81, .inl c_row))] := hD
  unfold F_X5_startCounts at hF
  refine lv_aload_n hx hb dX5_startCounts_0 rfl (lv_at hl 0 rfl) ?_
  refine gt_X5_0 (v := .ref a_row) hx hb hts i_f_X5_startCounts_X5 hown hK hP 0 rfl (hts (.fieldLink RX5 11 "HushWatch$State" "row" "[I") (List.mem_of_getElem? (i := 1) rfl)) rfl dX5_startCounts_1 ?_
  refine lv_iconst (v := 2) hx hb dX5_startCounts_4 (by decide) ?_
  refine lv_iload_n hx hb dX5_startCounts_5 rfl (lv_at hl 1 rfl) ?_
  refine va_iast hx hb hK hP hD hS 1 0 rfl rfl (vin rfl) dX5_startCounts_6 (fun H locs hP hD hS => ?_)
  replace hP : va_P E.1 vwCl [(a_, .inr (6, [.ref a_row, .ref a_partners, .int c_askedCount, .int c_outcome, .ref a_share, .ref a_leftOver])), (a_row, .inl (E.2.1, 81, .inl (upd c_row 2 p1)))] H := hP
  replace hD : va_D A [(a_, .inr (6, [.ref a_row, .ref a_partners, .int c_askedCount, .int c_outcome, .ref a_share, .ref a_leftOver])), (a_row, .inl (E.2.1, 81, .inl (upd c_row 2 p1)))] := hD
  replace hF := nm_s hF
  obtain ⟨f_1, hf_1, hF⟩ := hF
  rw [← hf_1] at hP hD
  refine lv_aload_n hx hb dX5_startCounts_7 rfl (lv_at hl 0 rfl) ?_
  refine gt_X5_0 (v := .ref a_row) hx hb hts i_f_X5_startCounts_X5 hown hK hP 0 rfl (hts (.fieldLink RX5 11 "HushWatch$State" "row" "[I") (List.mem_of_getElem? (i := 1) rfl)) rfl dX5_startCounts_8 ?_
  refine lv_bipush (v := 8) hx hb dX5_startCounts_11 (by decide) ?_
  refine lv_iconst (v := 0) hx hb dX5_startCounts_13 (by decide) ?_
  refine va_iast hx hb hK hP hD hS 1 0 rfl rfl (vin rfl) dX5_startCounts_14 (fun H locs hP hD hS => ?_)
  replace hP : va_P E.1 vwCl [(a_, .inr (6, [.ref a_row, .ref a_partners, .int c_askedCount, .int c_outcome, .ref a_share, .ref a_leftOver])), (a_row, .inl (E.2.1, 81, .inl (upd f_1 8 (0 : Int32))))] H := hP
  replace hD : va_D A [(a_, .inr (6, [.ref a_row, .ref a_partners, .int c_askedCount, .int c_outcome, .ref a_share, .ref a_leftOver])), (a_row, .inl (E.2.1, 81, .inl (upd f_1 8 (0 : Int32))))] := hD
  replace hF := nm_s hF
  obtain ⟨f_2, hf_2, hF⟩ := hF
  rw [← hf_2] at hP hD
  refine lv_aload_n hx hb dX5_startCounts_15 rfl (lv_at hl 0 rfl) ?_
  refine gt_X5_0 (v := .ref a_row) hx hb hts i_f_X5_startCounts_X5 hown hK hP 0 rfl (hts (.fieldLink RX5 11 "HushWatch$State" "row" "[I") (List.mem_of_getElem? (i := 1) rfl)) rfl dX5_startCounts_16 ?_
  refine lv_bipush (v := 9) hx hb dX5_startCounts_19 (by decide) ?_
  refine lv_iconst (v := 0) hx hb dX5_startCounts_21 (by decide) ?_
  refine va_iast hx hb hK hP hD hS 1 0 rfl rfl (vin rfl) dX5_startCounts_22 (fun H locs hP hD hS => ?_)
  replace hP : va_P E.1 vwCl [(a_, .inr (6, [.ref a_row, .ref a_partners, .int c_askedCount, .int c_outcome, .ref a_share, .ref a_leftOver])), (a_row, .inl (E.2.1, 81, .inl (upd f_2 9 (0 : Int32))))] H := hP
  replace hD : va_D A [(a_, .inr (6, [.ref a_row, .ref a_partners, .int c_askedCount, .int c_outcome, .ref a_share, .ref a_leftOver])), (a_row, .inl (E.2.1, 81, .inl (upd f_2 9 (0 : Int32))))] := hD
  replace hF := nm_s hF
  obtain ⟨f_3, hf_3, hF⟩ := hF
  rw [← hf_3] at hP hD
  refine lv_aload_n hx hb dX5_startCounts_23 rfl (lv_at hl 0 rfl) ?_
  refine gt_X5_0 (v := .ref a_row) hx hb hts i_f_X5_startCounts_X5 hown hK hP 0 rfl (hts (.fieldLink RX5 11 "HushWatch$State" "row" "[I") (List.mem_of_getElem? (i := 1) rfl)) rfl dX5_startCounts_24 ?_
  refine lv_bipush (v := 10) hx hb dX5_startCounts_27 (by decide) ?_
  refine lv_iconst (v := 0) hx hb dX5_startCounts_29 (by decide) ?_
  refine va_iast hx hb hK hP hD hS 1 0 rfl rfl (vin rfl) dX5_startCounts_30 (fun H locs hP hD hS => ?_)
  replace hP : va_P E.1 vwCl [(a_, .inr (6, [.ref a_row, .ref a_partners, .int c_askedCount, .int c_outcome, .ref a_share, .ref a_leftOver])), (a_row, .inl (E.2.1, 81, .inl (upd f_3 10 (0 : Int32))))] H := hP
  replace hD : va_D A [(a_, .inr (6, [.ref a_row, .ref a_partners, .int c_askedCount, .int c_outcome, .ref a_share, .ref a_leftOver])), (a_row, .inl (E.2.1, 81, .inl (upd f_3 10 (0 : Int32))))] := hD
  replace hF := nm_s hF
  obtain ⟨f_4, hf_4, hF⟩ := hF
  rw [← hf_4] at hP hD
  refine lv_iconst (v := 0) hx hb dX5_startCounts_31 (by decide) ?_
  refine lv_istore_n (lv' := [(2, .int (0 : Int32)), (0, .ref a_), (1, .int p1)]) hx hb dX5_startCounts_32 rfl hl (by decide) rfl (fun ls hl => ?_)
  replace hF := bd1_s hF
  obtain ⟨c_row_12, hL_13, hF⟩ := hF
  refine lw_X5_startCounts_33 l E K (p1 := p1) (c_askedCount := c_askedCount) (c_outcome := c_outcome) hx hb hml hown hts hK hN hA K (0 : Int32) f_4 c_row_12 hL_13 ?_ H locs ls (hP.sub [0, 1] rfl) (hD.sub [0, 1] (by decide) rfl) hS (lv_sub hl [1, 0] rfl)
  ·
    intro H locs ls hP hD hS hl
    replace hP : va_P E.1 vwCl [(a_, .inr (6, [.ref a_row, .ref a_partners, .int c_askedCount, .int c_outcome, .ref a_share, .ref a_leftOver])), (a_row, .inl (E.2.1, 81, .inl c_row_12))] H := hP
    replace hD : va_D A [(a_, .inr (6, [.ref a_row, .ref a_partners, .int c_askedCount, .int c_outcome, .ref a_share, .ref a_leftOver])), (a_row, .inl (E.2.1, 81, .inl c_row_12))] := hD
    rw [hQ]
    have h9 := fin9 (P := fun u9 : (Nat → Int32) => va_P E.1 vwCl (w_X5_startCounts E a_ a_row a_partners a_share a_leftOver c_askedCount c_outcome u9) H ∧ va_D A (w_X5_startCounts E a_ a_row a_partners a_share a_leftOver c_askedCount c_outcome u9)) hF ⟨hP, hD⟩
    obtain ⟨hP9, hD9⟩ := h9
    exact W.vret hx hb hr (fun tt ht hW => ⟨⟨(), rfl, trivial, ht ▸ hP9, hD9⟩, hS.F ht⟩) hS.2.2 dX5_startCounts_63
end
-- 20.st05
section
def dl_X5_doAct_20_st05_0 : List (Nat × Instr × Nat) := [(0, .iconst 0, 1), (1, .istore 5, 2), (3, .iload_n 1, 1), (4, .tableswitch 133 0 6 #[44, 57, 66, 82, 98, 109, 117], 44), (48, .aload_n 0, 1), (49, .iload_n 2, 1), (50, .iload_n 3, 1), (51, .iload 4, 2), (53, .invokevirtual 137, 3), (56, .istore 5, 2), (58, .goto 79, 3), (137, .aload_n 0, 1), (138, .getfield 11, 3), (141, .bipush 11, 2), (143, .dup2, 1), (144, .iaload, 1), (145, .iload 5, 2), (147, .iadd, 1), (148, .iastore, 1), (149, .iload 5, 2), (151, .ireturn, 1), (61, .aload_n 0, 1), (62, .invokevirtual 140, 3), (65, .istore 5, 2), (67, .goto 70, 3), (70, .aload_n 0, 1), (71, .getfield 11, 3), (74, .iconst 1, 1), (75, .iload_n 2, 1), (76, .iastore, 1), (77, .aload_n 0, 1), (78, .invokevirtual 140, 3), (81, .istore 5, 2), (83, .goto 54, 3), (86, .aload_n 0, 1), (87, .getfield 11, 3), (90, .iconst 0, 1), (91, .iload_n 2, 1), (92, .iastore, 1), (93, .aload_n 0, 1), (94, .invokevirtual 140, 3), (97, .istore 5, 2), (99, .goto 38, 3), (102, .aload_n 0, 1), (103, .iload_n 2, 1), (104, .iload_n 3, 1), (105, .invokevirtual 143, 3), (108, .istore 5, 2), (110, .goto 27, 3), (113, .aload_n 0, 1)]
set_option maxRecDepth 100000 in
theorem dall_X5_doAct_20_st05_0 : dchk cX5_doAct dl_X5_doAct_20_st05_0 = true := by decide +kernel
theorem dX5_doAct_0 : decode cX5_doAct 0 = .ok (.iconst 0, 1) := dchk_at dall_X5_doAct_20_st05_0 (k := 0) rfl
theorem dX5_doAct_1 : decode cX5_doAct 1 = .ok (.istore 5, 2) := dchk_at dall_X5_doAct_20_st05_0 (k := 1) rfl
theorem dX5_doAct_3 : decode cX5_doAct 3 = .ok (.iload_n 1, 1) := dchk_at dall_X5_doAct_20_st05_0 (k := 2) rfl
theorem dX5_doAct_4 : decode cX5_doAct 4 = .ok (.tableswitch 133 0 6 #[44, 57, 66, 82, 98, 109, 117], 44) := dchk_at dall_X5_doAct_20_st05_0 (k := 3) rfl
theorem dX5_doAct_48 : decode cX5_doAct 48 = .ok (.aload_n 0, 1) := dchk_at dall_X5_doAct_20_st05_0 (k := 4) rfl
theorem dX5_doAct_49 : decode cX5_doAct 49 = .ok (.iload_n 2, 1) := dchk_at dall_X5_doAct_20_st05_0 (k := 5) rfl
theorem dX5_doAct_50 : decode cX5_doAct 50 = .ok (.iload_n 3, 1) := dchk_at dall_X5_doAct_20_st05_0 (k := 6) rfl
theorem dX5_doAct_51 : decode cX5_doAct 51 = .ok (.iload 4, 2) := dchk_at dall_X5_doAct_20_st05_0 (k := 7) rfl
theorem dX5_doAct_53 : decode cX5_doAct 53 = .ok (.invokevirtual 137, 3) := dchk_at dall_X5_doAct_20_st05_0 (k := 8) rfl
theorem dX5_doAct_56 : decode cX5_doAct 56 = .ok (.istore 5, 2) := dchk_at dall_X5_doAct_20_st05_0 (k := 9) rfl
theorem dX5_doAct_58 : decode cX5_doAct 58 = .ok (.goto 79, 3) := dchk_at dall_X5_doAct_20_st05_0 (k := 10) rfl
theorem dX5_doAct_137 : decode cX5_doAct 137 = .ok (.aload_n 0, 1) := dchk_at dall_X5_doAct_20_st05_0 (k := 11) rfl
theorem dX5_doAct_138 : decode cX5_doAct 138 = .ok (.getfield 11, 3) := dchk_at dall_X5_doAct_20_st05_0 (k := 12) rfl
theorem dX5_doAct_141 : decode cX5_doAct 141 = .ok (.bipush 11, 2) := dchk_at dall_X5_doAct_20_st05_0 (k := 13) rfl
theorem dX5_doAct_143 : decode cX5_doAct 143 = .ok (.dup2, 1) := dchk_at dall_X5_doAct_20_st05_0 (k := 14) rfl
theorem dX5_doAct_144 : decode cX5_doAct 144 = .ok (.iaload, 1) := dchk_at dall_X5_doAct_20_st05_0 (k := 15) rfl
theorem dX5_doAct_145 : decode cX5_doAct 145 = .ok (.iload 5, 2) := dchk_at dall_X5_doAct_20_st05_0 (k := 16) rfl
theorem dX5_doAct_147 : decode cX5_doAct 147 = .ok (.iadd, 1) := dchk_at dall_X5_doAct_20_st05_0 (k := 17) rfl
theorem dX5_doAct_148 : decode cX5_doAct 148 = .ok (.iastore, 1) := dchk_at dall_X5_doAct_20_st05_0 (k := 18) rfl
theorem dX5_doAct_149 : decode cX5_doAct 149 = .ok (.iload 5, 2) := dchk_at dall_X5_doAct_20_st05_0 (k := 19) rfl
theorem dX5_doAct_151 : decode cX5_doAct 151 = .ok (.ireturn, 1) := dchk_at dall_X5_doAct_20_st05_0 (k := 20) rfl
theorem dX5_doAct_61 : decode cX5_doAct 61 = .ok (.aload_n 0, 1) := dchk_at dall_X5_doAct_20_st05_0 (k := 21) rfl
theorem dX5_doAct_62 : decode cX5_doAct 62 = .ok (.invokevirtual 140, 3) := dchk_at dall_X5_doAct_20_st05_0 (k := 22) rfl
theorem dX5_doAct_65 : decode cX5_doAct 65 = .ok (.istore 5, 2) := dchk_at dall_X5_doAct_20_st05_0 (k := 23) rfl
theorem dX5_doAct_67 : decode cX5_doAct 67 = .ok (.goto 70, 3) := dchk_at dall_X5_doAct_20_st05_0 (k := 24) rfl
theorem dX5_doAct_70 : decode cX5_doAct 70 = .ok (.aload_n 0, 1) := dchk_at dall_X5_doAct_20_st05_0 (k := 25) rfl
theorem dX5_doAct_71 : decode cX5_doAct 71 = .ok (.getfield 11, 3) := dchk_at dall_X5_doAct_20_st05_0 (k := 26) rfl
theorem dX5_doAct_74 : decode cX5_doAct 74 = .ok (.iconst 1, 1) := dchk_at dall_X5_doAct_20_st05_0 (k := 27) rfl
theorem dX5_doAct_75 : decode cX5_doAct 75 = .ok (.iload_n 2, 1) := dchk_at dall_X5_doAct_20_st05_0 (k := 28) rfl
theorem dX5_doAct_76 : decode cX5_doAct 76 = .ok (.iastore, 1) := dchk_at dall_X5_doAct_20_st05_0 (k := 29) rfl
theorem dX5_doAct_77 : decode cX5_doAct 77 = .ok (.aload_n 0, 1) := dchk_at dall_X5_doAct_20_st05_0 (k := 30) rfl
theorem dX5_doAct_78 : decode cX5_doAct 78 = .ok (.invokevirtual 140, 3) := dchk_at dall_X5_doAct_20_st05_0 (k := 31) rfl
theorem dX5_doAct_81 : decode cX5_doAct 81 = .ok (.istore 5, 2) := dchk_at dall_X5_doAct_20_st05_0 (k := 32) rfl
theorem dX5_doAct_83 : decode cX5_doAct 83 = .ok (.goto 54, 3) := dchk_at dall_X5_doAct_20_st05_0 (k := 33) rfl
theorem dX5_doAct_86 : decode cX5_doAct 86 = .ok (.aload_n 0, 1) := dchk_at dall_X5_doAct_20_st05_0 (k := 34) rfl
theorem dX5_doAct_87 : decode cX5_doAct 87 = .ok (.getfield 11, 3) := dchk_at dall_X5_doAct_20_st05_0 (k := 35) rfl
theorem dX5_doAct_90 : decode cX5_doAct 90 = .ok (.iconst 0, 1) := dchk_at dall_X5_doAct_20_st05_0 (k := 36) rfl
theorem dX5_doAct_91 : decode cX5_doAct 91 = .ok (.iload_n 2, 1) := dchk_at dall_X5_doAct_20_st05_0 (k := 37) rfl
theorem dX5_doAct_92 : decode cX5_doAct 92 = .ok (.iastore, 1) := dchk_at dall_X5_doAct_20_st05_0 (k := 38) rfl
theorem dX5_doAct_93 : decode cX5_doAct 93 = .ok (.aload_n 0, 1) := dchk_at dall_X5_doAct_20_st05_0 (k := 39) rfl
theorem dX5_doAct_94 : decode cX5_doAct 94 = .ok (.invokevirtual 140, 3) := dchk_at dall_X5_doAct_20_st05_0 (k := 40) rfl
theorem dX5_doAct_97 : decode cX5_doAct 97 = .ok (.istore 5, 2) := dchk_at dall_X5_doAct_20_st05_0 (k := 41) rfl
theorem dX5_doAct_99 : decode cX5_doAct 99 = .ok (.goto 38, 3) := dchk_at dall_X5_doAct_20_st05_0 (k := 42) rfl
theorem dX5_doAct_102 : decode cX5_doAct 102 = .ok (.aload_n 0, 1) := dchk_at dall_X5_doAct_20_st05_0 (k := 43) rfl
theorem dX5_doAct_103 : decode cX5_doAct 103 = .ok (.iload_n 2, 1) := dchk_at dall_X5_doAct_20_st05_0 (k := 44) rfl
theorem dX5_doAct_104 : decode cX5_doAct 104 = .ok (.iload_n 3, 1) := dchk_at dall_X5_doAct_20_st05_0 (k := 45) rfl
theorem dX5_doAct_105 : decode cX5_doAct 105 = .ok (.invokevirtual 143, 3) := dchk_at dall_X5_doAct_20_st05_0 (k := 46) rfl
theorem dX5_doAct_108 : decode cX5_doAct 108 = .ok (.istore 5, 2) := dchk_at dall_X5_doAct_20_st05_0 (k := 47) rfl
theorem dX5_doAct_110 : decode cX5_doAct 110 = .ok (.goto 27, 3) := dchk_at dall_X5_doAct_20_st05_0 (k := 48) rfl
theorem dX5_doAct_113 : decode cX5_doAct 113 = .ok (.aload_n 0, 1) := dchk_at dall_X5_doAct_20_st05_0 (k := 49) rfl
def dl_X5_doAct_20_st05_1 : List (Nat × Instr × Nat) := [(114, .iload_n 2, 1), (115, .invokevirtual 146, 3), (118, .goto 19, 3), (121, .aload_n 0, 1), (122, .getfield 11, 3), (125, .bipush 7, 2), (127, .dup2, 1), (128, .iaload, 1), (129, .iconst 1, 1), (130, .iload_n 2, 1), (131, .ishl, 1), (132, .ixor, 1), (133, .iastore, 1), (134, .goto 3, 3)]
set_option maxRecDepth 100000 in
theorem dall_X5_doAct_20_st05_1 : dchk cX5_doAct dl_X5_doAct_20_st05_1 = true := by decide +kernel
theorem dX5_doAct_114 : decode cX5_doAct 114 = .ok (.iload_n 2, 1) := dchk_at dall_X5_doAct_20_st05_1 (k := 0) rfl
theorem dX5_doAct_115 : decode cX5_doAct 115 = .ok (.invokevirtual 146, 3) := dchk_at dall_X5_doAct_20_st05_1 (k := 1) rfl
theorem dX5_doAct_118 : decode cX5_doAct 118 = .ok (.goto 19, 3) := dchk_at dall_X5_doAct_20_st05_1 (k := 2) rfl
theorem dX5_doAct_121 : decode cX5_doAct 121 = .ok (.aload_n 0, 1) := dchk_at dall_X5_doAct_20_st05_1 (k := 3) rfl
theorem dX5_doAct_122 : decode cX5_doAct 122 = .ok (.getfield 11, 3) := dchk_at dall_X5_doAct_20_st05_1 (k := 4) rfl
theorem dX5_doAct_125 : decode cX5_doAct 125 = .ok (.bipush 7, 2) := dchk_at dall_X5_doAct_20_st05_1 (k := 5) rfl
theorem dX5_doAct_127 : decode cX5_doAct 127 = .ok (.dup2, 1) := dchk_at dall_X5_doAct_20_st05_1 (k := 6) rfl
theorem dX5_doAct_128 : decode cX5_doAct 128 = .ok (.iaload, 1) := dchk_at dall_X5_doAct_20_st05_1 (k := 7) rfl
theorem dX5_doAct_129 : decode cX5_doAct 129 = .ok (.iconst 1, 1) := dchk_at dall_X5_doAct_20_st05_1 (k := 8) rfl
theorem dX5_doAct_130 : decode cX5_doAct 130 = .ok (.iload_n 2, 1) := dchk_at dall_X5_doAct_20_st05_1 (k := 9) rfl
theorem dX5_doAct_131 : decode cX5_doAct 131 = .ok (.ishl, 1) := dchk_at dall_X5_doAct_20_st05_1 (k := 10) rfl
theorem dX5_doAct_132 : decode cX5_doAct 132 = .ok (.ixor, 1) := dchk_at dall_X5_doAct_20_st05_1 (k := 11) rfl
theorem dX5_doAct_133 : decode cX5_doAct 133 = .ok (.iastore, 1) := dchk_at dall_X5_doAct_20_st05_1 (k := 12) rfl
theorem dX5_doAct_134 : decode cX5_doAct 134 = .ok (.goto 3, 3) := dchk_at dall_X5_doAct_20_st05_1 (k := 13) rfl
def dl_X5_freezeRefusal_20_st05_0 : List (Nat × Instr × Nat) := [(0, .aload_n 0, 1), (1, .iload_n 1, 1), (2, .invokevirtual 79, 3), (5, .ifCond .ne 5, 3), (10, .iconst 1, 1), (11, .aload_n 0, 1), (12, .getfield 11, 3), (15, .iconst 3, 1), (16, .iaload, 1), (17, .ishl, 1), (18, .iconst 1, 1), (19, .isub, 1), (20, .istore_n 2, 1), (21, .aload_n 0, 1), (22, .getfield 11, 3), (25, .bipush 7, 2), (27, .iaload, 1), (28, .iconst 1, 1), (29, .iload_n 1, 1), (30, .ishl, 1), (31, .ior, 1), (32, .iload_n 2, 1), (33, .if_icmp .ne 15, 3), (48, .iconst (-1), 1), (49, .ireturn, 1), (36, .aload_n 0, 1), (37, .iload_n 1, 1), (38, .invokevirtual 131, 3), (41, .ifCond .ne 7, 3), (44, .iconst 2, 1), (45, .goto 4, 3), (8, .iconst 0, 1), (9, .ireturn, 1)]
set_option maxRecDepth 100000 in
theorem dall_X5_freezeRefusal_20_st05_0 : dchk cX5_freezeRefusal dl_X5_freezeRefusal_20_st05_0 = true := by decide +kernel
theorem dX5_freezeRefusal_0 : decode cX5_freezeRefusal 0 = .ok (.aload_n 0, 1) := dchk_at dall_X5_freezeRefusal_20_st05_0 (k := 0) rfl
theorem dX5_freezeRefusal_1 : decode cX5_freezeRefusal 1 = .ok (.iload_n 1, 1) := dchk_at dall_X5_freezeRefusal_20_st05_0 (k := 1) rfl
theorem dX5_freezeRefusal_2 : decode cX5_freezeRefusal 2 = .ok (.invokevirtual 79, 3) := dchk_at dall_X5_freezeRefusal_20_st05_0 (k := 2) rfl
theorem dX5_freezeRefusal_5 : decode cX5_freezeRefusal 5 = .ok (.ifCond .ne 5, 3) := dchk_at dall_X5_freezeRefusal_20_st05_0 (k := 3) rfl
theorem dX5_freezeRefusal_10 : decode cX5_freezeRefusal 10 = .ok (.iconst 1, 1) := dchk_at dall_X5_freezeRefusal_20_st05_0 (k := 4) rfl
theorem dX5_freezeRefusal_11 : decode cX5_freezeRefusal 11 = .ok (.aload_n 0, 1) := dchk_at dall_X5_freezeRefusal_20_st05_0 (k := 5) rfl
theorem dX5_freezeRefusal_12 : decode cX5_freezeRefusal 12 = .ok (.getfield 11, 3) := dchk_at dall_X5_freezeRefusal_20_st05_0 (k := 6) rfl
theorem dX5_freezeRefusal_15 : decode cX5_freezeRefusal 15 = .ok (.iconst 3, 1) := dchk_at dall_X5_freezeRefusal_20_st05_0 (k := 7) rfl
theorem dX5_freezeRefusal_16 : decode cX5_freezeRefusal 16 = .ok (.iaload, 1) := dchk_at dall_X5_freezeRefusal_20_st05_0 (k := 8) rfl
theorem dX5_freezeRefusal_17 : decode cX5_freezeRefusal 17 = .ok (.ishl, 1) := dchk_at dall_X5_freezeRefusal_20_st05_0 (k := 9) rfl
theorem dX5_freezeRefusal_18 : decode cX5_freezeRefusal 18 = .ok (.iconst 1, 1) := dchk_at dall_X5_freezeRefusal_20_st05_0 (k := 10) rfl
theorem dX5_freezeRefusal_19 : decode cX5_freezeRefusal 19 = .ok (.isub, 1) := dchk_at dall_X5_freezeRefusal_20_st05_0 (k := 11) rfl
theorem dX5_freezeRefusal_20 : decode cX5_freezeRefusal 20 = .ok (.istore_n 2, 1) := dchk_at dall_X5_freezeRefusal_20_st05_0 (k := 12) rfl
theorem dX5_freezeRefusal_21 : decode cX5_freezeRefusal 21 = .ok (.aload_n 0, 1) := dchk_at dall_X5_freezeRefusal_20_st05_0 (k := 13) rfl
theorem dX5_freezeRefusal_22 : decode cX5_freezeRefusal 22 = .ok (.getfield 11, 3) := dchk_at dall_X5_freezeRefusal_20_st05_0 (k := 14) rfl
theorem dX5_freezeRefusal_25 : decode cX5_freezeRefusal 25 = .ok (.bipush 7, 2) := dchk_at dall_X5_freezeRefusal_20_st05_0 (k := 15) rfl
theorem dX5_freezeRefusal_27 : decode cX5_freezeRefusal 27 = .ok (.iaload, 1) := dchk_at dall_X5_freezeRefusal_20_st05_0 (k := 16) rfl
theorem dX5_freezeRefusal_28 : decode cX5_freezeRefusal 28 = .ok (.iconst 1, 1) := dchk_at dall_X5_freezeRefusal_20_st05_0 (k := 17) rfl
theorem dX5_freezeRefusal_29 : decode cX5_freezeRefusal 29 = .ok (.iload_n 1, 1) := dchk_at dall_X5_freezeRefusal_20_st05_0 (k := 18) rfl
theorem dX5_freezeRefusal_30 : decode cX5_freezeRefusal 30 = .ok (.ishl, 1) := dchk_at dall_X5_freezeRefusal_20_st05_0 (k := 19) rfl
theorem dX5_freezeRefusal_31 : decode cX5_freezeRefusal 31 = .ok (.ior, 1) := dchk_at dall_X5_freezeRefusal_20_st05_0 (k := 20) rfl
theorem dX5_freezeRefusal_32 : decode cX5_freezeRefusal 32 = .ok (.iload_n 2, 1) := dchk_at dall_X5_freezeRefusal_20_st05_0 (k := 21) rfl
theorem dX5_freezeRefusal_33 : decode cX5_freezeRefusal 33 = .ok (.if_icmp .ne 15, 3) := dchk_at dall_X5_freezeRefusal_20_st05_0 (k := 22) rfl
theorem dX5_freezeRefusal_48 : decode cX5_freezeRefusal 48 = .ok (.iconst (-1), 1) := dchk_at dall_X5_freezeRefusal_20_st05_0 (k := 23) rfl
theorem dX5_freezeRefusal_49 : decode cX5_freezeRefusal 49 = .ok (.ireturn, 1) := dchk_at dall_X5_freezeRefusal_20_st05_0 (k := 24) rfl
theorem dX5_freezeRefusal_36 : decode cX5_freezeRefusal 36 = .ok (.aload_n 0, 1) := dchk_at dall_X5_freezeRefusal_20_st05_0 (k := 25) rfl
theorem dX5_freezeRefusal_37 : decode cX5_freezeRefusal 37 = .ok (.iload_n 1, 1) := dchk_at dall_X5_freezeRefusal_20_st05_0 (k := 26) rfl
theorem dX5_freezeRefusal_38 : decode cX5_freezeRefusal 38 = .ok (.invokevirtual 131, 3) := dchk_at dall_X5_freezeRefusal_20_st05_0 (k := 27) rfl
theorem dX5_freezeRefusal_41 : decode cX5_freezeRefusal 41 = .ok (.ifCond .ne 7, 3) := dchk_at dall_X5_freezeRefusal_20_st05_0 (k := 28) rfl
theorem dX5_freezeRefusal_44 : decode cX5_freezeRefusal 44 = .ok (.iconst 2, 1) := dchk_at dall_X5_freezeRefusal_20_st05_0 (k := 29) rfl
theorem dX5_freezeRefusal_45 : decode cX5_freezeRefusal 45 = .ok (.goto 4, 3) := dchk_at dall_X5_freezeRefusal_20_st05_0 (k := 30) rfl
theorem dX5_freezeRefusal_8 : decode cX5_freezeRefusal 8 = .ok (.iconst 0, 1) := dchk_at dall_X5_freezeRefusal_20_st05_0 (k := 31) rfl
theorem dX5_freezeRefusal_9 : decode cX5_freezeRefusal 9 = .ok (.ireturn, 1) := dchk_at dall_X5_freezeRefusal_20_st05_0 (k := 32) rfl
def dl_X5_hasRoom_20_st05_0 : List (Nat × Instr × Nat) := [(0, .aload_n 0, 1), (1, .iload_n 1, 1), (2, .iconst 0, 1), (3, .invokevirtual 69, 3), (6, .iload_n 2, 1), (7, .iadd, 1), (8, .invokestatic 94, 3), (11, .ldc 98, 2), (13, .if_icmp .gt 23, 3), (36, .iconst 0, 1), (37, .ireturn, 1), (16, .aload_n 0, 1), (17, .iload_n 1, 1), (18, .iconst 1, 1), (19, .invokevirtual 69, 3), (22, .iload_n 3, 1), (23, .iadd, 1), (24, .invokestatic 94, 3), (27, .ldc 98, 2), (29, .if_icmp .gt 7, 3), (32, .iconst 1, 1), (33, .goto 4, 3)]
set_option maxRecDepth 100000 in
theorem dall_X5_hasRoom_20_st05_0 : dchk cX5_hasRoom dl_X5_hasRoom_20_st05_0 = true := by decide +kernel
theorem dX5_hasRoom_0 : decode cX5_hasRoom 0 = .ok (.aload_n 0, 1) := dchk_at dall_X5_hasRoom_20_st05_0 (k := 0) rfl
theorem dX5_hasRoom_1 : decode cX5_hasRoom 1 = .ok (.iload_n 1, 1) := dchk_at dall_X5_hasRoom_20_st05_0 (k := 1) rfl
theorem dX5_hasRoom_2 : decode cX5_hasRoom 2 = .ok (.iconst 0, 1) := dchk_at dall_X5_hasRoom_20_st05_0 (k := 2) rfl
theorem dX5_hasRoom_3 : decode cX5_hasRoom 3 = .ok (.invokevirtual 69, 3) := dchk_at dall_X5_hasRoom_20_st05_0 (k := 3) rfl
theorem dX5_hasRoom_6 : decode cX5_hasRoom 6 = .ok (.iload_n 2, 1) := dchk_at dall_X5_hasRoom_20_st05_0 (k := 4) rfl
theorem dX5_hasRoom_7 : decode cX5_hasRoom 7 = .ok (.iadd, 1) := dchk_at dall_X5_hasRoom_20_st05_0 (k := 5) rfl
theorem dX5_hasRoom_8 : decode cX5_hasRoom 8 = .ok (.invokestatic 94, 3) := dchk_at dall_X5_hasRoom_20_st05_0 (k := 6) rfl
theorem dX5_hasRoom_11 : decode cX5_hasRoom 11 = .ok (.ldc 98, 2) := dchk_at dall_X5_hasRoom_20_st05_0 (k := 7) rfl
theorem dX5_hasRoom_13 : decode cX5_hasRoom 13 = .ok (.if_icmp .gt 23, 3) := dchk_at dall_X5_hasRoom_20_st05_0 (k := 8) rfl
theorem dX5_hasRoom_36 : decode cX5_hasRoom 36 = .ok (.iconst 0, 1) := dchk_at dall_X5_hasRoom_20_st05_0 (k := 9) rfl
theorem dX5_hasRoom_37 : decode cX5_hasRoom 37 = .ok (.ireturn, 1) := dchk_at dall_X5_hasRoom_20_st05_0 (k := 10) rfl
theorem dX5_hasRoom_16 : decode cX5_hasRoom 16 = .ok (.aload_n 0, 1) := dchk_at dall_X5_hasRoom_20_st05_0 (k := 11) rfl
theorem dX5_hasRoom_17 : decode cX5_hasRoom 17 = .ok (.iload_n 1, 1) := dchk_at dall_X5_hasRoom_20_st05_0 (k := 12) rfl
theorem dX5_hasRoom_18 : decode cX5_hasRoom 18 = .ok (.iconst 1, 1) := dchk_at dall_X5_hasRoom_20_st05_0 (k := 13) rfl
theorem dX5_hasRoom_19 : decode cX5_hasRoom 19 = .ok (.invokevirtual 69, 3) := dchk_at dall_X5_hasRoom_20_st05_0 (k := 14) rfl
theorem dX5_hasRoom_22 : decode cX5_hasRoom 22 = .ok (.iload_n 3, 1) := dchk_at dall_X5_hasRoom_20_st05_0 (k := 15) rfl
theorem dX5_hasRoom_23 : decode cX5_hasRoom 23 = .ok (.iadd, 1) := dchk_at dall_X5_hasRoom_20_st05_0 (k := 16) rfl
theorem dX5_hasRoom_24 : decode cX5_hasRoom 24 = .ok (.invokestatic 94, 3) := dchk_at dall_X5_hasRoom_20_st05_0 (k := 17) rfl
theorem dX5_hasRoom_27 : decode cX5_hasRoom 27 = .ok (.ldc 98, 2) := dchk_at dall_X5_hasRoom_20_st05_0 (k := 18) rfl
theorem dX5_hasRoom_29 : decode cX5_hasRoom 29 = .ok (.if_icmp .gt 7, 3) := dchk_at dall_X5_hasRoom_20_st05_0 (k := 19) rfl
theorem dX5_hasRoom_32 : decode cX5_hasRoom 32 = .ok (.iconst 1, 1) := dchk_at dall_X5_hasRoom_20_st05_0 (k := 20) rfl
theorem dX5_hasRoom_33 : decode cX5_hasRoom 33 = .ok (.goto 4, 3) := dchk_at dall_X5_hasRoom_20_st05_0 (k := 21) rfl
def dl_X5_isQuietWith_20_st05_0 : List (Nat × Instr × Nat) := [(0, .aload_n 0, 1), (1, .aload_n 0, 1), (2, .iload_n 1, 1), (3, .iconst 0, 1), (4, .invokevirtual 72, 3), (7, .iload_n 2, 1), (8, .iadd, 1), (9, .aload_n 0, 1), (10, .iload_n 1, 1), (11, .iconst 1, 1), (12, .invokevirtual 72, 3), (15, .iload_n 3, 1), (16, .iadd, 1), (17, .invokevirtual 87, 3), (20, .ireturn, 1)]
set_option maxRecDepth 100000 in
theorem dall_X5_isQuietWith_20_st05_0 : dchk cX5_isQuietWith dl_X5_isQuietWith_20_st05_0 = true := by decide +kernel
theorem dX5_isQuietWith_0 : decode cX5_isQuietWith 0 = .ok (.aload_n 0, 1) := dchk_at dall_X5_isQuietWith_20_st05_0 (k := 0) rfl
theorem dX5_isQuietWith_1 : decode cX5_isQuietWith 1 = .ok (.aload_n 0, 1) := dchk_at dall_X5_isQuietWith_20_st05_0 (k := 1) rfl
theorem dX5_isQuietWith_2 : decode cX5_isQuietWith 2 = .ok (.iload_n 1, 1) := dchk_at dall_X5_isQuietWith_20_st05_0 (k := 2) rfl
theorem dX5_isQuietWith_3 : decode cX5_isQuietWith 3 = .ok (.iconst 0, 1) := dchk_at dall_X5_isQuietWith_20_st05_0 (k := 3) rfl
theorem dX5_isQuietWith_4 : decode cX5_isQuietWith 4 = .ok (.invokevirtual 72, 3) := dchk_at dall_X5_isQuietWith_20_st05_0 (k := 4) rfl
theorem dX5_isQuietWith_7 : decode cX5_isQuietWith 7 = .ok (.iload_n 2, 1) := dchk_at dall_X5_isQuietWith_20_st05_0 (k := 5) rfl
theorem dX5_isQuietWith_8 : decode cX5_isQuietWith 8 = .ok (.iadd, 1) := dchk_at dall_X5_isQuietWith_20_st05_0 (k := 6) rfl
theorem dX5_isQuietWith_9 : decode cX5_isQuietWith 9 = .ok (.aload_n 0, 1) := dchk_at dall_X5_isQuietWith_20_st05_0 (k := 7) rfl
theorem dX5_isQuietWith_10 : decode cX5_isQuietWith 10 = .ok (.iload_n 1, 1) := dchk_at dall_X5_isQuietWith_20_st05_0 (k := 8) rfl
theorem dX5_isQuietWith_11 : decode cX5_isQuietWith 11 = .ok (.iconst 1, 1) := dchk_at dall_X5_isQuietWith_20_st05_0 (k := 9) rfl
theorem dX5_isQuietWith_12 : decode cX5_isQuietWith 12 = .ok (.invokevirtual 72, 3) := dchk_at dall_X5_isQuietWith_20_st05_0 (k := 10) rfl
theorem dX5_isQuietWith_15 : decode cX5_isQuietWith 15 = .ok (.iload_n 3, 1) := dchk_at dall_X5_isQuietWith_20_st05_0 (k := 11) rfl
theorem dX5_isQuietWith_16 : decode cX5_isQuietWith 16 = .ok (.iadd, 1) := dchk_at dall_X5_isQuietWith_20_st05_0 (k := 12) rfl
theorem dX5_isQuietWith_17 : decode cX5_isQuietWith 17 = .ok (.invokevirtual 87, 3) := dchk_at dall_X5_isQuietWith_20_st05_0 (k := 13) rfl
theorem dX5_isQuietWith_20 : decode cX5_isQuietWith 20 = .ok (.ireturn, 1) := dchk_at dall_X5_isQuietWith_20_st05_0 (k := 14) rfl
def dl_X7_isMovable_20_st05_0 : List (Nat × Instr × Nat) := [(0, .iload_n 0, 1), (1, .sipush (-9999), 3), (4, .if_icmp .lt 28, 3), (32, .iconst 0, 1), (33, .ireturn, 1), (7, .iload_n 0, 1), (8, .sipush 9999, 3), (11, .if_icmp .gt 21, 3), (14, .iload_n 1, 1), (15, .sipush (-9999), 3), (18, .if_icmp .lt 14, 3), (21, .iload_n 1, 1), (22, .sipush 9999, 3), (25, .if_icmp .gt 7, 3), (28, .iconst 1, 1), (29, .goto 4, 3)]
set_option maxRecDepth 100000 in
theorem dall_X7_isMovable_20_st05_0 : dchk cX7_isMovable dl_X7_isMovable_20_st05_0 = true := by decide +kernel
theorem dX7_isMovable_0 : decode cX7_isMovable 0 = .ok (.iload_n 0, 1) := dchk_at dall_X7_isMovable_20_st05_0 (k := 0) rfl
theorem dX7_isMovable_1 : decode cX7_isMovable 1 = .ok (.sipush (-9999), 3) := dchk_at dall_X7_isMovable_20_st05_0 (k := 1) rfl
theorem dX7_isMovable_4 : decode cX7_isMovable 4 = .ok (.if_icmp .lt 28, 3) := dchk_at dall_X7_isMovable_20_st05_0 (k := 2) rfl
theorem dX7_isMovable_32 : decode cX7_isMovable 32 = .ok (.iconst 0, 1) := dchk_at dall_X7_isMovable_20_st05_0 (k := 3) rfl
theorem dX7_isMovable_33 : decode cX7_isMovable 33 = .ok (.ireturn, 1) := dchk_at dall_X7_isMovable_20_st05_0 (k := 4) rfl
theorem dX7_isMovable_7 : decode cX7_isMovable 7 = .ok (.iload_n 0, 1) := dchk_at dall_X7_isMovable_20_st05_0 (k := 5) rfl
theorem dX7_isMovable_8 : decode cX7_isMovable 8 = .ok (.sipush 9999, 3) := dchk_at dall_X7_isMovable_20_st05_0 (k := 6) rfl
theorem dX7_isMovable_11 : decode cX7_isMovable 11 = .ok (.if_icmp .gt 21, 3) := dchk_at dall_X7_isMovable_20_st05_0 (k := 7) rfl
theorem dX7_isMovable_14 : decode cX7_isMovable 14 = .ok (.iload_n 1, 1) := dchk_at dall_X7_isMovable_20_st05_0 (k := 8) rfl
theorem dX7_isMovable_15 : decode cX7_isMovable 15 = .ok (.sipush (-9999), 3) := dchk_at dall_X7_isMovable_20_st05_0 (k := 9) rfl
theorem dX7_isMovable_18 : decode cX7_isMovable 18 = .ok (.if_icmp .lt 14, 3) := dchk_at dall_X7_isMovable_20_st05_0 (k := 10) rfl
theorem dX7_isMovable_21 : decode cX7_isMovable 21 = .ok (.iload_n 1, 1) := dchk_at dall_X7_isMovable_20_st05_0 (k := 11) rfl
theorem dX7_isMovable_22 : decode cX7_isMovable 22 = .ok (.sipush 9999, 3) := dchk_at dall_X7_isMovable_20_st05_0 (k := 12) rfl
theorem dX7_isMovable_25 : decode cX7_isMovable 25 = .ok (.if_icmp .gt 7, 3) := dchk_at dall_X7_isMovable_20_st05_0 (k := 13) rfl
theorem dX7_isMovable_28 : decode cX7_isMovable 28 = .ok (.iconst 1, 1) := dchk_at dall_X7_isMovable_20_st05_0 (k := 14) rfl
theorem dX7_isMovable_29 : decode cX7_isMovable 29 = .ok (.goto 4, 3) := dchk_at dall_X7_isMovable_20_st05_0 (k := 15) rfl
def dl_X5_moveRefusal_20_st05_0 : List (Nat × Instr × Nat) := [(0, .aload_n 0, 1), (1, .iload_n 1, 1), (2, .invokevirtual 79, 3), (5, .ifCond .ne 5, 3), (10, .iload_n 2, 1), (11, .iload_n 3, 1), (12, .invokestatic 124, 3), (15, .ifCond .eq 13, 3), (28, .iconst 1, 1), (29, .ireturn, 1), (18, .aload_n 0, 1), (19, .iload_n 1, 1), (20, .iload_n 2, 1), (21, .iload_n 3, 1), (22, .invokevirtual 127, 3), (25, .ifCond .ne 5, 3), (30, .iload_n 2, 1), (31, .ifCond .ne 7, 3), (38, .aload_n 0, 1), (39, .iload_n 1, 1), (40, .invokevirtual 131, 3), (43, .ifCond .eq 7, 3), (50, .iconst (-1), 1), (51, .ireturn, 1), (46, .iconst 2, 1), (47, .goto 4, 3), (34, .iload_n 3, 1), (35, .ifCond .eq 11, 3), (8, .iconst 0, 1), (9, .ireturn, 1)]
set_option maxRecDepth 100000 in
theorem dall_X5_moveRefusal_20_st05_0 : dchk cX5_moveRefusal dl_X5_moveRefusal_20_st05_0 = true := by decide +kernel
theorem dX5_moveRefusal_0 : decode cX5_moveRefusal 0 = .ok (.aload_n 0, 1) := dchk_at dall_X5_moveRefusal_20_st05_0 (k := 0) rfl
theorem dX5_moveRefusal_1 : decode cX5_moveRefusal 1 = .ok (.iload_n 1, 1) := dchk_at dall_X5_moveRefusal_20_st05_0 (k := 1) rfl
theorem dX5_moveRefusal_2 : decode cX5_moveRefusal 2 = .ok (.invokevirtual 79, 3) := dchk_at dall_X5_moveRefusal_20_st05_0 (k := 2) rfl
theorem dX5_moveRefusal_5 : decode cX5_moveRefusal 5 = .ok (.ifCond .ne 5, 3) := dchk_at dall_X5_moveRefusal_20_st05_0 (k := 3) rfl
theorem dX5_moveRefusal_10 : decode cX5_moveRefusal 10 = .ok (.iload_n 2, 1) := dchk_at dall_X5_moveRefusal_20_st05_0 (k := 4) rfl
theorem dX5_moveRefusal_11 : decode cX5_moveRefusal 11 = .ok (.iload_n 3, 1) := dchk_at dall_X5_moveRefusal_20_st05_0 (k := 5) rfl
theorem dX5_moveRefusal_12 : decode cX5_moveRefusal 12 = .ok (.invokestatic 124, 3) := dchk_at dall_X5_moveRefusal_20_st05_0 (k := 6) rfl
theorem dX5_moveRefusal_15 : decode cX5_moveRefusal 15 = .ok (.ifCond .eq 13, 3) := dchk_at dall_X5_moveRefusal_20_st05_0 (k := 7) rfl
theorem dX5_moveRefusal_28 : decode cX5_moveRefusal 28 = .ok (.iconst 1, 1) := dchk_at dall_X5_moveRefusal_20_st05_0 (k := 8) rfl
theorem dX5_moveRefusal_29 : decode cX5_moveRefusal 29 = .ok (.ireturn, 1) := dchk_at dall_X5_moveRefusal_20_st05_0 (k := 9) rfl
theorem dX5_moveRefusal_18 : decode cX5_moveRefusal 18 = .ok (.aload_n 0, 1) := dchk_at dall_X5_moveRefusal_20_st05_0 (k := 10) rfl
theorem dX5_moveRefusal_19 : decode cX5_moveRefusal 19 = .ok (.iload_n 1, 1) := dchk_at dall_X5_moveRefusal_20_st05_0 (k := 11) rfl
theorem dX5_moveRefusal_20 : decode cX5_moveRefusal 20 = .ok (.iload_n 2, 1) := dchk_at dall_X5_moveRefusal_20_st05_0 (k := 12) rfl
theorem dX5_moveRefusal_21 : decode cX5_moveRefusal 21 = .ok (.iload_n 3, 1) := dchk_at dall_X5_moveRefusal_20_st05_0 (k := 13) rfl
theorem dX5_moveRefusal_22 : decode cX5_moveRefusal 22 = .ok (.invokevirtual 127, 3) := dchk_at dall_X5_moveRefusal_20_st05_0 (k := 14) rfl
theorem dX5_moveRefusal_25 : decode cX5_moveRefusal 25 = .ok (.ifCond .ne 5, 3) := dchk_at dall_X5_moveRefusal_20_st05_0 (k := 15) rfl
theorem dX5_moveRefusal_30 : decode cX5_moveRefusal 30 = .ok (.iload_n 2, 1) := dchk_at dall_X5_moveRefusal_20_st05_0 (k := 16) rfl
theorem dX5_moveRefusal_31 : decode cX5_moveRefusal 31 = .ok (.ifCond .ne 7, 3) := dchk_at dall_X5_moveRefusal_20_st05_0 (k := 17) rfl
theorem dX5_moveRefusal_38 : decode cX5_moveRefusal 38 = .ok (.aload_n 0, 1) := dchk_at dall_X5_moveRefusal_20_st05_0 (k := 18) rfl
theorem dX5_moveRefusal_39 : decode cX5_moveRefusal 39 = .ok (.iload_n 1, 1) := dchk_at dall_X5_moveRefusal_20_st05_0 (k := 19) rfl
theorem dX5_moveRefusal_40 : decode cX5_moveRefusal 40 = .ok (.invokevirtual 131, 3) := dchk_at dall_X5_moveRefusal_20_st05_0 (k := 20) rfl
theorem dX5_moveRefusal_43 : decode cX5_moveRefusal 43 = .ok (.ifCond .eq 7, 3) := dchk_at dall_X5_moveRefusal_20_st05_0 (k := 21) rfl
theorem dX5_moveRefusal_50 : decode cX5_moveRefusal 50 = .ok (.iconst (-1), 1) := dchk_at dall_X5_moveRefusal_20_st05_0 (k := 22) rfl
theorem dX5_moveRefusal_51 : decode cX5_moveRefusal 51 = .ok (.ireturn, 1) := dchk_at dall_X5_moveRefusal_20_st05_0 (k := 23) rfl
theorem dX5_moveRefusal_46 : decode cX5_moveRefusal 46 = .ok (.iconst 2, 1) := dchk_at dall_X5_moveRefusal_20_st05_0 (k := 24) rfl
theorem dX5_moveRefusal_47 : decode cX5_moveRefusal 47 = .ok (.goto 4, 3) := dchk_at dall_X5_moveRefusal_20_st05_0 (k := 25) rfl
theorem dX5_moveRefusal_34 : decode cX5_moveRefusal 34 = .ok (.iload_n 3, 1) := dchk_at dall_X5_moveRefusal_20_st05_0 (k := 26) rfl
theorem dX5_moveRefusal_35 : decode cX5_moveRefusal 35 = .ok (.ifCond .eq 11, 3) := dchk_at dall_X5_moveRefusal_20_st05_0 (k := 27) rfl
theorem dX5_moveRefusal_8 : decode cX5_moveRefusal 8 = .ok (.iconst 0, 1) := dchk_at dall_X5_moveRefusal_20_st05_0 (k := 28) rfl
theorem dX5_moveRefusal_9 : decode cX5_moveRefusal 9 = .ok (.ireturn, 1) := dchk_at dall_X5_moveRefusal_20_st05_0 (k := 29) rfl
def dl_X5_point_20_st05_0 : List (Nat × Instr × Nat) := [(19, .aload_n 0, 1), (20, .getfield 11, 3), (23, .iconst 3, 1), (24, .iaload, 1), (25, .aload_n 0, 1), (26, .iload_n 1, 1), (27, .iload_n 2, 1), (28, .invokevirtual 72, 3), (31, .imul, 1), (32, .iadd, 1), (33, .ireturn, 1), (0, .iload_n 2, 1), (1, .ifCond .ne 12, 3), (13, .aload_n 0, 1), (14, .getfield 11, 3), (17, .iconst 5, 1), (18, .iaload, 1), (4, .aload_n 0, 1), (5, .getfield 11, 3), (8, .iconst 4, 1), (9, .iaload, 1), (10, .goto 9, 3)]
set_option maxRecDepth 100000 in
theorem dall_X5_point_20_st05_0 : dchk cX5_point dl_X5_point_20_st05_0 = true := by decide +kernel
theorem dX5_point_19 : decode cX5_point 19 = .ok (.aload_n 0, 1) := dchk_at dall_X5_point_20_st05_0 (k := 0) rfl
theorem dX5_point_20 : decode cX5_point 20 = .ok (.getfield 11, 3) := dchk_at dall_X5_point_20_st05_0 (k := 1) rfl
theorem dX5_point_23 : decode cX5_point 23 = .ok (.iconst 3, 1) := dchk_at dall_X5_point_20_st05_0 (k := 2) rfl
theorem dX5_point_24 : decode cX5_point 24 = .ok (.iaload, 1) := dchk_at dall_X5_point_20_st05_0 (k := 3) rfl
theorem dX5_point_25 : decode cX5_point 25 = .ok (.aload_n 0, 1) := dchk_at dall_X5_point_20_st05_0 (k := 4) rfl
theorem dX5_point_26 : decode cX5_point 26 = .ok (.iload_n 1, 1) := dchk_at dall_X5_point_20_st05_0 (k := 5) rfl
theorem dX5_point_27 : decode cX5_point 27 = .ok (.iload_n 2, 1) := dchk_at dall_X5_point_20_st05_0 (k := 6) rfl
theorem dX5_point_28 : decode cX5_point 28 = .ok (.invokevirtual 72, 3) := dchk_at dall_X5_point_20_st05_0 (k := 7) rfl
theorem dX5_point_31 : decode cX5_point 31 = .ok (.imul, 1) := dchk_at dall_X5_point_20_st05_0 (k := 8) rfl
theorem dX5_point_32 : decode cX5_point 32 = .ok (.iadd, 1) := dchk_at dall_X5_point_20_st05_0 (k := 9) rfl
theorem dX5_point_33 : decode cX5_point 33 = .ok (.ireturn, 1) := dchk_at dall_X5_point_20_st05_0 (k := 10) rfl
theorem dX5_point_0 : decode cX5_point 0 = .ok (.iload_n 2, 1) := dchk_at dall_X5_point_20_st05_0 (k := 11) rfl
theorem dX5_point_1 : decode cX5_point 1 = .ok (.ifCond .ne 12, 3) := dchk_at dall_X5_point_20_st05_0 (k := 12) rfl
theorem dX5_point_13 : decode cX5_point 13 = .ok (.aload_n 0, 1) := dchk_at dall_X5_point_20_st05_0 (k := 13) rfl
theorem dX5_point_14 : decode cX5_point 14 = .ok (.getfield 11, 3) := dchk_at dall_X5_point_20_st05_0 (k := 14) rfl
theorem dX5_point_17 : decode cX5_point 17 = .ok (.iconst 5, 1) := dchk_at dall_X5_point_20_st05_0 (k := 15) rfl
theorem dX5_point_18 : decode cX5_point 18 = .ok (.iaload, 1) := dchk_at dall_X5_point_20_st05_0 (k := 16) rfl
theorem dX5_point_4 : decode cX5_point 4 = .ok (.aload_n 0, 1) := dchk_at dall_X5_point_20_st05_0 (k := 17) rfl
theorem dX5_point_5 : decode cX5_point 5 = .ok (.getfield 11, 3) := dchk_at dall_X5_point_20_st05_0 (k := 18) rfl
theorem dX5_point_8 : decode cX5_point 8 = .ok (.iconst 4, 1) := dchk_at dall_X5_point_20_st05_0 (k := 19) rfl
theorem dX5_point_9 : decode cX5_point 9 = .ok (.iaload, 1) := dchk_at dall_X5_point_20_st05_0 (k := 20) rfl
theorem dX5_point_10 : decode cX5_point 10 = .ok (.goto 9, 3) := dchk_at dall_X5_point_20_st05_0 (k := 21) rfl
def dl_X5_pointValue_20_st05_0 : List (Nat × Instr × Nat) := [(0, .aload_n 0, 1), (1, .aload_n 0, 1), (2, .iload_n 1, 1), (3, .iconst 0, 1), (4, .invokevirtual 91, 3), (7, .aload_n 0, 1), (8, .getfield 11, 3), (11, .iconst 3, 1), (12, .iaload, 1), (13, .iload_n 2, 1), (14, .imul, 1), (15, .iadd, 1), (16, .i2l, 1), (17, .aload_n 0, 1), (18, .iload_n 1, 1), (19, .iconst 1, 1), (20, .invokevirtual 91, 3), (23, .aload_n 0, 1), (24, .getfield 11, 3), (27, .iconst 3, 1), (28, .iaload, 1), (29, .iload_n 3, 1), (30, .imul, 1), (31, .iadd, 1), (32, .i2l, 1), (33, .invokevirtual 75, 3), (36, .lreturn, 1)]
set_option maxRecDepth 100000 in
theorem dall_X5_pointValue_20_st05_0 : dchk cX5_pointValue dl_X5_pointValue_20_st05_0 = true := by decide +kernel
theorem dX5_pointValue_0 : decode cX5_pointValue 0 = .ok (.aload_n 0, 1) := dchk_at dall_X5_pointValue_20_st05_0 (k := 0) rfl
theorem dX5_pointValue_1 : decode cX5_pointValue 1 = .ok (.aload_n 0, 1) := dchk_at dall_X5_pointValue_20_st05_0 (k := 1) rfl
theorem dX5_pointValue_2 : decode cX5_pointValue 2 = .ok (.iload_n 1, 1) := dchk_at dall_X5_pointValue_20_st05_0 (k := 2) rfl
theorem dX5_pointValue_3 : decode cX5_pointValue 3 = .ok (.iconst 0, 1) := dchk_at dall_X5_pointValue_20_st05_0 (k := 3) rfl
theorem dX5_pointValue_4 : decode cX5_pointValue 4 = .ok (.invokevirtual 91, 3) := dchk_at dall_X5_pointValue_20_st05_0 (k := 4) rfl
theorem dX5_pointValue_7 : decode cX5_pointValue 7 = .ok (.aload_n 0, 1) := dchk_at dall_X5_pointValue_20_st05_0 (k := 5) rfl
theorem dX5_pointValue_8 : decode cX5_pointValue 8 = .ok (.getfield 11, 3) := dchk_at dall_X5_pointValue_20_st05_0 (k := 6) rfl
theorem dX5_pointValue_11 : decode cX5_pointValue 11 = .ok (.iconst 3, 1) := dchk_at dall_X5_pointValue_20_st05_0 (k := 7) rfl
theorem dX5_pointValue_12 : decode cX5_pointValue 12 = .ok (.iaload, 1) := dchk_at dall_X5_pointValue_20_st05_0 (k := 8) rfl
theorem dX5_pointValue_13 : decode cX5_pointValue 13 = .ok (.iload_n 2, 1) := dchk_at dall_X5_pointValue_20_st05_0 (k := 9) rfl
theorem dX5_pointValue_14 : decode cX5_pointValue 14 = .ok (.imul, 1) := dchk_at dall_X5_pointValue_20_st05_0 (k := 10) rfl
theorem dX5_pointValue_15 : decode cX5_pointValue 15 = .ok (.iadd, 1) := dchk_at dall_X5_pointValue_20_st05_0 (k := 11) rfl
theorem dX5_pointValue_16 : decode cX5_pointValue 16 = .ok (.i2l, 1) := dchk_at dall_X5_pointValue_20_st05_0 (k := 12) rfl
theorem dX5_pointValue_17 : decode cX5_pointValue 17 = .ok (.aload_n 0, 1) := dchk_at dall_X5_pointValue_20_st05_0 (k := 13) rfl
theorem dX5_pointValue_18 : decode cX5_pointValue 18 = .ok (.iload_n 1, 1) := dchk_at dall_X5_pointValue_20_st05_0 (k := 14) rfl
theorem dX5_pointValue_19 : decode cX5_pointValue 19 = .ok (.iconst 1, 1) := dchk_at dall_X5_pointValue_20_st05_0 (k := 15) rfl
theorem dX5_pointValue_20 : decode cX5_pointValue 20 = .ok (.invokevirtual 91, 3) := dchk_at dall_X5_pointValue_20_st05_0 (k := 16) rfl
theorem dX5_pointValue_23 : decode cX5_pointValue 23 = .ok (.aload_n 0, 1) := dchk_at dall_X5_pointValue_20_st05_0 (k := 17) rfl
theorem dX5_pointValue_24 : decode cX5_pointValue 24 = .ok (.getfield 11, 3) := dchk_at dall_X5_pointValue_20_st05_0 (k := 18) rfl
theorem dX5_pointValue_27 : decode cX5_pointValue 27 = .ok (.iconst 3, 1) := dchk_at dall_X5_pointValue_20_st05_0 (k := 19) rfl
theorem dX5_pointValue_28 : decode cX5_pointValue 28 = .ok (.iaload, 1) := dchk_at dall_X5_pointValue_20_st05_0 (k := 20) rfl
theorem dX5_pointValue_29 : decode cX5_pointValue 29 = .ok (.iload_n 3, 1) := dchk_at dall_X5_pointValue_20_st05_0 (k := 21) rfl
theorem dX5_pointValue_30 : decode cX5_pointValue 30 = .ok (.imul, 1) := dchk_at dall_X5_pointValue_20_st05_0 (k := 22) rfl
theorem dX5_pointValue_31 : decode cX5_pointValue 31 = .ok (.iadd, 1) := dchk_at dall_X5_pointValue_20_st05_0 (k := 23) rfl
theorem dX5_pointValue_32 : decode cX5_pointValue 32 = .ok (.i2l, 1) := dchk_at dall_X5_pointValue_20_st05_0 (k := 24) rfl
theorem dX5_pointValue_33 : decode cX5_pointValue 33 = .ok (.invokevirtual 75, 3) := dchk_at dall_X5_pointValue_20_st05_0 (k := 25) rfl
theorem dX5_pointValue_36 : decode cX5_pointValue 36 = .ok (.lreturn, 1) := dchk_at dall_X5_pointValue_20_st05_0 (k := 26) rfl
def dl_X5_quietSites_20_st05_0 : List (Nat × Instr × Nat) := [(4, .iload_n 2, 1), (5, .aload_n 0, 1), (6, .invokevirtual 45, 3), (9, .if_icmp .ge 27, 3), (12, .iload_n 1, 1), (13, .aload_n 0, 1), (14, .iload_n 2, 1), (15, .invokevirtual 99, 3), (18, .ifCond .eq 9, 3), (27, .iconst 0, 1), (28, .ior, 1), (29, .istore_n 1, 1), (30, .iinc 2 1, 3), (33, .goto (-29), 3), (21, .iconst 1, 1), (22, .iload_n 2, 1), (23, .ishl, 1), (24, .goto 4, 3), (0, .iconst 0, 1), (1, .istore_n 1, 1), (2, .iconst 0, 1), (3, .istore_n 2, 1), (36, .iload_n 1, 1), (37, .ireturn, 1)]
set_option maxRecDepth 100000 in
theorem dall_X5_quietSites_20_st05_0 : dchk cX5_quietSites dl_X5_quietSites_20_st05_0 = true := by decide +kernel
theorem dX5_quietSites_4 : decode cX5_quietSites 4 = .ok (.iload_n 2, 1) := dchk_at dall_X5_quietSites_20_st05_0 (k := 0) rfl
theorem dX5_quietSites_5 : decode cX5_quietSites 5 = .ok (.aload_n 0, 1) := dchk_at dall_X5_quietSites_20_st05_0 (k := 1) rfl
theorem dX5_quietSites_6 : decode cX5_quietSites 6 = .ok (.invokevirtual 45, 3) := dchk_at dall_X5_quietSites_20_st05_0 (k := 2) rfl
theorem dX5_quietSites_9 : decode cX5_quietSites 9 = .ok (.if_icmp .ge 27, 3) := dchk_at dall_X5_quietSites_20_st05_0 (k := 3) rfl
theorem dX5_quietSites_12 : decode cX5_quietSites 12 = .ok (.iload_n 1, 1) := dchk_at dall_X5_quietSites_20_st05_0 (k := 4) rfl
theorem dX5_quietSites_13 : decode cX5_quietSites 13 = .ok (.aload_n 0, 1) := dchk_at dall_X5_quietSites_20_st05_0 (k := 5) rfl
theorem dX5_quietSites_14 : decode cX5_quietSites 14 = .ok (.iload_n 2, 1) := dchk_at dall_X5_quietSites_20_st05_0 (k := 6) rfl
theorem dX5_quietSites_15 : decode cX5_quietSites 15 = .ok (.invokevirtual 99, 3) := dchk_at dall_X5_quietSites_20_st05_0 (k := 7) rfl
theorem dX5_quietSites_18 : decode cX5_quietSites 18 = .ok (.ifCond .eq 9, 3) := dchk_at dall_X5_quietSites_20_st05_0 (k := 8) rfl
theorem dX5_quietSites_27 : decode cX5_quietSites 27 = .ok (.iconst 0, 1) := dchk_at dall_X5_quietSites_20_st05_0 (k := 9) rfl
theorem dX5_quietSites_28 : decode cX5_quietSites 28 = .ok (.ior, 1) := dchk_at dall_X5_quietSites_20_st05_0 (k := 10) rfl
theorem dX5_quietSites_29 : decode cX5_quietSites 29 = .ok (.istore_n 1, 1) := dchk_at dall_X5_quietSites_20_st05_0 (k := 11) rfl
theorem dX5_quietSites_30 : decode cX5_quietSites 30 = .ok (.iinc 2 1, 3) := dchk_at dall_X5_quietSites_20_st05_0 (k := 12) rfl
theorem dX5_quietSites_33 : decode cX5_quietSites 33 = .ok (.goto (-29), 3) := dchk_at dall_X5_quietSites_20_st05_0 (k := 13) rfl
theorem dX5_quietSites_21 : decode cX5_quietSites 21 = .ok (.iconst 1, 1) := dchk_at dall_X5_quietSites_20_st05_0 (k := 14) rfl
theorem dX5_quietSites_22 : decode cX5_quietSites 22 = .ok (.iload_n 2, 1) := dchk_at dall_X5_quietSites_20_st05_0 (k := 15) rfl
theorem dX5_quietSites_23 : decode cX5_quietSites 23 = .ok (.ishl, 1) := dchk_at dall_X5_quietSites_20_st05_0 (k := 16) rfl
theorem dX5_quietSites_24 : decode cX5_quietSites 24 = .ok (.goto 4, 3) := dchk_at dall_X5_quietSites_20_st05_0 (k := 17) rfl
theorem dX5_quietSites_0 : decode cX5_quietSites 0 = .ok (.iconst 0, 1) := dchk_at dall_X5_quietSites_20_st05_0 (k := 18) rfl
theorem dX5_quietSites_1 : decode cX5_quietSites 1 = .ok (.istore_n 1, 1) := dchk_at dall_X5_quietSites_20_st05_0 (k := 19) rfl
theorem dX5_quietSites_2 : decode cX5_quietSites 2 = .ok (.iconst 0, 1) := dchk_at dall_X5_quietSites_20_st05_0 (k := 20) rfl
theorem dX5_quietSites_3 : decode cX5_quietSites 3 = .ok (.istore_n 2, 1) := dchk_at dall_X5_quietSites_20_st05_0 (k := 21) rfl
theorem dX5_quietSites_36 : decode cX5_quietSites 36 = .ok (.iload_n 1, 1) := dchk_at dall_X5_quietSites_20_st05_0 (k := 22) rfl
theorem dX5_quietSites_37 : decode cX5_quietSites 37 = .ok (.ireturn, 1) := dchk_at dall_X5_quietSites_20_st05_0 (k := 23) rfl
def dl_X5_stands_20_st05_0 : List (Nat × Instr × Nat) := [(0, .aload_n 0, 1), (1, .getfield 11, 3), (4, .iconst 3, 1), (5, .iaload, 1), (6, .ifCond .le 7, 3), (13, .iconst 0, 1), (14, .ireturn, 1), (9, .iconst 1, 1), (10, .goto 4, 3)]
set_option maxRecDepth 100000 in
theorem dall_X5_stands_20_st05_0 : dchk cX5_stands dl_X5_stands_20_st05_0 = true := by decide +kernel
theorem dX5_stands_0 : decode cX5_stands 0 = .ok (.aload_n 0, 1) := dchk_at dall_X5_stands_20_st05_0 (k := 0) rfl
theorem dX5_stands_1 : decode cX5_stands 1 = .ok (.getfield 11, 3) := dchk_at dall_X5_stands_20_st05_0 (k := 1) rfl
theorem dX5_stands_4 : decode cX5_stands 4 = .ok (.iconst 3, 1) := dchk_at dall_X5_stands_20_st05_0 (k := 2) rfl
theorem dX5_stands_5 : decode cX5_stands 5 = .ok (.iaload, 1) := dchk_at dall_X5_stands_20_st05_0 (k := 3) rfl
theorem dX5_stands_6 : decode cX5_stands 6 = .ok (.ifCond .le 7, 3) := dchk_at dall_X5_stands_20_st05_0 (k := 4) rfl
theorem dX5_stands_13 : decode cX5_stands 13 = .ok (.iconst 0, 1) := dchk_at dall_X5_stands_20_st05_0 (k := 5) rfl
theorem dX5_stands_14 : decode cX5_stands 14 = .ok (.ireturn, 1) := dchk_at dall_X5_stands_20_st05_0 (k := 6) rfl
theorem dX5_stands_9 : decode cX5_stands 9 = .ok (.iconst 1, 1) := dchk_at dall_X5_stands_20_st05_0 (k := 7) rfl
theorem dX5_stands_10 : decode cX5_stands 10 = .ok (.goto 4, 3) := dchk_at dall_X5_stands_20_st05_0 (k := 8) rfl
def dl_X5_setRefusal_20_st05_0 : List (Nat × Instr × Nat) := [(0, .iload_n 0, 1), (1, .iload_n 1, 1), (2, .if_icmp .lt 8, 3), (10, .iconst 1, 1), (11, .ireturn, 1), (5, .iload_n 0, 1), (6, .iload_n 2, 1), (7, .if_icmp .le 5, 3), (12, .iload_n 0, 1), (13, .iload_n 3, 1), (14, .if_icmp .ne 7, 3), (21, .iconst (-1), 1), (22, .ireturn, 1), (17, .iconst 2, 1), (18, .goto 4, 3)]
set_option maxRecDepth 100000 in
theorem dall_X5_setRefusal_20_st05_0 : dchk cX5_setRefusal dl_X5_setRefusal_20_st05_0 = true := by decide +kernel
theorem dX5_setRefusal_0 : decode cX5_setRefusal 0 = .ok (.iload_n 0, 1) := dchk_at dall_X5_setRefusal_20_st05_0 (k := 0) rfl
theorem dX5_setRefusal_1 : decode cX5_setRefusal 1 = .ok (.iload_n 1, 1) := dchk_at dall_X5_setRefusal_20_st05_0 (k := 1) rfl
theorem dX5_setRefusal_2 : decode cX5_setRefusal 2 = .ok (.if_icmp .lt 8, 3) := dchk_at dall_X5_setRefusal_20_st05_0 (k := 2) rfl
theorem dX5_setRefusal_10 : decode cX5_setRefusal 10 = .ok (.iconst 1, 1) := dchk_at dall_X5_setRefusal_20_st05_0 (k := 3) rfl
theorem dX5_setRefusal_11 : decode cX5_setRefusal 11 = .ok (.ireturn, 1) := dchk_at dall_X5_setRefusal_20_st05_0 (k := 4) rfl
theorem dX5_setRefusal_5 : decode cX5_setRefusal 5 = .ok (.iload_n 0, 1) := dchk_at dall_X5_setRefusal_20_st05_0 (k := 5) rfl
theorem dX5_setRefusal_6 : decode cX5_setRefusal 6 = .ok (.iload_n 2, 1) := dchk_at dall_X5_setRefusal_20_st05_0 (k := 6) rfl
theorem dX5_setRefusal_7 : decode cX5_setRefusal 7 = .ok (.if_icmp .le 5, 3) := dchk_at dall_X5_setRefusal_20_st05_0 (k := 7) rfl
theorem dX5_setRefusal_12 : decode cX5_setRefusal 12 = .ok (.iload_n 0, 1) := dchk_at dall_X5_setRefusal_20_st05_0 (k := 8) rfl
theorem dX5_setRefusal_13 : decode cX5_setRefusal 13 = .ok (.iload_n 3, 1) := dchk_at dall_X5_setRefusal_20_st05_0 (k := 9) rfl
theorem dX5_setRefusal_14 : decode cX5_setRefusal 14 = .ok (.if_icmp .ne 7, 3) := dchk_at dall_X5_setRefusal_20_st05_0 (k := 10) rfl
theorem dX5_setRefusal_21 : decode cX5_setRefusal 21 = .ok (.iconst (-1), 1) := dchk_at dall_X5_setRefusal_20_st05_0 (k := 11) rfl
theorem dX5_setRefusal_22 : decode cX5_setRefusal 22 = .ok (.ireturn, 1) := dchk_at dall_X5_setRefusal_20_st05_0 (k := 12) rfl
theorem dX5_setRefusal_17 : decode cX5_setRefusal 17 = .ok (.iconst 2, 1) := dchk_at dall_X5_setRefusal_20_st05_0 (k := 13) rfl
theorem dX5_setRefusal_18 : decode cX5_setRefusal 18 = .ok (.goto 4, 3) := dchk_at dall_X5_setRefusal_20_st05_0 (k := 14) rfl
def F_X5_doAct (K : Nat) (p1 : Int32) (p2 : Int32) (p3 : Int32) (p4 : Int32) (c_row : Nat → Int32) (c_partners : Nat → Int32) (c_askedCount : Int32) (c_outcome : Int32) (c_share : Nat → Int32) (c_leftOver : Nat → Int32) : Option (Int32 × (Nat → Int32) × (Nat → Int32) × Int32 × Int32 × (Nat → Int32) × (Nat → Int32)) :=
  if p1 = (0 : Int32) then bd7 (F_X5_moveSite K p2 p3 p4 c_row c_partners c_askedCount c_outcome c_share c_leftOver) (fun r_2 w_3 w_4 w_5 w_6 w_7 w_8 => nmF (upd w_3 11 ((w_3 11) + r_2)) (fun f_10 => some (r_2, f_10, w_4, w_5, w_6, w_7, w_8))) else if p1 = (1 : Int32) then bd2 (F_X5_hearByHand K c_row) (fun r_11 w_12 => nmF (upd w_12 11 ((w_12 11) + r_11)) (fun f_14 => some (r_11, f_14, c_partners, c_askedCount, c_outcome, c_share, c_leftOver))) else if p1 = (2 : Int32) then nmF (upd c_row 1 p2) (fun f_15 => bd2 (F_X5_hearByHand K f_15) (fun r_16 w_17 => nmF (upd w_17 11 ((w_17 11) + r_16)) (fun f_19 => some (r_16, f_19, c_partners, c_askedCount, c_outcome, c_share, c_leftOver)))) else if p1 = (3 : Int32) then nmF (upd c_row 0 p2) (fun f_20 => bd2 (F_X5_hearByHand K f_20) (fun r_21 w_22 => nmF (upd w_22 11 ((w_22 11) + r_21)) (fun f_24 => some (r_21, f_24, c_partners, c_askedCount, c_outcome, c_share, c_leftOver)))) else if p1 = (4 : Int32) then bd2 (F_X5_addTo K p2 p3 c_row) (fun r_25 w_26 => nmF (upd w_26 11 ((w_26 11) + r_25)) (fun f_28 => some (r_25, f_28, c_partners, c_askedCount, c_outcome, c_share, c_leftOver))) else if p1 = (5 : Int32) then bd1 (F_X5_startCounts K p2 c_row) (fun w_29 => nmF (upd w_29 11 ((w_29 11) + (0 : Int32))) (fun f_31 => some ((0 : Int32), f_31, c_partners, c_askedCount, c_outcome, c_share, c_leftOver))) else if p1 = (6 : Int32) then nmF (upd c_row 7 ((c_row 7) ^^^ ((1 : Int32) <<< (p2 &&& (31 : Int32))))) (fun f_32 => nmF (upd f_32 11 ((f_32 11) + (0 : Int32))) (fun f_33 => some ((0 : Int32), f_33, c_partners, c_askedCount, c_outcome, c_share, c_leftOver))) else nmF (upd c_row 11 ((c_row 11) + (0 : Int32))) (fun f_34 => some ((0 : Int32), f_34, c_partners, c_askedCount, c_outcome, c_share, c_leftOver))
abbrev w_X5_doAct (E : EE) (a_ a_row a_partners a_share a_leftOver : Nat) (c_askedCount : Int32) (c_outcome : Int32) (c_row : Nat → Int32) (c_partners : Nat → Int32) (c_share : Nat → Int32) (c_leftOver : Nat → Int32) : va_W := [(a_, .inr (6, [.ref a_row, .ref a_partners, .int c_askedCount, .int c_outcome, .ref a_share, .ref a_leftOver])), (a_row, .inl (E.2.1, 81, .inl c_row)), (a_partners, .inl (E.2.1, 8, .inl c_partners)), (a_share, .inl (E.2.1, 2, .inl c_share)), (a_leftOver, .inl (E.2.1, 2, .inl c_leftOver))]
def v_f_X5_doAct : List Cond := .code yX5_doAct cX5_doAct 6 (some .int) :: ([.fieldLink RX5 11 "HushWatch$State" "row" "[I", .methodLink RX5 137 yX5_moveSite, .instanceMethod yX5_moveSite, .selects RX5 yX5_moveSite yX5_moveSite, .initialized RX5, .methodLink RX5 140 yX5_hearByHand, .instanceMethod yX5_hearByHand, .selects RX5 yX5_hearByHand yX5_hearByHand, .methodLink RX5 143 yX5_addTo, .instanceMethod yX5_addTo, .selects RX5 yX5_addTo yX5_addTo, .methodLink RX5 146 yX5_startCounts, .instanceMethod yX5_startCounts, .selects RX5 yX5_startCounts yX5_startCounts] ++ (v_f_X5_moveSite ++ (wsX50 ++ (v_f_X5_hearByHand ++ (v_f_X5_addTo ++ (v_f_X5_startCounts ++ ([])))))))
theorem gw_f_X5_doAct : v_f_X5_doAct.all goodWord = true := by decide +kernel
theorem i_f_X5_doAct_X5 : ∀ w ∈ wsX50, w ∈ v_f_X5_doAct := fun _ h => List.mem_cons_of_mem _ (List.mem_append_right _ (List.mem_append_right _ (List.mem_append_left _ h)))
theorem g_f_X5_doAct_f_X5_moveSite_137 : GoodIn v_f_X5_doAct (wsV RX5 137 RX5 yX5_moveSite v_f_X5_moveSite) := goodIn_app (goodIn_of _ (by decide +kernel)) (goodIn_sub (fun _ h => List.mem_cons_of_mem _ (List.mem_append_right _ (List.mem_append_left _ h))) gw_f_X5_moveSite)
theorem g_f_X5_doAct_f_X5_hearByHand_140 : GoodIn v_f_X5_doAct (wsV RX5 140 RX5 yX5_hearByHand v_f_X5_hearByHand) := goodIn_app (goodIn_of _ (by decide +kernel)) (goodIn_sub (fun _ h => List.mem_cons_of_mem _ (List.mem_append_right _ (List.mem_append_right _ (List.mem_append_right _ (List.mem_append_left _ h))))) gw_f_X5_hearByHand)
theorem g_f_X5_doAct_f_X5_addTo_143 : GoodIn v_f_X5_doAct (wsV RX5 143 RX5 yX5_addTo v_f_X5_addTo) := goodIn_app (goodIn_of _ (by decide +kernel)) (goodIn_sub (fun _ h => List.mem_cons_of_mem _ (List.mem_append_right _ (List.mem_append_right _ (List.mem_append_right _ (List.mem_append_right _ (List.mem_append_left _ h)))))) gw_f_X5_addTo)
theorem g_f_X5_doAct_f_X5_startCounts_146 : GoodIn v_f_X5_doAct (wsV RX5 146 RX5 yX5_startCounts v_f_X5_startCounts) := goodIn_app (goodIn_of _ (by decide +kernel)) (goodIn_sub (fun _ h => List.mem_cons_of_mem _ (List.mem_append_right _ (List.mem_append_right _ (List.mem_append_right _ (List.mem_append_right _ (List.mem_append_right _ (List.mem_append_left _ h))))))) gw_f_X5_startCounts)
theorem hd_X5_doAct : yX5_doAct.cls = RX5 ∧ yX5_doAct.cls ≠ "java/lang/invoke/MethodHandle" ∧ yX5_doAct.cls ≠ "java/lang/invoke/VarHandle" ∧ (parseMethodDescriptor yX5_doAct.desc).map (fun d => d.parameters.length) = some 4 := by decide +kernel
set_option maxHeartbeats 4000000 in
set_option maxRecDepth 100000 in
theorem f_X5_doAct (l : Launch) (E : EE) (sz : Nat) (K : Nat) {a_ a_row a_partners a_share a_leftOver : Nat} {p1 : Int32} {p2 : Int32} {p3 : Int32} {p4 : Int32} {c_askedCount : Int32} {c_outcome : Int32} {c_row : Nat → Int32} {c_partners : Nat → Int32} {c_share : Nat → Int32} {c_leftOver : Nat → Int32} {rr : Int32} {n_row : Nat → Int32} {n_partners : Nat → Int32} {n_askedCount : Int32} {n_outcome : Int32} {n_share : Nat → Int32} {n_leftOver : Nat → Int32} (hF : F_X5_doAct K p1 p2 p3 p4 c_row c_partners c_askedCount c_outcome c_share c_leftOver = some (rr, n_row, n_partners, n_askedCount, n_outcome, n_share, n_leftOver)) : Met l yX5_doAct v_f_X5_doAct (({ frames := 4, cells := 0, slots := 0, locals := 99 } : Room)) (va_Pc [.ref a_, .int p1, .int p2, .int p3, .int p4] (pW E sz (w_X5_doAct E a_ a_row a_partners a_share a_leftOver c_askedCount c_outcome c_row c_partners c_share c_leftOver))) (va_Qi (fun (q : Int32) (_u : Unit) => q = rr) (fun (_u : Unit) tt => va_P E.1 vwCl (w_X5_doAct E a_ a_row a_partners a_share a_leftOver n_askedCount n_outcome n_row n_partners n_share n_leftOver) tt.heap ∧ va_D (va_A (w_X5_doAct E a_ a_row a_partners a_share a_leftOver c_askedCount c_outcome c_row c_partners c_share c_leftOver) sz) (w_X5_doAct E a_ a_row a_partners a_share a_leftOver n_askedCount n_outcome n_row n_partners n_share n_leftOver)) (va_A (w_X5_doAct E a_ a_row a_partners a_share a_leftOver c_askedCount c_outcome c_row c_partners c_share c_leftOver) sz)) 0 0 (va_A (w_X5_doAct E a_ a_row a_partners a_share a_leftOver c_askedCount c_outcome c_row c_partners c_share c_leftOver) sz) := by
  refine Met.ofW (cc := cX5_doAct) (maxL := 6) (ret := (some .int)) (by decide) rfl ?_
  intro p e s m args below meth c s₁ B hml hv
  obtain ⟨rfl, hsz, ⟨hK, hN⟩, hP, hD0⟩ := hv
  have hx := B.exec
  have hb := B.bytes
  have hr := B.returns
  have hts := atoms_spec (ws := v_f_X5_doAct) B.pre
  have hown : s.vm.findClass RX5 = some m.cls := own_of hd_X5_doAct.1 (findClass_of_methodNamed B.named)
  have hlocks : meth.locks = false := B.notSynchronized
  subst hsz
  have hD := hD0.self (sz := s.heap.size)
  generalize hAe : va_A (w_X5_doAct E a_ a_row a_partners a_share a_leftOver c_askedCount c_outcome c_row c_partners c_share c_leftOver) s.heap.size = A at hD ⊢
  have hA : ∀ q : Nat, s.heap.size ≤ q → A q := fun q h => by rw [← hAe]; exact Or.inr h
  have hS : va_S A s.heap s.heap [] := va_S.rf
  have hl := lv_entry ([.ref a_, .int p1, .int p2, .int p3, .int p4]) (n := 6) (Nat.le_of_ble_eq_true rfl)
  rw [lg_entry_eq]
  generalize (lg_sl ([.ref a_, .int p1, .int p2, .int p3, .int p4]) ++ List.replicate (6 - (lg_sl ([.ref a_, .int p1, .int p2, .int p3, .int p4])).length) Slot.unset).toArray = ls at hl ⊢
  have hl : lv_has ls 6 [(0, .ref a_), (1, .int p1), (2, .int p2), (3, .int p3), (4, .int p4)] := hl
  obtain ⟨Q, hQ⟩ : ∃ Q : State → Prop, Q = MQ below (va_Qi (fun (q : Int32) (_u : Unit) => q = rr) (fun (_u : Unit) tt => va_P E.1 vwCl (w_X5_doAct E a_ a_row a_partners a_share a_leftOver n_askedCount n_outcome n_row n_partners n_share n_leftOver) tt.heap ∧ va_D A (w_X5_doAct E a_ a_row a_partners a_share a_leftOver n_askedCount n_outcome n_row n_partners n_share n_leftOver)) A) #[Value.ref a_, Value.int p1, Value.int p2, Value.int p3, Value.int p4] s 0 0 A := ⟨_, rfl⟩
  rw [← hQ]
  change W p l e ({ frames := 4, cells := 0, slots := 0, locals := 99 } : Room) s m #[Value.ref a_, Value.int p1, Value.int p2, Value.int p3, Value.int p4] below meth c s.heap [] 0 0 Q (F0 m 0 ls [])
  suffices hh9 : ∀ (H : Heap) (locs : List Loc), va_P E.1 vwCl (w_X5_doAct E a_ a_row a_partners a_share a_leftOver c_askedCount c_outcome c_row c_partners c_share c_leftOver) H → va_D A (w_X5_doAct E a_ a_row a_partners a_share a_leftOver c_askedCount c_outcome c_row c_partners c_share c_leftOver) → va_S A s.heap H locs → W p l e ({ frames := 4, cells := 0, slots := 0, locals := 99 } : Room) s m #[Value.ref a_, Value.int p1, Value.int p2, Value.int p3, Value.int p4] below meth c H locs 0 0 Q (F0 m 0 ls []) from hh9 s.heap [] hP hD hS
  clear hP hD hS
  intro H locs hP hD hS
  replace hP : va_P E.1 vwCl [(a_, .inr (6, [.ref a_row, .ref a_partners, .int c_askedCount, .int c_outcome, .ref a_share, .ref a_leftOver])), (a_row, .inl (E.2.1, 81, .inl c_row)), (a_partners, .inl (E.2.1, 8, .inl c_partners)), (a_share, .inl (E.2.1, 2, .inl c_share)), (a_leftOver, .inl (E.2.1, 2, .inl c_leftOver))] H := hP
  replace hD : va_D A [(a_, .inr (6, [.ref a_row, .ref a_partners, .int c_askedCount, .int c_outcome, .ref a_share, .ref a_leftOver])), (a_row, .inl (E.2.1, 81, .inl c_row)), (a_partners, .inl (E.2.1, 8, .inl c_partners)), (a_share, .inl (E.2.1, 2, .inl c_share)), (a_leftOver, .inl (E.2.1, 2, .inl c_leftOver))] := hD
  unfold F_X5_doAct at hF
  refine lv_iconst (v := 0) hx hb dX5_doAct_0 (by decide) ?_
  refine lv_istore (lv' := [(5, .int (0 : Int32)), (0, .ref a_), (1, .int p1), (2, .int p2), (3, .int p3), (4, .int p4)]) hx hb dX5_doAct_1 hl (by decide) rfl (fun ls hl => ?_)
  refine lv_iload_n hx hb dX5_doAct_3 rfl (lv_at hl 2 rfl) ?_
  rcases Classical.em (p1 = (0 : Int32)) with c_1_0 | c_1_0
  ·
    replace hF := ip c_1_0 hF
    refine lv_tableIn (off := 44) (tgt := 48) hx hb dX5_doAct_4 (by rw [c_1_0]; decide) (by rw [c_1_0]; decide) (by rw [c_1_0]; decide) (by decide) ?_
    refine lv_aload_n hx hb dX5_doAct_48 rfl (lv_at hl 1 rfl) ?_
    refine lv_iload_n hx hb dX5_doAct_49 rfl (lv_at hl 3 rfl) ?_
    refine lv_iload_n hx hb dX5_doAct_50 rfl (lv_at hl 4 rfl) ?_
    refine lv_iload hx hb dX5_doAct_51 (lv_at hl 5 rfl) ?_
    replace hF := bd7_s hF
    obtain ⟨r_2, w_3, w_4, w_5, w_6, w_7, w_8, hc_9, hF⟩ := hF
    obtain ⟨hPc, hDc, hFc⟩ := wcut (wc := (w_X5_moveSite E a_ a_row a_partners a_share a_leftOver c_askedCount c_outcome c_row c_partners c_share c_leftOver)) hP hD hS hA [0, 1, 2, 3, 4] (by decide) rfl
    have hrc := va_recv hK hPc (ci := 6) (q0 := 0) rfl rfl
    refine cE_i (wc := (w_X5_moveSite E a_ a_row a_partners a_share a_leftOver c_askedCount c_outcome c_row c_partners c_share c_leftOver)) (wr := []) (w1 := (w_X5_moveSite E a_ a_row a_partners a_share a_leftOver w_5 w_6 w_3 w_4 w_7 w_8)) (va_runV (As := [.int p2, .int p3, .int p4]) (rest := [])  ⟨hx, hb, hml, hown, hts⟩ (f_X5_moveSite l E H.size K (a_ := a_) (a_row := a_row) (a_partners := a_partners) (a_share := a_share) (a_leftOver := a_leftOver) (p1 := p2) (p2 := p3) (p3 := p4) (c_askedCount := c_askedCount) (c_outcome := c_outcome) (c_row := c_row) (c_partners := c_partners) (c_share := c_share) (c_leftOver := c_leftOver) hc_9) (cwV 3 hts g_f_X5_doAct_f_X5_moveSite_137 rfl rfl rfl hd_X5_moveSite ⟨Nat.le_of_ble_eq_true rfl, Nat.le_of_ble_eq_true rfl⟩) ⟨pW.blind, hrc, (pW.pre ⟨hK, hN⟩ hPc hDc)⟩ rfl rfl hl.1 rfl (lv_room (Nat.le_of_ble_eq_true rfl)) dX5_doAct_53 ⟨Nat.le_of_ble_eq_true rfl, Nat.le_of_ble_eq_true rfl⟩) hS hFc hP hD [0, 1, 2, 3, 4] [] rfl rfl (by decide) (by decide) (fun H locs hP hD hS => ?_)
    replace hP : va_P E.1 vwCl [(a_, .inr (6, [.ref a_row, .ref a_partners, .int w_5, .int w_6, .ref a_share, .ref a_leftOver])), (a_row, .inl (E.2.1, 81, .inl w_3)), (a_partners, .inl (E.2.1, 8, .inl w_4)), (a_share, .inl (E.2.1, 2, .inl w_7)), (a_leftOver, .inl (E.2.1, 2, .inl w_8))] H := hP
    replace hD : va_D A [(a_, .inr (6, [.ref a_row, .ref a_partners, .int w_5, .int w_6, .ref a_share, .ref a_leftOver])), (a_row, .inl (E.2.1, 81, .inl w_3)), (a_partners, .inl (E.2.1, 8, .inl w_4)), (a_share, .inl (E.2.1, 2, .inl w_7)), (a_leftOver, .inl (E.2.1, 2, .inl w_8))] := hD
    refine lv_istore (lv' := [(5, .int r_2), (0, .ref a_), (1, .int p1), (2, .int p2), (3, .int p3), (4, .int p4)]) hx hb dX5_doAct_56 hl (by decide) rfl (fun ls hl => ?_)
    refine lv_goto (tgt := 137) hx hb dX5_doAct_58 (by decide) ?_
    refine lv_aload_n hx hb dX5_doAct_137 rfl (lv_at hl 1 rfl) ?_
    refine gt_X5_0 (v := .ref a_row) hx hb hts i_f_X5_doAct_X5 hown hK hP 0 rfl (hts (.fieldLink RX5 11 "HushWatch$State" "row" "[I") (List.mem_of_getElem? (i := 1) rfl)) rfl dX5_doAct_138 ?_
    refine lv_bipush (v := 11) hx hb dX5_doAct_141 (by decide) ?_
    refine lv_dup2_11 hx hb dX5_doAct_143 rfl rfl ?_
    refine va_iald hx hb hK hP 1 0 rfl rfl (vin rfl) dX5_doAct_144 ?_
    refine W.eq (g2 := F0 m 145 ls [.int (w_3 11), .int (11 : Int32), .ref a_row]) rfl ?_
    refine lv_iload hx hb dX5_doAct_145 (lv_at hl 0 rfl) ?_
    refine lv_iadd hx hb dX5_doAct_147 ?_
    refine va_iast hx hb hK hP hD hS 1 0 rfl rfl (vin rfl) dX5_doAct_148 (fun H locs hP hD hS => ?_)
    replace hP : va_P E.1 vwCl [(a_, .inr (6, [.ref a_row, .ref a_partners, .int w_5, .int w_6, .ref a_share, .ref a_leftOver])), (a_row, .inl (E.2.1, 81, .inl (upd w_3 11 ((w_3 11) + r_2)))), (a_partners, .inl (E.2.1, 8, .inl w_4)), (a_share, .inl (E.2.1, 2, .inl w_7)), (a_leftOver, .inl (E.2.1, 2, .inl w_8))] H := hP
    replace hD : va_D A [(a_, .inr (6, [.ref a_row, .ref a_partners, .int w_5, .int w_6, .ref a_share, .ref a_leftOver])), (a_row, .inl (E.2.1, 81, .inl (upd w_3 11 ((w_3 11) + r_2)))), (a_partners, .inl (E.2.1, 8, .inl w_4)), (a_share, .inl (E.2.1, 2, .inl w_7)), (a_leftOver, .inl (E.2.1, 2, .inl w_8))] := hD
    replace hF := nm_s hF
    obtain ⟨f_10, hf_10, hF⟩ := hF
    rw [← hf_10] at hP hD
    refine lv_iload hx hb dX5_doAct_149 (lv_at hl 0 rfl) ?_
    rw [hQ]
    have h9 := fin9 (P := fun u9 : Int32 × (Nat → Int32) × (Nat → Int32) × Int32 × Int32 × (Nat → Int32) × (Nat → Int32) => r_2 = u9.1 ∧ va_P E.1 vwCl (w_X5_doAct E a_ a_row a_partners a_share a_leftOver u9.2.2.2.1 u9.2.2.2.2.1 u9.2.1 u9.2.2.1 u9.2.2.2.2.2.1 u9.2.2.2.2.2.2) H ∧ va_D A (w_X5_doAct E a_ a_row a_partners a_share a_leftOver u9.2.2.2.1 u9.2.2.2.2.1 u9.2.1 u9.2.2.1 u9.2.2.2.2.2.1 u9.2.2.2.2.2.2)) hF ⟨rfl, hP, hD⟩
    obtain ⟨e9_0, hP9, hD9⟩ := h9
    exact W.iret (v := r_2) hx hb hr (fun tt ht hW => ⟨⟨_, (), rfl, e9_0, ht ▸ hP9, hD9⟩, hS.F ht⟩) hS.2.2 dX5_doAct_151
  replace hF := inn c_1_0 hF
  rcases Classical.em (p1 = (1 : Int32)) with c_1_1 | c_1_1
  ·
    replace hF := ip c_1_1 hF
    refine lv_tableIn (off := 57) (tgt := 61) hx hb dX5_doAct_4 (by rw [c_1_1]; decide) (by rw [c_1_1]; decide) (by rw [c_1_1]; decide) (by decide) ?_
    refine lv_aload_n hx hb dX5_doAct_61 rfl (lv_at hl 1 rfl) ?_
    replace hF := bd2_s hF
    obtain ⟨r_11, w_12, hc_13, hF⟩ := hF
    obtain ⟨hPc, hDc, hFc⟩ := wcut (wc := (w_X5_hearByHand E a_ a_row a_partners a_share a_leftOver c_askedCount c_outcome c_row)) hP hD hS hA [0, 1] (by decide) rfl
    have hrc := va_recv hK hPc (ci := 6) (q0 := 0) rfl rfl
    refine cE_i (wc := (w_X5_hearByHand E a_ a_row a_partners a_share a_leftOver c_askedCount c_outcome c_row)) (wr := [(a_partners, .inl (E.2.1, 8, .inl c_partners)), (a_share, .inl (E.2.1, 2, .inl c_share)), (a_leftOver, .inl (E.2.1, 2, .inl c_leftOver))]) (w1 := (w_X5_hearByHand E a_ a_row a_partners a_share a_leftOver c_askedCount c_outcome w_12)) (va_runV (As := []) (rest := [])  ⟨hx, hb, hml, hown, hts⟩ (f_X5_hearByHand l E H.size K (a_ := a_) (a_row := a_row) (a_partners := a_partners) (a_share := a_share) (a_leftOver := a_leftOver) (c_askedCount := c_askedCount) (c_outcome := c_outcome) (c_row := c_row) hc_13) (cwV 0 hts g_f_X5_doAct_f_X5_hearByHand_140 rfl rfl rfl hd_X5_hearByHand ⟨Nat.le_of_ble_eq_true rfl, Nat.le_of_ble_eq_true rfl⟩) ⟨pW.blind, hrc, (pW.pre ⟨hK, hN⟩ hPc hDc)⟩ rfl rfl hl.1 rfl (lv_room (Nat.le_of_ble_eq_true rfl)) dX5_doAct_62 ⟨Nat.le_of_ble_eq_true rfl, Nat.le_of_ble_eq_true rfl⟩) hS hFc hP hD [0, 1] [2, 3, 4] rfl rfl (by decide) (by decide) (fun H locs hP hD hS => ?_)
    replace hP : va_P E.1 vwCl [(a_partners, .inl (E.2.1, 8, .inl c_partners)), (a_share, .inl (E.2.1, 2, .inl c_share)), (a_leftOver, .inl (E.2.1, 2, .inl c_leftOver)), (a_, .inr (6, [.ref a_row, .ref a_partners, .int c_askedCount, .int c_outcome, .ref a_share, .ref a_leftOver])), (a_row, .inl (E.2.1, 81, .inl w_12))] H := hP
    replace hD : va_D A [(a_partners, .inl (E.2.1, 8, .inl c_partners)), (a_share, .inl (E.2.1, 2, .inl c_share)), (a_leftOver, .inl (E.2.1, 2, .inl c_leftOver)), (a_, .inr (6, [.ref a_row, .ref a_partners, .int c_askedCount, .int c_outcome, .ref a_share, .ref a_leftOver])), (a_row, .inl (E.2.1, 81, .inl w_12))] := hD
    refine lv_istore (lv' := [(5, .int r_11), (0, .ref a_), (1, .int p1), (2, .int p2), (3, .int p3), (4, .int p4)]) hx hb dX5_doAct_65 hl (by decide) rfl (fun ls hl => ?_)
    refine lv_goto (tgt := 137) hx hb dX5_doAct_67 (by decide) ?_
    refine lv_aload_n hx hb dX5_doAct_137 rfl (lv_at hl 1 rfl) ?_
    refine gt_X5_0 (v := .ref a_row) hx hb hts i_f_X5_doAct_X5 hown hK hP 3 rfl (hts (.fieldLink RX5 11 "HushWatch$State" "row" "[I") (List.mem_of_getElem? (i := 1) rfl)) rfl dX5_doAct_138 ?_
    refine lv_bipush (v := 11) hx hb dX5_doAct_141 (by decide) ?_
    refine lv_dup2_11 hx hb dX5_doAct_143 rfl rfl ?_
    refine va_iald hx hb hK hP 4 0 rfl rfl (vin rfl) dX5_doAct_144 ?_
    refine W.eq (g2 := F0 m 145 ls [.int (w_12 11), .int (11 : Int32), .ref a_row]) rfl ?_
    refine lv_iload hx hb dX5_doAct_145 (lv_at hl 0 rfl) ?_
    refine lv_iadd hx hb dX5_doAct_147 ?_
    refine va_iast hx hb hK hP hD hS 4 0 rfl rfl (vin rfl) dX5_doAct_148 (fun H locs hP hD hS => ?_)
    replace hP : va_P E.1 vwCl [(a_partners, .inl (E.2.1, 8, .inl c_partners)), (a_share, .inl (E.2.1, 2, .inl c_share)), (a_leftOver, .inl (E.2.1, 2, .inl c_leftOver)), (a_, .inr (6, [.ref a_row, .ref a_partners, .int c_askedCount, .int c_outcome, .ref a_share, .ref a_leftOver])), (a_row, .inl (E.2.1, 81, .inl (upd w_12 11 ((w_12 11) + r_11))))] H := hP
    replace hD : va_D A [(a_partners, .inl (E.2.1, 8, .inl c_partners)), (a_share, .inl (E.2.1, 2, .inl c_share)), (a_leftOver, .inl (E.2.1, 2, .inl c_leftOver)), (a_, .inr (6, [.ref a_row, .ref a_partners, .int c_askedCount, .int c_outcome, .ref a_share, .ref a_leftOver])), (a_row, .inl (E.2.1, 81, .inl (upd w_12 11 ((w_12 11) + r_11))))] := hD
    replace hF := nm_s hF
    obtain ⟨f_14, hf_14, hF⟩ := hF
    rw [← hf_14] at hP hD
    refine lv_iload hx hb dX5_doAct_149 (lv_at hl 0 rfl) ?_
    rw [hQ]
    have h9 := fin9 (P := fun u9 : Int32 × (Nat → Int32) × (Nat → Int32) × Int32 × Int32 × (Nat → Int32) × (Nat → Int32) => r_11 = u9.1 ∧ va_P E.1 vwCl (w_X5_doAct E a_ a_row a_partners a_share a_leftOver u9.2.2.2.1 u9.2.2.2.2.1 u9.2.1 u9.2.2.1 u9.2.2.2.2.2.1 u9.2.2.2.2.2.2) H ∧ va_D A (w_X5_doAct E a_ a_row a_partners a_share a_leftOver u9.2.2.2.1 u9.2.2.2.2.1 u9.2.1 u9.2.2.1 u9.2.2.2.2.2.1 u9.2.2.2.2.2.2)) hF ⟨rfl, hP.sub [3, 4, 0, 1, 2] rfl, hD.sub [3, 4, 0, 1, 2] (by decide) rfl⟩
    obtain ⟨e9_0, hP9, hD9⟩ := h9
    exact W.iret (v := r_11) hx hb hr (fun tt ht hW => ⟨⟨_, (), rfl, e9_0, ht ▸ hP9, hD9⟩, hS.F ht⟩) hS.2.2 dX5_doAct_151
  replace hF := inn c_1_1 hF
  rcases Classical.em (p1 = (2 : Int32)) with c_1_2 | c_1_2
  ·
    replace hF := ip c_1_2 hF
    refine lv_tableIn (off := 66) (tgt := 70) hx hb dX5_doAct_4 (by rw [c_1_2]; decide) (by rw [c_1_2]; decide) (by rw [c_1_2]; decide) (by decide) ?_
    refine lv_aload_n hx hb dX5_doAct_70 rfl (lv_at hl 1 rfl) ?_
    refine gt_X5_0 (v := .ref a_row) hx hb hts i_f_X5_doAct_X5 hown hK hP 0 rfl (hts (.fieldLink RX5 11 "HushWatch$State" "row" "[I") (List.mem_of_getElem? (i := 1) rfl)) rfl dX5_doAct_71 ?_
    refine lv_iconst (v := 1) hx hb dX5_doAct_74 (by decide) ?_
    refine lv_iload_n hx hb dX5_doAct_75 rfl (lv_at hl 3 rfl) ?_
    refine va_iast hx hb hK hP hD hS 1 0 rfl rfl (vin rfl) dX5_doAct_76 (fun H locs hP hD hS => ?_)
    replace hP : va_P E.1 vwCl [(a_, .inr (6, [.ref a_row, .ref a_partners, .int c_askedCount, .int c_outcome, .ref a_share, .ref a_leftOver])), (a_row, .inl (E.2.1, 81, .inl (upd c_row 1 p2))), (a_partners, .inl (E.2.1, 8, .inl c_partners)), (a_share, .inl (E.2.1, 2, .inl c_share)), (a_leftOver, .inl (E.2.1, 2, .inl c_leftOver))] H := hP
    replace hD : va_D A [(a_, .inr (6, [.ref a_row, .ref a_partners, .int c_askedCount, .int c_outcome, .ref a_share, .ref a_leftOver])), (a_row, .inl (E.2.1, 81, .inl (upd c_row 1 p2))), (a_partners, .inl (E.2.1, 8, .inl c_partners)), (a_share, .inl (E.2.1, 2, .inl c_share)), (a_leftOver, .inl (E.2.1, 2, .inl c_leftOver))] := hD
    replace hF := nm_s hF
    obtain ⟨f_15, hf_15, hF⟩ := hF
    rw [← hf_15] at hP hD
    refine lv_aload_n hx hb dX5_doAct_77 rfl (lv_at hl 1 rfl) ?_
    replace hF := bd2_s hF
    obtain ⟨r_16, w_17, hc_18, hF⟩ := hF
    obtain ⟨hPc, hDc, hFc⟩ := wcut (wc := (w_X5_hearByHand E a_ a_row a_partners a_share a_leftOver c_askedCount c_outcome f_15)) hP hD hS hA [0, 1] (by decide) rfl
    have hrc := va_recv hK hPc (ci := 6) (q0 := 0) rfl rfl
    refine cE_i (wc := (w_X5_hearByHand E a_ a_row a_partners a_share a_leftOver c_askedCount c_outcome f_15)) (wr := [(a_partners, .inl (E.2.1, 8, .inl c_partners)), (a_share, .inl (E.2.1, 2, .inl c_share)), (a_leftOver, .inl (E.2.1, 2, .inl c_leftOver))]) (w1 := (w_X5_hearByHand E a_ a_row a_partners a_share a_leftOver c_askedCount c_outcome w_17)) (va_runV (As := []) (rest := [])  ⟨hx, hb, hml, hown, hts⟩ (f_X5_hearByHand l E H.size K (a_ := a_) (a_row := a_row) (a_partners := a_partners) (a_share := a_share) (a_leftOver := a_leftOver) (c_askedCount := c_askedCount) (c_outcome := c_outcome) (c_row := f_15) hc_18) (cwV 0 hts g_f_X5_doAct_f_X5_hearByHand_140 rfl rfl rfl hd_X5_hearByHand ⟨Nat.le_of_ble_eq_true rfl, Nat.le_of_ble_eq_true rfl⟩) ⟨pW.blind, hrc, (pW.pre ⟨hK, hN⟩ hPc hDc)⟩ rfl rfl hl.1 rfl (lv_room (Nat.le_of_ble_eq_true rfl)) dX5_doAct_78 ⟨Nat.le_of_ble_eq_true rfl, Nat.le_of_ble_eq_true rfl⟩) hS hFc hP hD [0, 1] [2, 3, 4] rfl rfl (by decide) (by decide) (fun H locs hP hD hS => ?_)
    replace hP : va_P E.1 vwCl [(a_partners, .inl (E.2.1, 8, .inl c_partners)), (a_share, .inl (E.2.1, 2, .inl c_share)), (a_leftOver, .inl (E.2.1, 2, .inl c_leftOver)), (a_, .inr (6, [.ref a_row, .ref a_partners, .int c_askedCount, .int c_outcome, .ref a_share, .ref a_leftOver])), (a_row, .inl (E.2.1, 81, .inl w_17))] H := hP
    replace hD : va_D A [(a_partners, .inl (E.2.1, 8, .inl c_partners)), (a_share, .inl (E.2.1, 2, .inl c_share)), (a_leftOver, .inl (E.2.1, 2, .inl c_leftOver)), (a_, .inr (6, [.ref a_row, .ref a_partners, .int c_askedCount, .int c_outcome, .ref a_share, .ref a_leftOver])), (a_row, .inl (E.2.1, 81, .inl w_17))] := hD
    refine lv_istore (lv' := [(5, .int r_16), (0, .ref a_), (1, .int p1), (2, .int p2), (3, .int p3), (4, .int p4)]) hx hb dX5_doAct_81 hl (by decide) rfl (fun ls hl => ?_)
    refine lv_goto (tgt := 137) hx hb dX5_doAct_83 (by decide) ?_
    refine lv_aload_n hx hb dX5_doAct_137 rfl (lv_at hl 1 rfl) ?_
    refine gt_X5_0 (v := .ref a_row) hx hb hts i_f_X5_doAct_X5 hown hK hP 3 rfl (hts (.fieldLink RX5 11 "HushWatch$State" "row" "[I") (List.mem_of_getElem? (i := 1) rfl)) rfl dX5_doAct_138 ?_
    refine lv_bipush (v := 11) hx hb dX5_doAct_141 (by decide) ?_
    refine lv_dup2_11 hx hb dX5_doAct_143 rfl rfl ?_
    refine va_iald hx hb hK hP 4 0 rfl rfl (vin rfl) dX5_doAct_144 ?_
    refine W.eq (g2 := F0 m 145 ls [.int (w_17 11), .int (11 : Int32), .ref a_row]) rfl ?_
    refine lv_iload hx hb dX5_doAct_145 (lv_at hl 0 rfl) ?_
    refine lv_iadd hx hb dX5_doAct_147 ?_
    refine va_iast hx hb hK hP hD hS 4 0 rfl rfl (vin rfl) dX5_doAct_148 (fun H locs hP hD hS => ?_)
    replace hP : va_P E.1 vwCl [(a_partners, .inl (E.2.1, 8, .inl c_partners)), (a_share, .inl (E.2.1, 2, .inl c_share)), (a_leftOver, .inl (E.2.1, 2, .inl c_leftOver)), (a_, .inr (6, [.ref a_row, .ref a_partners, .int c_askedCount, .int c_outcome, .ref a_share, .ref a_leftOver])), (a_row, .inl (E.2.1, 81, .inl (upd w_17 11 ((w_17 11) + r_16))))] H := hP
    replace hD : va_D A [(a_partners, .inl (E.2.1, 8, .inl c_partners)), (a_share, .inl (E.2.1, 2, .inl c_share)), (a_leftOver, .inl (E.2.1, 2, .inl c_leftOver)), (a_, .inr (6, [.ref a_row, .ref a_partners, .int c_askedCount, .int c_outcome, .ref a_share, .ref a_leftOver])), (a_row, .inl (E.2.1, 81, .inl (upd w_17 11 ((w_17 11) + r_16))))] := hD
    replace hF := nm_s hF
    obtain ⟨f_19, hf_19, hF⟩ := hF
    rw [← hf_19] at hP hD
    refine lv_iload hx hb dX5_doAct_149 (lv_at hl 0 rfl) ?_
    rw [hQ]
    have h9 := fin9 (P := fun u9 : Int32 × (Nat → Int32) × (Nat → Int32) × Int32 × Int32 × (Nat → Int32) × (Nat → Int32) => r_16 = u9.1 ∧ va_P E.1 vwCl (w_X5_doAct E a_ a_row a_partners a_share a_leftOver u9.2.2.2.1 u9.2.2.2.2.1 u9.2.1 u9.2.2.1 u9.2.2.2.2.2.1 u9.2.2.2.2.2.2) H ∧ va_D A (w_X5_doAct E a_ a_row a_partners a_share a_leftOver u9.2.2.2.1 u9.2.2.2.2.1 u9.2.1 u9.2.2.1 u9.2.2.2.2.2.1 u9.2.2.2.2.2.2)) hF ⟨rfl, hP.sub [3, 4, 0, 1, 2] rfl, hD.sub [3, 4, 0, 1, 2] (by decide) rfl⟩
    obtain ⟨e9_0, hP9, hD9⟩ := h9
    exact W.iret (v := r_16) hx hb hr (fun tt ht hW => ⟨⟨_, (), rfl, e9_0, ht ▸ hP9, hD9⟩, hS.F ht⟩) hS.2.2 dX5_doAct_151
  replace hF := inn c_1_2 hF
  rcases Classical.em (p1 = (3 : Int32)) with c_1_3 | c_1_3
  ·
    replace hF := ip c_1_3 hF
    refine lv_tableIn (off := 82) (tgt := 86) hx hb dX5_doAct_4 (by rw [c_1_3]; decide) (by rw [c_1_3]; decide) (by rw [c_1_3]; decide) (by decide) ?_
    refine lv_aload_n hx hb dX5_doAct_86 rfl (lv_at hl 1 rfl) ?_
    refine gt_X5_0 (v := .ref a_row) hx hb hts i_f_X5_doAct_X5 hown hK hP 0 rfl (hts (.fieldLink RX5 11 "HushWatch$State" "row" "[I") (List.mem_of_getElem? (i := 1) rfl)) rfl dX5_doAct_87 ?_
    refine lv_iconst (v := 0) hx hb dX5_doAct_90 (by decide) ?_
    refine lv_iload_n hx hb dX5_doAct_91 rfl (lv_at hl 3 rfl) ?_
    refine va_iast hx hb hK hP hD hS 1 0 rfl rfl (vin rfl) dX5_doAct_92 (fun H locs hP hD hS => ?_)
    replace hP : va_P E.1 vwCl [(a_, .inr (6, [.ref a_row, .ref a_partners, .int c_askedCount, .int c_outcome, .ref a_share, .ref a_leftOver])), (a_row, .inl (E.2.1, 81, .inl (upd c_row 0 p2))), (a_partners, .inl (E.2.1, 8, .inl c_partners)), (a_share, .inl (E.2.1, 2, .inl c_share)), (a_leftOver, .inl (E.2.1, 2, .inl c_leftOver))] H := hP
    replace hD : va_D A [(a_, .inr (6, [.ref a_row, .ref a_partners, .int c_askedCount, .int c_outcome, .ref a_share, .ref a_leftOver])), (a_row, .inl (E.2.1, 81, .inl (upd c_row 0 p2))), (a_partners, .inl (E.2.1, 8, .inl c_partners)), (a_share, .inl (E.2.1, 2, .inl c_share)), (a_leftOver, .inl (E.2.1, 2, .inl c_leftOver))] := hD
    replace hF := nm_s hF
    obtain ⟨f_20, hf_20, hF⟩ := hF
    rw [← hf_20] at hP hD
    refine lv_aload_n hx hb dX5_doAct_93 rfl (lv_at hl 1 rfl) ?_
    replace hF := bd2_s hF
    obtain ⟨r_21, w_22, hc_23, hF⟩ := hF
    obtain ⟨hPc, hDc, hFc⟩ := wcut (wc := (w_X5_hearByHand E a_ a_row a_partners a_share a_leftOver c_askedCount c_outcome f_20)) hP hD hS hA [0, 1] (by decide) rfl
    have hrc := va_recv hK hPc (ci := 6) (q0 := 0) rfl rfl
    refine cE_i (wc := (w_X5_hearByHand E a_ a_row a_partners a_share a_leftOver c_askedCount c_outcome f_20)) (wr := [(a_partners, .inl (E.2.1, 8, .inl c_partners)), (a_share, .inl (E.2.1, 2, .inl c_share)), (a_leftOver, .inl (E.2.1, 2, .inl c_leftOver))]) (w1 := (w_X5_hearByHand E a_ a_row a_partners a_share a_leftOver c_askedCount c_outcome w_22)) (va_runV (As := []) (rest := [])  ⟨hx, hb, hml, hown, hts⟩ (f_X5_hearByHand l E H.size K (a_ := a_) (a_row := a_row) (a_partners := a_partners) (a_share := a_share) (a_leftOver := a_leftOver) (c_askedCount := c_askedCount) (c_outcome := c_outcome) (c_row := f_20) hc_23) (cwV 0 hts g_f_X5_doAct_f_X5_hearByHand_140 rfl rfl rfl hd_X5_hearByHand ⟨Nat.le_of_ble_eq_true rfl, Nat.le_of_ble_eq_true rfl⟩) ⟨pW.blind, hrc, (pW.pre ⟨hK, hN⟩ hPc hDc)⟩ rfl rfl hl.1 rfl (lv_room (Nat.le_of_ble_eq_true rfl)) dX5_doAct_94 ⟨Nat.le_of_ble_eq_true rfl, Nat.le_of_ble_eq_true rfl⟩) hS hFc hP hD [0, 1] [2, 3, 4] rfl rfl (by decide) (by decide) (fun H locs hP hD hS => ?_)
    replace hP : va_P E.1 vwCl [(a_partners, .inl (E.2.1, 8, .inl c_partners)), (a_share, .inl (E.2.1, 2, .inl c_share)), (a_leftOver, .inl (E.2.1, 2, .inl c_leftOver)), (a_, .inr (6, [.ref a_row, .ref a_partners, .int c_askedCount, .int c_outcome, .ref a_share, .ref a_leftOver])), (a_row, .inl (E.2.1, 81, .inl w_22))] H := hP
    replace hD : va_D A [(a_partners, .inl (E.2.1, 8, .inl c_partners)), (a_share, .inl (E.2.1, 2, .inl c_share)), (a_leftOver, .inl (E.2.1, 2, .inl c_leftOver)), (a_, .inr (6, [.ref a_row, .ref a_partners, .int c_askedCount, .int c_outcome, .ref a_share, .ref a_leftOver])), (a_row, .inl (E.2.1, 81, .inl w_22))] := hD
    refine lv_istore (lv' := [(5, .int r_21), (0, .ref a_), (1, .int p1), (2, .int p2), (3, .int p3), (4, .int p4)]) hx hb dX5_doAct_97 hl (by decide) rfl (fun ls hl => ?_)
    refine lv_goto (tgt := 137) hx hb dX5_doAct_99 (by decide) ?_
    refine lv_aload_n hx hb dX5_doAct_137 rfl (lv_at hl 1 rfl) ?_
    refine gt_X5_0 (v := .ref a_row) hx hb hts i_f_X5_doAct_X5 hown hK hP 3 rfl (hts (.fieldLink RX5 11 "HushWatch$State" "row" "[I") (List.mem_of_getElem? (i := 1) rfl)) rfl dX5_doAct_138 ?_
    refine lv_bipush (v := 11) hx hb dX5_doAct_141 (by decide) ?_
    refine lv_dup2_11 hx hb dX5_doAct_143 rfl rfl ?_
    refine va_iald hx hb hK hP 4 0 rfl rfl (vin rfl) dX5_doAct_144 ?_
    refine W.eq (g2 := F0 m 145 ls [.int (w_22 11), .int (11 : Int32), .ref a_row]) rfl ?_
    refine lv_iload hx hb dX5_doAct_145 (lv_at hl 0 rfl) ?_
    refine lv_iadd hx hb dX5_doAct_147 ?_
    refine va_iast hx hb hK hP hD hS 4 0 rfl rfl (vin rfl) dX5_doAct_148 (fun H locs hP hD hS => ?_)
    replace hP : va_P E.1 vwCl [(a_partners, .inl (E.2.1, 8, .inl c_partners)), (a_share, .inl (E.2.1, 2, .inl c_share)), (a_leftOver, .inl (E.2.1, 2, .inl c_leftOver)), (a_, .inr (6, [.ref a_row, .ref a_partners, .int c_askedCount, .int c_outcome, .ref a_share, .ref a_leftOver])), (a_row, .inl (E.2.1, 81, .inl (upd w_22 11 ((w_22 11) + r_21))))] H := hP
    replace hD : va_D A [(a_partners, .inl (E.2.1, 8, .inl c_partners)), (a_share, .inl (E.2.1, 2, .inl c_share)), (a_leftOver, .inl (E.2.1, 2, .inl c_leftOver)), (a_, .inr (6, [.ref a_row, .ref a_partners, .int c_askedCount, .int c_outcome, .ref a_share, .ref a_leftOver])), (a_row, .inl (E.2.1, 81, .inl (upd w_22 11 ((w_22 11) + r_21))))] := hD
    replace hF := nm_s hF
    obtain ⟨f_24, hf_24, hF⟩ := hF
    rw [← hf_24] at hP hD
    refine lv_iload hx hb dX5_doAct_149 (lv_at hl 0 rfl) ?_
    rw [hQ]
    have h9 := fin9 (P := fun u9 : Int32 × (Nat → Int32) × (Nat → Int32) × Int32 × Int32 × (Nat → Int32) × (Nat → Int32) => r_21 = u9.1 ∧ va_P E.1 vwCl (w_X5_doAct E a_ a_row a_partners a_share a_leftOver u9.2.2.2.1 u9.2.2.2.2.1 u9.2.1 u9.2.2.1 u9.2.2.2.2.2.1 u9.2.2.2.2.2.2) H ∧ va_D A (w_X5_doAct E a_ a_row a_partners a_share a_leftOver u9.2.2.2.1 u9.2.2.2.2.1 u9.2.1 u9.2.2.1 u9.2.2.2.2.2.1 u9.2.2.2.2.2.2)) hF ⟨rfl, hP.sub [3, 4, 0, 1, 2] rfl, hD.sub [3, 4, 0, 1, 2] (by decide) rfl⟩
    obtain ⟨e9_0, hP9, hD9⟩ := h9
    exact W.iret (v := r_21) hx hb hr (fun tt ht hW => ⟨⟨_, (), rfl, e9_0, ht ▸ hP9, hD9⟩, hS.F ht⟩) hS.2.2 dX5_doAct_151
  replace hF := inn c_1_3 hF
  rcases Classical.em (p1 = (4 : Int32)) with c_1_4 | c_1_4
  ·
    replace hF := ip c_1_4 hF
    refine lv_tableIn (off := 98) (tgt := 102) hx hb dX5_doAct_4 (by rw [c_1_4]; decide) (by rw [c_1_4]; decide) (by rw [c_1_4]; decide) (by decide) ?_
    refine lv_aload_n hx hb dX5_doAct_102 rfl (lv_at hl 1 rfl) ?_
    refine lv_iload_n hx hb dX5_doAct_103 rfl (lv_at hl 3 rfl) ?_
    refine lv_iload_n hx hb dX5_doAct_104 rfl (lv_at hl 4 rfl) ?_
    replace hF := bd2_s hF
    obtain ⟨r_25, w_26, hc_27, hF⟩ := hF
    obtain ⟨hPc, hDc, hFc⟩ := wcut (wc := (w_X5_addTo E a_ a_row a_partners a_share a_leftOver c_askedCount c_outcome c_row)) hP hD hS hA [0, 1] (by decide) rfl
    have hrc := va_recv hK hPc (ci := 6) (q0 := 0) rfl rfl
    refine cE_i (wc := (w_X5_addTo E a_ a_row a_partners a_share a_leftOver c_askedCount c_outcome c_row)) (wr := [(a_partners, .inl (E.2.1, 8, .inl c_partners)), (a_share, .inl (E.2.1, 2, .inl c_share)), (a_leftOver, .inl (E.2.1, 2, .inl c_leftOver))]) (w1 := (w_X5_addTo E a_ a_row a_partners a_share a_leftOver c_askedCount c_outcome w_26)) (va_runV (As := [.int p2, .int p3]) (rest := [])  ⟨hx, hb, hml, hown, hts⟩ (f_X5_addTo l E H.size K (a_ := a_) (a_row := a_row) (a_partners := a_partners) (a_share := a_share) (a_leftOver := a_leftOver) (p1 := p2) (p2 := p3) (c_askedCount := c_askedCount) (c_outcome := c_outcome) (c_row := c_row) hc_27) (cwV 2 hts g_f_X5_doAct_f_X5_addTo_143 rfl rfl rfl hd_X5_addTo ⟨Nat.le_of_ble_eq_true rfl, Nat.le_of_ble_eq_true rfl⟩) ⟨pW.blind, hrc, (pW.pre ⟨hK, hN⟩ hPc hDc)⟩ rfl rfl hl.1 rfl (lv_room (Nat.le_of_ble_eq_true rfl)) dX5_doAct_105 ⟨Nat.le_of_ble_eq_true rfl, Nat.le_of_ble_eq_true rfl⟩) hS hFc hP hD [0, 1] [2, 3, 4] rfl rfl (by decide) (by decide) (fun H locs hP hD hS => ?_)
    replace hP : va_P E.1 vwCl [(a_partners, .inl (E.2.1, 8, .inl c_partners)), (a_share, .inl (E.2.1, 2, .inl c_share)), (a_leftOver, .inl (E.2.1, 2, .inl c_leftOver)), (a_, .inr (6, [.ref a_row, .ref a_partners, .int c_askedCount, .int c_outcome, .ref a_share, .ref a_leftOver])), (a_row, .inl (E.2.1, 81, .inl w_26))] H := hP
    replace hD : va_D A [(a_partners, .inl (E.2.1, 8, .inl c_partners)), (a_share, .inl (E.2.1, 2, .inl c_share)), (a_leftOver, .inl (E.2.1, 2, .inl c_leftOver)), (a_, .inr (6, [.ref a_row, .ref a_partners, .int c_askedCount, .int c_outcome, .ref a_share, .ref a_leftOver])), (a_row, .inl (E.2.1, 81, .inl w_26))] := hD
    refine lv_istore (lv' := [(5, .int r_25), (0, .ref a_), (1, .int p1), (2, .int p2), (3, .int p3), (4, .int p4)]) hx hb dX5_doAct_108 hl (by decide) rfl (fun ls hl => ?_)
    refine lv_goto (tgt := 137) hx hb dX5_doAct_110 (by decide) ?_
    refine lv_aload_n hx hb dX5_doAct_137 rfl (lv_at hl 1 rfl) ?_
    refine gt_X5_0 (v := .ref a_row) hx hb hts i_f_X5_doAct_X5 hown hK hP 3 rfl (hts (.fieldLink RX5 11 "HushWatch$State" "row" "[I") (List.mem_of_getElem? (i := 1) rfl)) rfl dX5_doAct_138 ?_
    refine lv_bipush (v := 11) hx hb dX5_doAct_141 (by decide) ?_
    refine lv_dup2_11 hx hb dX5_doAct_143 rfl rfl ?_
    refine va_iald hx hb hK hP 4 0 rfl rfl (vin rfl) dX5_doAct_144 ?_
    refine W.eq (g2 := F0 m 145 ls [.int (w_26 11), .int (11 : Int32), .ref a_row]) rfl ?_
    refine lv_iload hx hb dX5_doAct_145 (lv_at hl 0 rfl) ?_
    refine lv_iadd hx hb dX5_doAct_147 ?_
    refine va_iast hx hb hK hP hD hS 4 0 rfl rfl (vin rfl) dX5_doAct_148 (fun H locs hP hD hS => ?_)
    replace hP : va_P E.1 vwCl [(a_partners, .inl (E.2.1, 8, .inl c_partners)), (a_share, .inl (E.2.1, 2, .inl c_share)), (a_leftOver, .inl (E.2.1, 2, .inl c_leftOver)), (a_, .inr (6, [.ref a_row, .ref a_partners, .int c_askedCount, .int c_outcome, .ref a_share, .ref a_leftOver])), (a_row, .inl (E.2.1, 81, .inl (upd w_26 11 ((w_26 11) + r_25))))] H := hP
    replace hD : va_D A [(a_partners, .inl (E.2.1, 8, .inl c_partners)), (a_share, .inl (E.2.1, 2, .inl c_share)), (a_leftOver, .inl (E.2.1, 2, .inl c_leftOver)), (a_, .inr (6, [.ref a_row, .ref a_partners, .int c_askedCount, .int c_outcome, .ref a_share, .ref a_leftOver])), (a_row, .inl (E.2.1, 81, .inl (upd w_26 11 ((w_26 11) + r_25))))] := hD
    replace hF := nm_s hF
    obtain ⟨f_28, hf_28, hF⟩ := hF
    rw [← hf_28] at hP hD
    refine lv_iload hx hb dX5_doAct_149 (lv_at hl 0 rfl) ?_
    rw [hQ]
    have h9 := fin9 (P := fun u9 : Int32 × (Nat → Int32) × (Nat → Int32) × Int32 × Int32 × (Nat → Int32) × (Nat → Int32) => r_25 = u9.1 ∧ va_P E.1 vwCl (w_X5_doAct E a_ a_row a_partners a_share a_leftOver u9.2.2.2.1 u9.2.2.2.2.1 u9.2.1 u9.2.2.1 u9.2.2.2.2.2.1 u9.2.2.2.2.2.2) H ∧ va_D A (w_X5_doAct E a_ a_row a_partners a_share a_leftOver u9.2.2.2.1 u9.2.2.2.2.1 u9.2.1 u9.2.2.1 u9.2.2.2.2.2.1 u9.2.2.2.2.2.2)) hF ⟨rfl, hP.sub [3, 4, 0, 1, 2] rfl, hD.sub [3, 4, 0, 1, 2] (by decide) rfl⟩
    obtain ⟨e9_0, hP9, hD9⟩ := h9
    exact W.iret (v := r_25) hx hb hr (fun tt ht hW => ⟨⟨_, (), rfl, e9_0, ht ▸ hP9, hD9⟩, hS.F ht⟩) hS.2.2 dX5_doAct_151
  replace hF := inn c_1_4 hF
  rcases Classical.em (p1 = (5 : Int32)) with c_1_5 | c_1_5
  ·
    replace hF := ip c_1_5 hF
    refine lv_tableIn (off := 109) (tgt := 113) hx hb dX5_doAct_4 (by rw [c_1_5]; decide) (by rw [c_1_5]; decide) (by rw [c_1_5]; decide) (by decide) ?_
    refine lv_aload_n hx hb dX5_doAct_113 rfl (lv_at hl 1 rfl) ?_
    refine lv_iload_n hx hb dX5_doAct_114 rfl (lv_at hl 3 rfl) ?_
    replace hF := bd1_s hF
    obtain ⟨w_29, hc_30, hF⟩ := hF
    obtain ⟨hPc, hDc, hFc⟩ := wcut (wc := (w_X5_startCounts E a_ a_row a_partners a_share a_leftOver c_askedCount c_outcome c_row)) hP hD hS hA [0, 1] (by decide) rfl
    have hrc := va_recv hK hPc (ci := 6) (q0 := 0) rfl rfl
    refine cE_v (wc := (w_X5_startCounts E a_ a_row a_partners a_share a_leftOver c_askedCount c_outcome c_row)) (wr := [(a_partners, .inl (E.2.1, 8, .inl c_partners)), (a_share, .inl (E.2.1, 2, .inl c_share)), (a_leftOver, .inl (E.2.1, 2, .inl c_leftOver))]) (w1 := (w_X5_startCounts E a_ a_row a_partners a_share a_leftOver c_askedCount c_outcome w_29)) (va_runV (As := [.int p2]) (rest := [])  ⟨hx, hb, hml, hown, hts⟩ (f_X5_startCounts l E H.size K (a_ := a_) (a_row := a_row) (a_partners := a_partners) (a_share := a_share) (a_leftOver := a_leftOver) (p1 := p2) (c_askedCount := c_askedCount) (c_outcome := c_outcome) (c_row := c_row) hc_30) (cwV 1 hts g_f_X5_doAct_f_X5_startCounts_146 rfl rfl rfl hd_X5_startCounts ⟨Nat.le_of_ble_eq_true rfl, Nat.le_of_ble_eq_true rfl⟩) ⟨pW.blind, hrc, (pW.pre ⟨hK, hN⟩ hPc hDc)⟩ rfl rfl hl.1 rfl (lv_room (Nat.le_of_ble_eq_true rfl)) dX5_doAct_115 ⟨Nat.le_of_ble_eq_true rfl, Nat.le_of_ble_eq_true rfl⟩) hS hFc hP hD [0, 1] [2, 3, 4] rfl rfl (by decide) (by decide) (fun H locs hP hD hS => ?_)
    replace hP : va_P E.1 vwCl [(a_partners, .inl (E.2.1, 8, .inl c_partners)), (a_share, .inl (E.2.1, 2, .inl c_share)), (a_leftOver, .inl (E.2.1, 2, .inl c_leftOver)), (a_, .inr (6, [.ref a_row, .ref a_partners, .int c_askedCount, .int c_outcome, .ref a_share, .ref a_leftOver])), (a_row, .inl (E.2.1, 81, .inl w_29))] H := hP
    replace hD : va_D A [(a_partners, .inl (E.2.1, 8, .inl c_partners)), (a_share, .inl (E.2.1, 2, .inl c_share)), (a_leftOver, .inl (E.2.1, 2, .inl c_leftOver)), (a_, .inr (6, [.ref a_row, .ref a_partners, .int c_askedCount, .int c_outcome, .ref a_share, .ref a_leftOver])), (a_row, .inl (E.2.1, 81, .inl w_29))] := hD
    refine lv_goto (tgt := 137) hx hb dX5_doAct_118 (by decide) ?_
    refine lv_aload_n hx hb dX5_doAct_137 rfl (lv_at hl 1 rfl) ?_
    refine gt_X5_0 (v := .ref a_row) hx hb hts i_f_X5_doAct_X5 hown hK hP 3 rfl (hts (.fieldLink RX5 11 "HushWatch$State" "row" "[I") (List.mem_of_getElem? (i := 1) rfl)) rfl dX5_doAct_138 ?_
    refine lv_bipush (v := 11) hx hb dX5_doAct_141 (by decide) ?_
    refine lv_dup2_11 hx hb dX5_doAct_143 rfl rfl ?_
    refine va_iald hx hb hK hP 4 0 rfl rfl (vin rfl) dX5_doAct_144 ?_
    refine W.eq (g2 := F0 m 145 ls [.int (w_29 11), .int (11 : Int32), .ref a_row]) rfl ?_
    refine lv_iload hx hb dX5_doAct_145 (lv_at hl 0 rfl) ?_
    refine lv_iadd hx hb dX5_doAct_147 ?_
    refine va_iast hx hb hK hP hD hS 4 0 rfl rfl (vin rfl) dX5_doAct_148 (fun H locs hP hD hS => ?_)
    replace hP : va_P E.1 vwCl [(a_partners, .inl (E.2.1, 8, .inl c_partners)), (a_share, .inl (E.2.1, 2, .inl c_share)), (a_leftOver, .inl (E.2.1, 2, .inl c_leftOver)), (a_, .inr (6, [.ref a_row, .ref a_partners, .int c_askedCount, .int c_outcome, .ref a_share, .ref a_leftOver])), (a_row, .inl (E.2.1, 81, .inl (upd w_29 11 ((w_29 11) + (0 : Int32)))))] H := hP
    replace hD : va_D A [(a_partners, .inl (E.2.1, 8, .inl c_partners)), (a_share, .inl (E.2.1, 2, .inl c_share)), (a_leftOver, .inl (E.2.1, 2, .inl c_leftOver)), (a_, .inr (6, [.ref a_row, .ref a_partners, .int c_askedCount, .int c_outcome, .ref a_share, .ref a_leftOver])), (a_row, .inl (E.2.1, 81, .inl (upd w_29 11 ((w_29 11) + (0 : Int32)))))] := hD
    replace hF := nm_s hF
    obtain ⟨f_31, hf_31, hF⟩ := hF
    rw [← hf_31] at hP hD
    refine lv_iload hx hb dX5_doAct_149 (lv_at hl 0 rfl) ?_
    rw [hQ]
    have h9 := fin9 (P := fun u9 : Int32 × (Nat → Int32) × (Nat → Int32) × Int32 × Int32 × (Nat → Int32) × (Nat → Int32) => (0 : Int32) = u9.1 ∧ va_P E.1 vwCl (w_X5_doAct E a_ a_row a_partners a_share a_leftOver u9.2.2.2.1 u9.2.2.2.2.1 u9.2.1 u9.2.2.1 u9.2.2.2.2.2.1 u9.2.2.2.2.2.2) H ∧ va_D A (w_X5_doAct E a_ a_row a_partners a_share a_leftOver u9.2.2.2.1 u9.2.2.2.2.1 u9.2.1 u9.2.2.1 u9.2.2.2.2.2.1 u9.2.2.2.2.2.2)) hF ⟨rfl, hP.sub [3, 4, 0, 1, 2] rfl, hD.sub [3, 4, 0, 1, 2] (by decide) rfl⟩
    obtain ⟨e9_0, hP9, hD9⟩ := h9
    exact W.iret (v := (0 : Int32)) hx hb hr (fun tt ht hW => ⟨⟨_, (), rfl, e9_0, ht ▸ hP9, hD9⟩, hS.F ht⟩) hS.2.2 dX5_doAct_151
  replace hF := inn c_1_5 hF
  rcases Classical.em (p1 = (6 : Int32)) with c_1_6 | c_1_6
  ·
    replace hF := ip c_1_6 hF
    refine lv_tableIn (off := 117) (tgt := 121) hx hb dX5_doAct_4 (by rw [c_1_6]; decide) (by rw [c_1_6]; decide) (by rw [c_1_6]; decide) (by decide) ?_
    refine lv_aload_n hx hb dX5_doAct_121 rfl (lv_at hl 1 rfl) ?_
    refine gt_X5_0 (v := .ref a_row) hx hb hts i_f_X5_doAct_X5 hown hK hP 0 rfl (hts (.fieldLink RX5 11 "HushWatch$State" "row" "[I") (List.mem_of_getElem? (i := 1) rfl)) rfl dX5_doAct_122 ?_
    refine lv_bipush (v := 7) hx hb dX5_doAct_125 (by decide) ?_
    refine lv_dup2_11 hx hb dX5_doAct_127 rfl rfl ?_
    refine va_iald hx hb hK hP 1 0 rfl rfl (vin rfl) dX5_doAct_128 ?_
    refine W.eq (g2 := F0 m 129 ls [.int (c_row 7), .int (7 : Int32), .ref a_row]) rfl ?_
    refine lv_iconst (v := 1) hx hb dX5_doAct_129 (by decide) ?_
    refine lv_iload_n hx hb dX5_doAct_130 rfl (lv_at hl 3 rfl) ?_
    refine lv_ishl hx hb dX5_doAct_131 ?_
    refine lv_ixor hx hb dX5_doAct_132 ?_
    refine va_iast hx hb hK hP hD hS 1 0 rfl rfl (vin rfl) dX5_doAct_133 (fun H locs hP hD hS => ?_)
    replace hP : va_P E.1 vwCl [(a_, .inr (6, [.ref a_row, .ref a_partners, .int c_askedCount, .int c_outcome, .ref a_share, .ref a_leftOver])), (a_row, .inl (E.2.1, 81, .inl (upd c_row 7 ((c_row 7) ^^^ ((1 : Int32) <<< (p2 &&& (31 : Int32))))))), (a_partners, .inl (E.2.1, 8, .inl c_partners)), (a_share, .inl (E.2.1, 2, .inl c_share)), (a_leftOver, .inl (E.2.1, 2, .inl c_leftOver))] H := hP
    replace hD : va_D A [(a_, .inr (6, [.ref a_row, .ref a_partners, .int c_askedCount, .int c_outcome, .ref a_share, .ref a_leftOver])), (a_row, .inl (E.2.1, 81, .inl (upd c_row 7 ((c_row 7) ^^^ ((1 : Int32) <<< (p2 &&& (31 : Int32))))))), (a_partners, .inl (E.2.1, 8, .inl c_partners)), (a_share, .inl (E.2.1, 2, .inl c_share)), (a_leftOver, .inl (E.2.1, 2, .inl c_leftOver))] := hD
    replace hF := nm_s hF
    obtain ⟨f_32, hf_32, hF⟩ := hF
    rw [← hf_32] at hP hD
    refine lv_goto (tgt := 137) hx hb dX5_doAct_134 (by decide) ?_
    refine lv_aload_n hx hb dX5_doAct_137 rfl (lv_at hl 1 rfl) ?_
    refine gt_X5_0 (v := .ref a_row) hx hb hts i_f_X5_doAct_X5 hown hK hP 0 rfl (hts (.fieldLink RX5 11 "HushWatch$State" "row" "[I") (List.mem_of_getElem? (i := 1) rfl)) rfl dX5_doAct_138 ?_
    refine lv_bipush (v := 11) hx hb dX5_doAct_141 (by decide) ?_
    refine lv_dup2_11 hx hb dX5_doAct_143 rfl rfl ?_
    refine va_iald hx hb hK hP 1 0 rfl rfl (vin rfl) dX5_doAct_144 ?_
    refine W.eq (g2 := F0 m 145 ls [.int (f_32 11), .int (11 : Int32), .ref a_row]) rfl ?_
    refine lv_iload hx hb dX5_doAct_145 (lv_at hl 0 rfl) ?_
    refine lv_iadd hx hb dX5_doAct_147 ?_
    refine va_iast hx hb hK hP hD hS 1 0 rfl rfl (vin rfl) dX5_doAct_148 (fun H locs hP hD hS => ?_)
    replace hP : va_P E.1 vwCl [(a_, .inr (6, [.ref a_row, .ref a_partners, .int c_askedCount, .int c_outcome, .ref a_share, .ref a_leftOver])), (a_row, .inl (E.2.1, 81, .inl (upd f_32 11 ((f_32 11) + (0 : Int32))))), (a_partners, .inl (E.2.1, 8, .inl c_partners)), (a_share, .inl (E.2.1, 2, .inl c_share)), (a_leftOver, .inl (E.2.1, 2, .inl c_leftOver))] H := hP
    replace hD : va_D A [(a_, .inr (6, [.ref a_row, .ref a_partners, .int c_askedCount, .int c_outcome, .ref a_share, .ref a_leftOver])), (a_row, .inl (E.2.1, 81, .inl (upd f_32 11 ((f_32 11) + (0 : Int32))))), (a_partners, .inl (E.2.1, 8, .inl c_partners)), (a_share, .inl (E.2.1, 2, .inl c_share)), (a_leftOver, .inl (E.2.1, 2, .inl c_leftOver))] := hD
    replace hF := nm_s hF
    obtain ⟨f_33, hf_33, hF⟩ := hF
    rw [← hf_33] at hP hD
    refine lv_iload hx hb dX5_doAct_149 (lv_at hl 0 rfl) ?_
    rw [hQ]
    have h9 := fin9 (P := fun u9 : Int32 × (Nat → Int32) × (Nat → Int32) × Int32 × Int32 × (Nat → Int32) × (Nat → Int32) => (0 : Int32) = u9.1 ∧ va_P E.1 vwCl (w_X5_doAct E a_ a_row a_partners a_share a_leftOver u9.2.2.2.1 u9.2.2.2.2.1 u9.2.1 u9.2.2.1 u9.2.2.2.2.2.1 u9.2.2.2.2.2.2) H ∧ va_D A (w_X5_doAct E a_ a_row a_partners a_share a_leftOver u9.2.2.2.1 u9.2.2.2.2.1 u9.2.1 u9.2.2.1 u9.2.2.2.2.2.1 u9.2.2.2.2.2.2)) hF ⟨rfl, hP, hD⟩
    obtain ⟨e9_0, hP9, hD9⟩ := h9
    exact W.iret (v := (0 : Int32)) hx hb hr (fun tt ht hW => ⟨⟨_, (), rfl, e9_0, ht ▸ hP9, hD9⟩, hS.F ht⟩) hS.2.2 dX5_doAct_151
  replace hF := inn c_1_6 hF
  refine lv_tableOut (tgt := 137) hx hb dX5_doAct_4 (by have t0 : (0 : Int32).toInt = 0 := (by decide); have t1 : (1 : Int32).toInt = 1 := (by decide); have t2 : (2 : Int32).toInt = 2 := (by decide); have t3 : (3 : Int32).toInt = 3 := (by decide); have t4 : (4 : Int32).toInt = 4 := (by decide); have t5 : (5 : Int32).toInt = 5 := (by decide); have t6 : (6 : Int32).toInt = 6 := (by decide); simp only [← Int32.toInt_inj, t0, t1, t2, t3, t4, t5, t6] at c_1_0 c_1_1 c_1_2 c_1_3 c_1_4 c_1_5 c_1_6; omega) (by decide) ?_
  refine lv_aload_n hx hb dX5_doAct_137 rfl (lv_at hl 1 rfl) ?_
  refine gt_X5_0 (v := .ref a_row) hx hb hts i_f_X5_doAct_X5 hown hK hP 0 rfl (hts (.fieldLink RX5 11 "HushWatch$State" "row" "[I") (List.mem_of_getElem? (i := 1) rfl)) rfl dX5_doAct_138 ?_
  refine lv_bipush (v := 11) hx hb dX5_doAct_141 (by decide) ?_
  refine lv_dup2_11 hx hb dX5_doAct_143 rfl rfl ?_
  refine va_iald hx hb hK hP 1 0 rfl rfl (vin rfl) dX5_doAct_144 ?_
  refine W.eq (g2 := F0 m 145 ls [.int (c_row 11), .int (11 : Int32), .ref a_row]) rfl ?_
  refine lv_iload hx hb dX5_doAct_145 (lv_at hl 0 rfl) ?_
  refine lv_iadd hx hb dX5_doAct_147 ?_
  refine va_iast hx hb hK hP hD hS 1 0 rfl rfl (vin rfl) dX5_doAct_148 (fun H locs hP hD hS => ?_)
  replace hP : va_P E.1 vwCl [(a_, .inr (6, [.ref a_row, .ref a_partners, .int c_askedCount, .int c_outcome, .ref a_share, .ref a_leftOver])), (a_row, .inl (E.2.1, 81, .inl (upd c_row 11 ((c_row 11) + (0 : Int32))))), (a_partners, .inl (E.2.1, 8, .inl c_partners)), (a_share, .inl (E.2.1, 2, .inl c_share)), (a_leftOver, .inl (E.2.1, 2, .inl c_leftOver))] H := hP
  replace hD : va_D A [(a_, .inr (6, [.ref a_row, .ref a_partners, .int c_askedCount, .int c_outcome, .ref a_share, .ref a_leftOver])), (a_row, .inl (E.2.1, 81, .inl (upd c_row 11 ((c_row 11) + (0 : Int32))))), (a_partners, .inl (E.2.1, 8, .inl c_partners)), (a_share, .inl (E.2.1, 2, .inl c_share)), (a_leftOver, .inl (E.2.1, 2, .inl c_leftOver))] := hD
  replace hF := nm_s hF
  obtain ⟨f_34, hf_34, hF⟩ := hF
  rw [← hf_34] at hP hD
  refine lv_iload hx hb dX5_doAct_149 (lv_at hl 0 rfl) ?_
  rw [hQ]
  have h9 := fin9 (P := fun u9 : Int32 × (Nat → Int32) × (Nat → Int32) × Int32 × Int32 × (Nat → Int32) × (Nat → Int32) => (0 : Int32) = u9.1 ∧ va_P E.1 vwCl (w_X5_doAct E a_ a_row a_partners a_share a_leftOver u9.2.2.2.1 u9.2.2.2.2.1 u9.2.1 u9.2.2.1 u9.2.2.2.2.2.1 u9.2.2.2.2.2.2) H ∧ va_D A (w_X5_doAct E a_ a_row a_partners a_share a_leftOver u9.2.2.2.1 u9.2.2.2.2.1 u9.2.1 u9.2.2.1 u9.2.2.2.2.2.1 u9.2.2.2.2.2.2)) hF ⟨rfl, hP, hD⟩
  obtain ⟨e9_0, hP9, hD9⟩ := h9
  exact W.iret (v := (0 : Int32)) hx hb hr (fun tt ht hW => ⟨⟨_, (), rfl, e9_0, ht ▸ hP9, hD9⟩, hS.F ht⟩) hS.2.2 dX5_doAct_151

def F_X5_freezeRefusal (p1 : Int32) (c_row : Nat → Int32) : Option (Int32) :=
  bd1 (F_X5_hasSite p1 c_row) (fun r_1 => if r_1 = (0 : Int32) then some (0 : Int32) else if (c_row 7) ||| ((1 : Int32) <<< (p1 &&& (31 : Int32))) = ((1 : Int32) <<< ((c_row 3) &&& (31 : Int32))) - (1 : Int32) then bd1 (F_X5_isFrozen p1 c_row) (fun r_6 => if r_6 = (0 : Int32) then some (2 : Int32) else some (-1 : Int32)) else some (-1 : Int32))
abbrev w_X5_freezeRefusal (E : EE) (a_ a_row a_partners a_share a_leftOver : Nat) (c_askedCount : Int32) (c_outcome : Int32) (c_row : Nat → Int32) : va_W := [(a_, .inr (6, [.ref a_row, .ref a_partners, .int c_askedCount, .int c_outcome, .ref a_share, .ref a_leftOver])), (a_row, .inl (E.2.1, 81, .inl c_row))]
def v_f_X5_freezeRefusal : List Cond := .code yX5_freezeRefusal cX5_freezeRefusal 3 (some .int) :: ([.fieldLink RX5 11 "HushWatch$State" "row" "[I", .methodLink RX5 79 yX5_hasSite, .instanceMethod yX5_hasSite, .selects RX5 yX5_hasSite yX5_hasSite, .initialized RX5, .methodLink RX5 131 yX5_isFrozen, .instanceMethod yX5_isFrozen, .selects RX5 yX5_isFrozen yX5_isFrozen] ++ (v_f_X5_hasSite ++ (wsX50 ++ (v_f_X5_isFrozen ++ ([])))))
theorem gw_f_X5_freezeRefusal : v_f_X5_freezeRefusal.all goodWord = true := by decide +kernel
theorem i_f_X5_freezeRefusal_X5 : ∀ w ∈ wsX50, w ∈ v_f_X5_freezeRefusal := fun _ h => List.mem_cons_of_mem _ (List.mem_append_right _ (List.mem_append_right _ (List.mem_append_left _ h)))
theorem g_f_X5_freezeRefusal_f_X5_hasSite_79 : GoodIn v_f_X5_freezeRefusal (wsV RX5 79 RX5 yX5_hasSite v_f_X5_hasSite) := goodIn_app (goodIn_of _ (by decide +kernel)) (goodIn_sub (fun _ h => List.mem_cons_of_mem _ (List.mem_append_right _ (List.mem_append_left _ h))) gw_f_X5_hasSite)
theorem g_f_X5_freezeRefusal_f_X5_isFrozen_131 : GoodIn v_f_X5_freezeRefusal (wsV RX5 131 RX5 yX5_isFrozen v_f_X5_isFrozen) := goodIn_app (goodIn_of _ (by decide +kernel)) (goodIn_sub (fun _ h => List.mem_cons_of_mem _ (List.mem_append_right _ (List.mem_append_right _ (List.mem_append_right _ (List.mem_append_left _ h))))) gw_f_X5_isFrozen)
theorem hd_X5_freezeRefusal : yX5_freezeRefusal.cls = RX5 ∧ yX5_freezeRefusal.cls ≠ "java/lang/invoke/MethodHandle" ∧ yX5_freezeRefusal.cls ≠ "java/lang/invoke/VarHandle" ∧ (parseMethodDescriptor yX5_freezeRefusal.desc).map (fun d => d.parameters.length) = some 1 := by decide +kernel
set_option maxHeartbeats 4000000 in
set_option maxRecDepth 100000 in
theorem f_X5_freezeRefusal (l : Launch) (E : EE) {a_ a_row a_partners a_share a_leftOver : Nat} {p1 : Int32} {c_askedCount : Int32} {c_outcome : Int32} {c_row : Nat → Int32} {rr : Int32} (hF : F_X5_freezeRefusal p1 c_row = some rr) : Met l yX5_freezeRefusal v_f_X5_freezeRefusal (({ frames := 2, cells := 0, slots := 0, locals := 42 } : Room)) (va_Pc [.ref a_, .int p1] (pP E (w_X5_freezeRefusal E a_ a_row a_partners a_share a_leftOver c_askedCount c_outcome c_row))) (vp_Si (fun q : Int32 => q = rr)) 0 0 (fun _ => False) := by
  refine Met.ofW (cc := cX5_freezeRefusal) (maxL := 3) (ret := (some .int)) (by decide) rfl ?_
  intro p e s m args below meth c s₁ B hml hv
  obtain ⟨rfl, ⟨hK, hN⟩, hP⟩ := hv
  have hx := B.exec
  have hb := B.bytes
  have hr := B.returns
  have hts := atoms_spec (ws := v_f_X5_freezeRefusal) B.pre
  have hown : s.vm.findClass RX5 = some m.cls := own_of hd_X5_freezeRefusal.1 (findClass_of_methodNamed B.named)
  have hlocks : meth.locks = false := B.notSynchronized
  replace hP : va_P E.1 vwCl [(a_, .inr (6, [.ref a_row, .ref a_partners, .int c_askedCount, .int c_outcome, .ref a_share, .ref a_leftOver])), (a_row, .inl (E.2.1, 81, .inl c_row))] s.heap := hP
  have hl := lv_entry ([.ref a_, .int p1]) (n := 3) (Nat.le_of_ble_eq_true rfl)
  rw [lg_entry_eq]
  generalize (lg_sl ([.ref a_, .int p1]) ++ List.replicate (3 - (lg_sl ([.ref a_, .int p1])).length) Slot.unset).toArray = ls at hl ⊢
  have hl : lv_has ls 3 [(0, .ref a_), (1, .int p1)] := hl
  obtain ⟨Q, hQ⟩ : ∃ Q : State → Prop, Q = MQ below (vp_Si (fun q : Int32 => q = rr)) #[Value.ref a_, Value.int p1] s 0 0 (fun _ => False) := ⟨_, rfl⟩
  rw [← hQ]
  change W p l e ({ frames := 2, cells := 0, slots := 0, locals := 42 } : Room) s m #[Value.ref a_, Value.int p1] below meth c s.heap [] 0 0 Q (F0 m 0 ls [])
  unfold F_X5_freezeRefusal at hF
  refine lv_aload_n hx hb dX5_freezeRefusal_0 rfl (lv_at hl 0 rfl) ?_
  refine lv_iload_n hx hb dX5_freezeRefusal_1 rfl (lv_at hl 1 rfl) ?_
  replace hF := bd1_s hF
  obtain ⟨r_1, hc_2, hF⟩ := hF
  have hPc : va_P E.1 vwCl (w_X5_hasSite E a_ a_row a_partners a_share a_leftOver c_askedCount c_outcome c_row) s.heap := hP.sub (ws' := [(a_, .inr (6, [.ref a_row, .ref a_partners, .int c_askedCount, .int c_outcome, .ref a_share, .ref a_leftOver])), (a_row, .inl (E.2.1, 81, .inl c_row))]) [0, 1] rfl
  have hrc := va_recv hK hPc (ci := 6) (q0 := 0) rfl rfl
  refine pE_z (va_runV (As := [.int p1]) (rest := [])  ⟨hx, hb, hml, hown, hts⟩ (f_X5_hasSite l E (a_ := a_) (a_row := a_row) (a_partners := a_partners) (a_share := a_share) (a_leftOver := a_leftOver) (p1 := p1) (c_askedCount := c_askedCount) (c_outcome := c_outcome) (c_row := c_row) hc_2) (cwV 1 hts g_f_X5_freezeRefusal_f_X5_hasSite_79 rfl rfl rfl hd_X5_hasSite ⟨Nat.le_of_ble_eq_true rfl, Nat.le_of_ble_eq_true rfl⟩) ⟨pP.blind, hrc, (pP.pre ⟨hK, hN⟩ hPc)⟩ rfl rfl hl.1 rfl (lv_room (Nat.le_of_ble_eq_true rfl)) dX5_freezeRefusal_2 ⟨Nat.le_of_ble_eq_true rfl, Nat.le_of_ble_eq_true rfl⟩) (fun hb_3 => ?_)
  refine lv_if_ne (tgt := 10) hx hb dX5_freezeRefusal_5 (by decide) (fun c_4 => ?_) (fun c_4 => ?_)
  ·
    replace hF := inn c_4 hF
    refine lv_iconst (v := 1) hx hb dX5_freezeRefusal_10 (by decide) ?_
    refine lv_aload_n hx hb dX5_freezeRefusal_11 rfl (lv_at hl 0 rfl) ?_
    refine gt_X5_0 (v := .ref a_row) hx hb hts i_f_X5_freezeRefusal_X5 hown hK hP 0 rfl (hts (.fieldLink RX5 11 "HushWatch$State" "row" "[I") (List.mem_of_getElem? (i := 1) rfl)) rfl dX5_freezeRefusal_12 ?_
    refine lv_iconst (v := 3) hx hb dX5_freezeRefusal_15 (by decide) ?_
    refine va_iald hx hb hK hP 1 0 rfl rfl (vin rfl) dX5_freezeRefusal_16 ?_
    refine W.eq (g2 := F0 m 17 ls [.int (c_row 3), .int (1 : Int32)]) rfl ?_
    refine lv_ishl hx hb dX5_freezeRefusal_17 ?_
    refine lv_iconst (v := 1) hx hb dX5_freezeRefusal_18 (by decide) ?_
    refine lv_isub hx hb dX5_freezeRefusal_19 ?_
    refine lv_istore_n (lv' := [(2, .int (((1 : Int32) <<< ((c_row 3) &&& (31 : Int32))) - (1 : Int32))), (0, .ref a_), (1, .int p1)]) hx hb dX5_freezeRefusal_20 rfl hl (by decide) rfl (fun ls hl => ?_)
    refine lv_aload_n hx hb dX5_freezeRefusal_21 rfl (lv_at hl 1 rfl) ?_
    refine gt_X5_0 (v := .ref a_row) hx hb hts i_f_X5_freezeRefusal_X5 hown hK hP 0 rfl (hts (.fieldLink RX5 11 "HushWatch$State" "row" "[I") (List.mem_of_getElem? (i := 1) rfl)) rfl dX5_freezeRefusal_22 ?_
    refine lv_bipush (v := 7) hx hb dX5_freezeRefusal_25 (by decide) ?_
    refine va_iald hx hb hK hP 1 0 rfl rfl (vin rfl) dX5_freezeRefusal_27 ?_
    refine W.eq (g2 := F0 m 28 ls [.int (c_row 7)]) rfl ?_
    refine lv_iconst (v := 1) hx hb dX5_freezeRefusal_28 (by decide) ?_
    refine lv_iload_n hx hb dX5_freezeRefusal_29 rfl (lv_at hl 2 rfl) ?_
    refine lv_ishl hx hb dX5_freezeRefusal_30 ?_
    refine lv_ior hx hb dX5_freezeRefusal_31 ?_
    refine lv_iload_n hx hb dX5_freezeRefusal_32 rfl (lv_at hl 0 rfl) ?_
    refine lv_icmp_ne (tgt := 48) hx hb dX5_freezeRefusal_33 (by decide) (fun c_5 => ?_) (fun c_5 => ?_)
    ·
      replace hF := inn c_5 hF
      refine lv_iconst (v := -1) hx hb dX5_freezeRefusal_48 (by decide) ?_
      rw [hQ]
      obtain e9_0 := inj1 hF
      exact W.iret (v := (-1 : Int32)) hx hb hr (fun tt ht hW => ⟨_, rfl, e9_0, ht⟩) (fun _ h => by cases h) dX5_freezeRefusal_49
    ·
      replace hF := ip c_5 hF
      refine lv_aload_n hx hb dX5_freezeRefusal_36 rfl (lv_at hl 1 rfl) ?_
      refine lv_iload_n hx hb dX5_freezeRefusal_37 rfl (lv_at hl 2 rfl) ?_
      replace hF := bd1_s hF
      obtain ⟨r_6, hc_7, hF⟩ := hF
      have hPc : va_P E.1 vwCl (w_X5_isFrozen E a_ a_row a_partners a_share a_leftOver c_askedCount c_outcome c_row) s.heap := hP.sub (ws' := [(a_, .inr (6, [.ref a_row, .ref a_partners, .int c_askedCount, .int c_outcome, .ref a_share, .ref a_leftOver])), (a_row, .inl (E.2.1, 81, .inl c_row))]) [0, 1] rfl
      have hrc := va_recv hK hPc (ci := 6) (q0 := 0) rfl rfl
      refine pE_z (va_runV (As := [.int p1]) (rest := [])  ⟨hx, hb, hml, hown, hts⟩ (f_X5_isFrozen l E (a_ := a_) (a_row := a_row) (a_partners := a_partners) (a_share := a_share) (a_leftOver := a_leftOver) (p1 := p1) (c_askedCount := c_askedCount) (c_outcome := c_outcome) (c_row := c_row) hc_7) (cwV 1 hts g_f_X5_freezeRefusal_f_X5_isFrozen_131 rfl rfl rfl hd_X5_isFrozen ⟨Nat.le_of_ble_eq_true rfl, Nat.le_of_ble_eq_true rfl⟩) ⟨pP.blind, hrc, (pP.pre ⟨hK, hN⟩ hPc)⟩ rfl rfl hl.1 rfl (lv_room (Nat.le_of_ble_eq_true rfl)) dX5_freezeRefusal_38 ⟨Nat.le_of_ble_eq_true rfl, Nat.le_of_ble_eq_true rfl⟩) (fun hb_8 => ?_)
      refine lv_if_ne (tgt := 48) hx hb dX5_freezeRefusal_41 (by decide) (fun c_9 => ?_) (fun c_9 => ?_)
      ·
        replace hF := inn c_9 hF
        refine lv_iconst (v := -1) hx hb dX5_freezeRefusal_48 (by decide) ?_
        rw [hQ]
        obtain e9_0 := inj1 hF
        exact W.iret (v := (-1 : Int32)) hx hb hr (fun tt ht hW => ⟨_, rfl, e9_0, ht⟩) (fun _ h => by cases h) dX5_freezeRefusal_49
      ·
        replace hF := ip c_9 hF
        refine lv_iconst (v := 2) hx hb dX5_freezeRefusal_44 (by decide) ?_
        refine lv_goto (tgt := 49) hx hb dX5_freezeRefusal_45 (by decide) ?_
        rw [hQ]
        obtain e9_0 := inj1 hF
        exact W.iret (v := (2 : Int32)) hx hb hr (fun tt ht hW => ⟨_, rfl, e9_0, ht⟩) (fun _ h => by cases h) dX5_freezeRefusal_49
  ·
    replace hF := ip c_4 hF
    refine lv_iconst (v := 0) hx hb dX5_freezeRefusal_8 (by decide) ?_
    rw [hQ]
    obtain e9_0 := inj1 hF
    exact W.iret (v := (0 : Int32)) hx hb hr (fun tt ht hW => ⟨_, rfl, e9_0, ht⟩) (fun _ h => by cases h) dX5_freezeRefusal_9

def F_X5_hasRoom (p1 : Int32) (p2 : Int32) (p3 : Int32) (c_row : Nat → Int32) : Option (Int32) :=
  bd1 (F_X5_of p1 (0 : Int32) c_row) (fun r_1 => if (99999 : Int32) < (absF (r_1 + p2)) then some (0 : Int32) else bd1 (F_X5_of p1 (1 : Int32) c_row) (fun r_4 => if (99999 : Int32) < (absF (r_4 + p3)) then some (0 : Int32) else some (1 : Int32)))
abbrev w_X5_hasRoom (E : EE) (a_ a_row a_partners a_share a_leftOver : Nat) (c_askedCount : Int32) (c_outcome : Int32) (c_row : Nat → Int32) : va_W := [(a_, .inr (6, [.ref a_row, .ref a_partners, .int c_askedCount, .int c_outcome, .ref a_share, .ref a_leftOver])), (a_row, .inl (E.2.1, 81, .inl c_row))]
def v_f_X5_hasRoom : List Cond := .code yX5_hasRoom cX5_hasRoom 4 (some .boolean) :: ([.methodLink RX5 94 Lib.Math.abs.name, .static Lib.Math.abs.name, .initialized "java/lang/Math", .code Lib.Math.abs.name Lib.Math.abs.code 1 (some .int), .constant RX5 98 (99999), .methodLink RX5 69 yX5_of, .instanceMethod yX5_of, .selects RX5 yX5_of yX5_of, .initialized RX5] ++ (v_f_X5_of ++ ([])))
theorem gw_f_X5_hasRoom : v_f_X5_hasRoom.all goodWord = true := by decide +kernel
theorem g_f_X5_hasRoom_f_X5_of_69 : GoodIn v_f_X5_hasRoom (wsV RX5 69 RX5 yX5_of v_f_X5_of) := goodIn_app (goodIn_of _ (by decide +kernel)) (goodIn_sub (fun _ h => List.mem_cons_of_mem _ (List.mem_append_right _ (List.mem_append_left _ h))) gw_f_X5_of)
theorem hd_X5_hasRoom : yX5_hasRoom.cls = RX5 ∧ yX5_hasRoom.cls ≠ "java/lang/invoke/MethodHandle" ∧ yX5_hasRoom.cls ≠ "java/lang/invoke/VarHandle" ∧ (parseMethodDescriptor yX5_hasRoom.desc).map (fun d => d.parameters.length) = some 3 := by decide +kernel
set_option maxHeartbeats 4000000 in
set_option maxRecDepth 100000 in
theorem f_X5_hasRoom (l : Launch) (E : EE) {a_ a_row a_partners a_share a_leftOver : Nat} {p1 : Int32} {p2 : Int32} {p3 : Int32} {c_askedCount : Int32} {c_outcome : Int32} {c_row : Nat → Int32} {rr : Int32} (hF : F_X5_hasRoom p1 p2 p3 c_row = some rr) : Met l yX5_hasRoom v_f_X5_hasRoom (({ frames := 1, cells := 0, slots := 0, locals := 22 } : Room)) (va_Pc [.ref a_, .int p1, .int p2, .int p3] (pP E (w_X5_hasRoom E a_ a_row a_partners a_share a_leftOver c_askedCount c_outcome c_row))) (vp_Si (fun q : Int32 => q = rr ∧ (q = 0 ∨ q = 1))) 0 0 (fun _ => False) := by
  refine Met.ofW (cc := cX5_hasRoom) (maxL := 4) (ret := (some .boolean)) (by decide) rfl ?_
  intro p e s m args below meth c s₁ B hml hv
  obtain ⟨rfl, ⟨hK, hN⟩, hP⟩ := hv
  have hx := B.exec
  have hb := B.bytes
  have hr := B.returns
  have hts := atoms_spec (ws := v_f_X5_hasRoom) B.pre
  have hown : s.vm.findClass RX5 = some m.cls := own_of hd_X5_hasRoom.1 (findClass_of_methodNamed B.named)
  have hlocks : meth.locks = false := B.notSynchronized
  replace hP : va_P E.1 vwCl [(a_, .inr (6, [.ref a_row, .ref a_partners, .int c_askedCount, .int c_outcome, .ref a_share, .ref a_leftOver])), (a_row, .inl (E.2.1, 81, .inl c_row))] s.heap := hP
  have hl := lv_entry ([.ref a_, .int p1, .int p2, .int p3]) (n := 4) (Nat.le_of_ble_eq_true rfl)
  rw [lg_entry_eq]
  generalize (lg_sl ([.ref a_, .int p1, .int p2, .int p3]) ++ List.replicate (4 - (lg_sl ([.ref a_, .int p1, .int p2, .int p3])).length) Slot.unset).toArray = ls at hl ⊢
  have hl : lv_has ls 4 [(0, .ref a_), (1, .int p1), (2, .int p2), (3, .int p3)] := hl
  obtain ⟨Q, hQ⟩ : ∃ Q : State → Prop, Q = MQ below (vp_Si (fun q : Int32 => q = rr ∧ (q = 0 ∨ q = 1))) #[Value.ref a_, Value.int p1, Value.int p2, Value.int p3] s 0 0 (fun _ => False) := ⟨_, rfl⟩
  rw [← hQ]
  change W p l e ({ frames := 1, cells := 0, slots := 0, locals := 22 } : Room) s m #[Value.ref a_, Value.int p1, Value.int p2, Value.int p3] below meth c s.heap [] 0 0 Q (F0 m 0 ls [])
  unfold F_X5_hasRoom at hF
  refine lv_aload_n hx hb dX5_hasRoom_0 rfl (lv_at hl 0 rfl) ?_
  refine lv_iload_n hx hb dX5_hasRoom_1 rfl (lv_at hl 1 rfl) ?_
  refine lv_iconst (v := 0) hx hb dX5_hasRoom_2 (by decide) ?_
  replace hF := bd1_s hF
  obtain ⟨r_1, hc_2, hF⟩ := hF
  have hPc : va_P E.1 vwCl (w_X5_of E a_ a_row a_partners a_share a_leftOver c_askedCount c_outcome c_row) s.heap := hP.sub (ws' := [(a_, .inr (6, [.ref a_row, .ref a_partners, .int c_askedCount, .int c_outcome, .ref a_share, .ref a_leftOver])), (a_row, .inl (E.2.1, 81, .inl c_row))]) [0, 1] rfl
  have hrc := va_recv hK hPc (ci := 6) (q0 := 0) rfl rfl
  refine pE_i (va_runV (As := [.int p1, .int (0 : Int32)]) (rest := [])  ⟨hx, hb, hml, hown, hts⟩ (f_X5_of l E (a_ := a_) (a_row := a_row) (a_partners := a_partners) (a_share := a_share) (a_leftOver := a_leftOver) (p1 := p1) (p2 := (0 : Int32)) (c_askedCount := c_askedCount) (c_outcome := c_outcome) (c_row := c_row) hc_2) (cwV 2 hts g_f_X5_hasRoom_f_X5_of_69 rfl rfl rfl hd_X5_of ⟨Nat.le_of_ble_eq_true rfl, Nat.le_of_ble_eq_true rfl⟩) ⟨pP.blind, hrc, (pP.pre ⟨hK, hN⟩ hPc)⟩ rfl rfl hl.1 rfl (lv_room (Nat.le_of_ble_eq_true rfl)) dX5_hasRoom_3 ⟨Nat.le_of_ble_eq_true rfl, Nat.le_of_ble_eq_true rfl⟩) ?_
  refine lv_iload_n hx hb dX5_hasRoom_6 rfl (lv_at hl 2 rfl) ?_
  refine lv_iadd hx hb dX5_hasRoom_7 ?_
  refine va_mabs hx hb (hml.trans hl.1.symm) hown (hts (.methodLink RX5 94 Lib.Math.abs.name) (List.mem_of_getElem? (i := 1) rfl)) (hts (.static Lib.Math.abs.name) (List.mem_of_getElem? (i := 2) rfl)) (hts (.initialized "java/lang/Math") (List.mem_of_getElem? (i := 3) rfl)) (hts (.code Lib.Math.abs.name Lib.Math.abs.code 1 (some .int)) (List.mem_of_getElem? (i := 4) rfl)) (Nat.le_of_ble_eq_true rfl) (Nat.le_of_ble_eq_true rfl) (Nat.le_of_ble_eq_true rfl) (Nat.le_of_ble_eq_true rfl) dX5_hasRoom_8 ?_
  refine W.eq (g2 := F0 m 11 ls [.int (absF (r_1 + p2))]) rfl ?_
  refine lv_ldc (v := 99999) hx hb hown (hts (.constant RX5 98 (99999)) (List.mem_of_getElem? (i := 5) rfl)) dX5_hasRoom_11 ?_
  refine lv_icmp_gt (tgt := 36) hx hb dX5_hasRoom_13 (by decide) (fun c_3 => ?_) (fun c_3 => ?_)
  ·
    replace hF := ip c_3 hF
    refine lv_iconst (v := 0) hx hb dX5_hasRoom_36 (by decide) ?_
    rw [hQ]
    obtain e9_0 := inj1 hF
    exact W.zret (v := (0 : Int32)) hx hb hr rfl (fun tt ht hW => ⟨_, rfl, ⟨e9_0, Or.inl rfl⟩, ht⟩) (fun _ h => by cases h) dX5_hasRoom_37
  ·
    replace hF := inn c_3 hF
    refine lv_aload_n hx hb dX5_hasRoom_16 rfl (lv_at hl 0 rfl) ?_
    refine lv_iload_n hx hb dX5_hasRoom_17 rfl (lv_at hl 1 rfl) ?_
    refine lv_iconst (v := 1) hx hb dX5_hasRoom_18 (by decide) ?_
    replace hF := bd1_s hF
    obtain ⟨r_4, hc_5, hF⟩ := hF
    have hPc : va_P E.1 vwCl (w_X5_of E a_ a_row a_partners a_share a_leftOver c_askedCount c_outcome c_row) s.heap := hP.sub (ws' := [(a_, .inr (6, [.ref a_row, .ref a_partners, .int c_askedCount, .int c_outcome, .ref a_share, .ref a_leftOver])), (a_row, .inl (E.2.1, 81, .inl c_row))]) [0, 1] rfl
    have hrc := va_recv hK hPc (ci := 6) (q0 := 0) rfl rfl
    refine pE_i (va_runV (As := [.int p1, .int (1 : Int32)]) (rest := [])  ⟨hx, hb, hml, hown, hts⟩ (f_X5_of l E (a_ := a_) (a_row := a_row) (a_partners := a_partners) (a_share := a_share) (a_leftOver := a_leftOver) (p1 := p1) (p2 := (1 : Int32)) (c_askedCount := c_askedCount) (c_outcome := c_outcome) (c_row := c_row) hc_5) (cwV 2 hts g_f_X5_hasRoom_f_X5_of_69 rfl rfl rfl hd_X5_of ⟨Nat.le_of_ble_eq_true rfl, Nat.le_of_ble_eq_true rfl⟩) ⟨pP.blind, hrc, (pP.pre ⟨hK, hN⟩ hPc)⟩ rfl rfl hl.1 rfl (lv_room (Nat.le_of_ble_eq_true rfl)) dX5_hasRoom_19 ⟨Nat.le_of_ble_eq_true rfl, Nat.le_of_ble_eq_true rfl⟩) ?_
    refine lv_iload_n hx hb dX5_hasRoom_22 rfl (lv_at hl 3 rfl) ?_
    refine lv_iadd hx hb dX5_hasRoom_23 ?_
    refine va_mabs hx hb (hml.trans hl.1.symm) hown (hts (.methodLink RX5 94 Lib.Math.abs.name) (List.mem_of_getElem? (i := 1) rfl)) (hts (.static Lib.Math.abs.name) (List.mem_of_getElem? (i := 2) rfl)) (hts (.initialized "java/lang/Math") (List.mem_of_getElem? (i := 3) rfl)) (hts (.code Lib.Math.abs.name Lib.Math.abs.code 1 (some .int)) (List.mem_of_getElem? (i := 4) rfl)) (Nat.le_of_ble_eq_true rfl) (Nat.le_of_ble_eq_true rfl) (Nat.le_of_ble_eq_true rfl) (Nat.le_of_ble_eq_true rfl) dX5_hasRoom_24 ?_
    refine W.eq (g2 := F0 m 27 ls [.int (absF (r_4 + p3))]) rfl ?_
    refine lv_ldc (v := 99999) hx hb hown (hts (.constant RX5 98 (99999)) (List.mem_of_getElem? (i := 5) rfl)) dX5_hasRoom_27 ?_
    refine lv_icmp_gt (tgt := 36) hx hb dX5_hasRoom_29 (by decide) (fun c_6 => ?_) (fun c_6 => ?_)
    ·
      replace hF := ip c_6 hF
      refine lv_iconst (v := 0) hx hb dX5_hasRoom_36 (by decide) ?_
      rw [hQ]
      obtain e9_0 := inj1 hF
      exact W.zret (v := (0 : Int32)) hx hb hr rfl (fun tt ht hW => ⟨_, rfl, ⟨e9_0, Or.inl rfl⟩, ht⟩) (fun _ h => by cases h) dX5_hasRoom_37
    ·
      replace hF := inn c_6 hF
      refine lv_iconst (v := 1) hx hb dX5_hasRoom_32 (by decide) ?_
      refine lv_goto (tgt := 37) hx hb dX5_hasRoom_33 (by decide) ?_
      rw [hQ]
      obtain e9_0 := inj1 hF
      exact W.zret (v := (1 : Int32)) hx hb hr rfl (fun tt ht hW => ⟨_, rfl, ⟨e9_0, Or.inr rfl⟩, ht⟩) (fun _ h => by cases h) dX5_hasRoom_37

def F_X5_isQuietWith (p1 : Int32) (p2 : Int32) (p3 : Int32) (c_row : Nat → Int32) : Option (Int32) :=
  bd1 (F_X5_drift p1 (0 : Int32) c_row) (fun r_1 => bd1 (F_X5_drift p1 (1 : Int32) c_row) (fun r_3 => bd1 (F_X5_isQuietDrift (r_1 + p2) (r_3 + p3) c_row) (fun r_5 => some r_5)))
abbrev w_X5_isQuietWith (E : EE) (a_ a_row a_partners a_share a_leftOver : Nat) (c_askedCount : Int32) (c_outcome : Int32) (c_row : Nat → Int32) : va_W := [(a_, .inr (6, [.ref a_row, .ref a_partners, .int c_askedCount, .int c_outcome, .ref a_share, .ref a_leftOver])), (a_row, .inl (E.2.1, 81, .inl c_row))]
def v_f_X5_isQuietWith : List Cond := .code yX5_isQuietWith cX5_isQuietWith 4 (some .boolean) :: ([.methodLink RX5 72 yX5_drift, .instanceMethod yX5_drift, .selects RX5 yX5_drift yX5_drift, .initialized RX5, .methodLink RX5 87 yX5_isQuietDrift, .instanceMethod yX5_isQuietDrift, .selects RX5 yX5_isQuietDrift yX5_isQuietDrift] ++ (v_f_X5_drift ++ (v_f_X5_isQuietDrift ++ ([]))))
theorem gw_f_X5_isQuietWith : v_f_X5_isQuietWith.all goodWord = true := by decide +kernel
theorem g_f_X5_isQuietWith_f_X5_drift_72 : GoodIn v_f_X5_isQuietWith (wsV RX5 72 RX5 yX5_drift v_f_X5_drift) := goodIn_app (goodIn_of _ (by decide +kernel)) (goodIn_sub (fun _ h => List.mem_cons_of_mem _ (List.mem_append_right _ (List.mem_append_left _ h))) gw_f_X5_drift)
theorem g_f_X5_isQuietWith_f_X5_isQuietDrift_87 : GoodIn v_f_X5_isQuietWith (wsV RX5 87 RX5 yX5_isQuietDrift v_f_X5_isQuietDrift) := goodIn_app (goodIn_of _ (by decide +kernel)) (goodIn_sub (fun _ h => List.mem_cons_of_mem _ (List.mem_append_right _ (List.mem_append_right _ (List.mem_append_left _ h)))) gw_f_X5_isQuietDrift)
theorem hd_X5_isQuietWith : yX5_isQuietWith.cls = RX5 ∧ yX5_isQuietWith.cls ≠ "java/lang/invoke/MethodHandle" ∧ yX5_isQuietWith.cls ≠ "java/lang/invoke/VarHandle" ∧ (parseMethodDescriptor yX5_isQuietWith.desc).map (fun d => d.parameters.length) = some 3 := by decide +kernel
set_option maxHeartbeats 4000000 in
set_option maxRecDepth 100000 in
theorem f_X5_isQuietWith (l : Launch) (E : EE) {a_ a_row a_partners a_share a_leftOver : Nat} {p1 : Int32} {p2 : Int32} {p3 : Int32} {c_askedCount : Int32} {c_outcome : Int32} {c_row : Nat → Int32} {rr : Int32} (hF : F_X5_isQuietWith p1 p2 p3 c_row = some rr) : Met l yX5_isQuietWith v_f_X5_isQuietWith (({ frames := 2, cells := 0, slots := 0, locals := 50 } : Room)) (va_Pc [.ref a_, .int p1, .int p2, .int p3] (pP E (w_X5_isQuietWith E a_ a_row a_partners a_share a_leftOver c_askedCount c_outcome c_row))) (vp_Si (fun q : Int32 => q = rr ∧ (q = 0 ∨ q = 1))) 0 0 (fun _ => False) := by
  refine Met.ofW (cc := cX5_isQuietWith) (maxL := 4) (ret := (some .boolean)) (by decide) rfl ?_
  intro p e s m args below meth c s₁ B hml hv
  obtain ⟨rfl, ⟨hK, hN⟩, hP⟩ := hv
  have hx := B.exec
  have hb := B.bytes
  have hr := B.returns
  have hts := atoms_spec (ws := v_f_X5_isQuietWith) B.pre
  have hown : s.vm.findClass RX5 = some m.cls := own_of hd_X5_isQuietWith.1 (findClass_of_methodNamed B.named)
  have hlocks : meth.locks = false := B.notSynchronized
  replace hP : va_P E.1 vwCl [(a_, .inr (6, [.ref a_row, .ref a_partners, .int c_askedCount, .int c_outcome, .ref a_share, .ref a_leftOver])), (a_row, .inl (E.2.1, 81, .inl c_row))] s.heap := hP
  have hl := lv_entry ([.ref a_, .int p1, .int p2, .int p3]) (n := 4) (Nat.le_of_ble_eq_true rfl)
  rw [lg_entry_eq]
  generalize (lg_sl ([.ref a_, .int p1, .int p2, .int p3]) ++ List.replicate (4 - (lg_sl ([.ref a_, .int p1, .int p2, .int p3])).length) Slot.unset).toArray = ls at hl ⊢
  have hl : lv_has ls 4 [(0, .ref a_), (1, .int p1), (2, .int p2), (3, .int p3)] := hl
  obtain ⟨Q, hQ⟩ : ∃ Q : State → Prop, Q = MQ below (vp_Si (fun q : Int32 => q = rr ∧ (q = 0 ∨ q = 1))) #[Value.ref a_, Value.int p1, Value.int p2, Value.int p3] s 0 0 (fun _ => False) := ⟨_, rfl⟩
  rw [← hQ]
  change W p l e ({ frames := 2, cells := 0, slots := 0, locals := 50 } : Room) s m #[Value.ref a_, Value.int p1, Value.int p2, Value.int p3] below meth c s.heap [] 0 0 Q (F0 m 0 ls [])
  unfold F_X5_isQuietWith at hF
  refine lv_aload_n hx hb dX5_isQuietWith_0 rfl (lv_at hl 0 rfl) ?_
  refine lv_aload_n hx hb dX5_isQuietWith_1 rfl (lv_at hl 0 rfl) ?_
  refine lv_iload_n hx hb dX5_isQuietWith_2 rfl (lv_at hl 1 rfl) ?_
  refine lv_iconst (v := 0) hx hb dX5_isQuietWith_3 (by decide) ?_
  replace hF := bd1_s hF
  obtain ⟨r_1, hc_2, hF⟩ := hF
  have hPc : va_P E.1 vwCl (w_X5_drift E a_ a_row a_partners a_share a_leftOver c_askedCount c_outcome c_row) s.heap := hP.sub (ws' := [(a_, .inr (6, [.ref a_row, .ref a_partners, .int c_askedCount, .int c_outcome, .ref a_share, .ref a_leftOver])), (a_row, .inl (E.2.1, 81, .inl c_row))]) [0, 1] rfl
  have hrc := va_recv hK hPc (ci := 6) (q0 := 0) rfl rfl
  refine pE_i (va_runV (As := [.int p1, .int (0 : Int32)]) (rest := [.ref a_])  ⟨hx, hb, hml, hown, hts⟩ (f_X5_drift l E (a_ := a_) (a_row := a_row) (a_partners := a_partners) (a_share := a_share) (a_leftOver := a_leftOver) (p1 := p1) (p2 := (0 : Int32)) (c_askedCount := c_askedCount) (c_outcome := c_outcome) (c_row := c_row) hc_2) (cwV 2 hts g_f_X5_isQuietWith_f_X5_drift_72 rfl rfl rfl hd_X5_drift ⟨Nat.le_of_ble_eq_true rfl, Nat.le_of_ble_eq_true rfl⟩) ⟨pP.blind, hrc, (pP.pre ⟨hK, hN⟩ hPc)⟩ rfl rfl hl.1 rfl (lv_room (Nat.le_of_ble_eq_true rfl)) dX5_isQuietWith_4 ⟨Nat.le_of_ble_eq_true rfl, Nat.le_of_ble_eq_true rfl⟩) ?_
  refine lv_iload_n hx hb dX5_isQuietWith_7 rfl (lv_at hl 2 rfl) ?_
  refine lv_iadd hx hb dX5_isQuietWith_8 ?_
  refine lv_aload_n hx hb dX5_isQuietWith_9 rfl (lv_at hl 0 rfl) ?_
  refine lv_iload_n hx hb dX5_isQuietWith_10 rfl (lv_at hl 1 rfl) ?_
  refine lv_iconst (v := 1) hx hb dX5_isQuietWith_11 (by decide) ?_
  replace hF := bd1_s hF
  obtain ⟨r_3, hc_4, hF⟩ := hF
  have hPc : va_P E.1 vwCl (w_X5_drift E a_ a_row a_partners a_share a_leftOver c_askedCount c_outcome c_row) s.heap := hP.sub (ws' := [(a_, .inr (6, [.ref a_row, .ref a_partners, .int c_askedCount, .int c_outcome, .ref a_share, .ref a_leftOver])), (a_row, .inl (E.2.1, 81, .inl c_row))]) [0, 1] rfl
  have hrc := va_recv hK hPc (ci := 6) (q0 := 0) rfl rfl
  refine pE_i (va_runV (As := [.int p1, .int (1 : Int32)]) (rest := [.int (r_1 + p2), .ref a_])  ⟨hx, hb, hml, hown, hts⟩ (f_X5_drift l E (a_ := a_) (a_row := a_row) (a_partners := a_partners) (a_share := a_share) (a_leftOver := a_leftOver) (p1 := p1) (p2 := (1 : Int32)) (c_askedCount := c_askedCount) (c_outcome := c_outcome) (c_row := c_row) hc_4) (cwV 2 hts g_f_X5_isQuietWith_f_X5_drift_72 rfl rfl rfl hd_X5_drift ⟨Nat.le_of_ble_eq_true rfl, Nat.le_of_ble_eq_true rfl⟩) ⟨pP.blind, hrc, (pP.pre ⟨hK, hN⟩ hPc)⟩ rfl rfl hl.1 rfl (lv_room (Nat.le_of_ble_eq_true rfl)) dX5_isQuietWith_12 ⟨Nat.le_of_ble_eq_true rfl, Nat.le_of_ble_eq_true rfl⟩) ?_
  refine lv_iload_n hx hb dX5_isQuietWith_15 rfl (lv_at hl 3 rfl) ?_
  refine lv_iadd hx hb dX5_isQuietWith_16 ?_
  replace hF := bd1_s hF
  obtain ⟨r_5, hc_6, hF⟩ := hF
  have hPc : va_P E.1 vwCl (w_X5_isQuietDrift E a_ a_row a_partners a_share a_leftOver c_askedCount c_outcome c_row) s.heap := hP.sub (ws' := [(a_, .inr (6, [.ref a_row, .ref a_partners, .int c_askedCount, .int c_outcome, .ref a_share, .ref a_leftOver])), (a_row, .inl (E.2.1, 81, .inl c_row))]) [0, 1] rfl
  have hrc := va_recv hK hPc (ci := 6) (q0 := 0) rfl rfl
  refine pE_z (va_runV (As := [.int (r_1 + p2), .int (r_3 + p3)]) (rest := [])  ⟨hx, hb, hml, hown, hts⟩ (f_X5_isQuietDrift l E (a_ := a_) (a_row := a_row) (a_partners := a_partners) (a_share := a_share) (a_leftOver := a_leftOver) (p1 := r_1 + p2) (p2 := r_3 + p3) (c_askedCount := c_askedCount) (c_outcome := c_outcome) (c_row := c_row) hc_6) (cwV 2 hts g_f_X5_isQuietWith_f_X5_isQuietDrift_87 rfl rfl rfl hd_X5_isQuietDrift ⟨Nat.le_of_ble_eq_true rfl, Nat.le_of_ble_eq_true rfl⟩) ⟨pP.blind, hrc, (pP.pre ⟨hK, hN⟩ hPc)⟩ rfl rfl hl.1 rfl (lv_room (Nat.le_of_ble_eq_true rfl)) dX5_isQuietWith_17 ⟨Nat.le_of_ble_eq_true rfl, Nat.le_of_ble_eq_true rfl⟩) (fun hb_7 => ?_)
  rw [hQ]
  obtain e9_0 := inj1 hF
  exact W.zret (v := r_5) hx hb hr (nar_bool hb_7) (fun tt ht hW => ⟨_, rfl, ⟨e9_0, hb_7⟩, ht⟩) (fun _ h => by cases h) dX5_isQuietWith_20

def F_X7_isMovable (p0 : Int32) (p1 : Int32) : Option (Int32) :=
  if p0 < (-9999 : Int32) then some (0 : Int32) else if (9999 : Int32) < p0 then some (0 : Int32) else if p1 < (-9999 : Int32) then some (0 : Int32) else if (9999 : Int32) < p1 then some (0 : Int32) else some (1 : Int32)

def v_f_X7_isMovable : List Cond := .code yX7_isMovable cX7_isMovable 2 (some .boolean) :: ([] ++ ([]))
theorem gw_f_X7_isMovable : v_f_X7_isMovable.all goodWord = true := by decide +kernel
theorem hd_X7_isMovable : yX7_isMovable.cls = RX7 ∧ yX7_isMovable.cls ≠ "java/lang/invoke/MethodHandle" ∧ yX7_isMovable.cls ≠ "java/lang/invoke/VarHandle" ∧ (parseMethodDescriptor yX7_isMovable.desc).map (fun d => d.parameters.length) = some 2 := by decide +kernel
set_option maxHeartbeats 4000000 in
set_option maxRecDepth 100000 in
theorem f_X7_isMovable (l : Launch) (E : EE) {p0 : Int32} {p1 : Int32} {rr : Int32} (hF : F_X7_isMovable p0 p1 = some rr) : Met l yX7_isMovable v_f_X7_isMovable (({ frames := 0, cells := 0, slots := 0, locals := 0 } : Room)) (va_Pc [.int p0, .int p1] (pP E [])) (vp_Si (fun q : Int32 => q = rr ∧ (q = 0 ∨ q = 1))) 0 0 (fun _ => False) := by
  refine Met.ofW (cc := cX7_isMovable) (maxL := 2) (ret := (some .boolean)) (by decide) rfl ?_
  intro p e s m args below meth c s₁ B hml hv
  obtain ⟨rfl, ⟨hK, hN⟩, hP⟩ := hv
  have hx := B.exec
  have hb := B.bytes
  have hr := B.returns
  have hts := atoms_spec (ws := v_f_X7_isMovable) B.pre
  have hown : s.vm.findClass RX7 = some m.cls := own_of hd_X7_isMovable.1 (findClass_of_methodNamed B.named)
  have hlocks : meth.locks = false := B.notSynchronized
  replace hP : va_P E.1 vwCl [] s.heap := hP
  have hl := lv_entry ([.int p0, .int p1]) (n := 2) (Nat.le_of_ble_eq_true rfl)
  rw [lg_entry_eq]
  generalize (lg_sl ([.int p0, .int p1]) ++ List.replicate (2 - (lg_sl ([.int p0, .int p1])).length) Slot.unset).toArray = ls at hl ⊢
  have hl : lv_has ls 2 [(0, .int p0), (1, .int p1)] := hl
  obtain ⟨Q, hQ⟩ : ∃ Q : State → Prop, Q = MQ below (vp_Si (fun q : Int32 => q = rr ∧ (q = 0 ∨ q = 1))) #[Value.int p0, Value.int p1] s 0 0 (fun _ => False) := ⟨_, rfl⟩
  rw [← hQ]
  change W p l e ({ frames := 0, cells := 0, slots := 0, locals := 0 } : Room) s m #[Value.int p0, Value.int p1] below meth c s.heap [] 0 0 Q (F0 m 0 ls [])
  unfold F_X7_isMovable at hF
  refine lv_iload_n hx hb dX7_isMovable_0 rfl (lv_at hl 0 rfl) ?_
  refine lv_sipush (v := -9999) hx hb dX7_isMovable_1 (by decide) ?_
  refine lv_icmp_lt (tgt := 32) hx hb dX7_isMovable_4 (by decide) (fun c_1 => ?_) (fun c_1 => ?_)
  ·
    replace hF := ip c_1 hF
    refine lv_iconst (v := 0) hx hb dX7_isMovable_32 (by decide) ?_
    rw [hQ]
    obtain e9_0 := inj1 hF
    exact W.zret (v := (0 : Int32)) hx hb hr rfl (fun tt ht hW => ⟨_, rfl, ⟨e9_0, Or.inl rfl⟩, ht⟩) (fun _ h => by cases h) dX7_isMovable_33
  ·
    replace hF := inn c_1 hF
    refine lv_iload_n hx hb dX7_isMovable_7 rfl (lv_at hl 0 rfl) ?_
    refine lv_sipush (v := 9999) hx hb dX7_isMovable_8 (by decide) ?_
    refine lv_icmp_gt (tgt := 32) hx hb dX7_isMovable_11 (by decide) (fun c_2 => ?_) (fun c_2 => ?_)
    ·
      replace hF := ip c_2 hF
      refine lv_iconst (v := 0) hx hb dX7_isMovable_32 (by decide) ?_
      rw [hQ]
      obtain e9_0 := inj1 hF
      exact W.zret (v := (0 : Int32)) hx hb hr rfl (fun tt ht hW => ⟨_, rfl, ⟨e9_0, Or.inl rfl⟩, ht⟩) (fun _ h => by cases h) dX7_isMovable_33
    ·
      replace hF := inn c_2 hF
      refine lv_iload_n hx hb dX7_isMovable_14 rfl (lv_at hl 1 rfl) ?_
      refine lv_sipush (v := -9999) hx hb dX7_isMovable_15 (by decide) ?_
      refine lv_icmp_lt (tgt := 32) hx hb dX7_isMovable_18 (by decide) (fun c_3 => ?_) (fun c_3 => ?_)
      ·
        replace hF := ip c_3 hF
        refine lv_iconst (v := 0) hx hb dX7_isMovable_32 (by decide) ?_
        rw [hQ]
        obtain e9_0 := inj1 hF
        exact W.zret (v := (0 : Int32)) hx hb hr rfl (fun tt ht hW => ⟨_, rfl, ⟨e9_0, Or.inl rfl⟩, ht⟩) (fun _ h => by cases h) dX7_isMovable_33
      ·
        replace hF := inn c_3 hF
        refine lv_iload_n hx hb dX7_isMovable_21 rfl (lv_at hl 1 rfl) ?_
        refine lv_sipush (v := 9999) hx hb dX7_isMovable_22 (by decide) ?_
        refine lv_icmp_gt (tgt := 32) hx hb dX7_isMovable_25 (by decide) (fun c_4 => ?_) (fun c_4 => ?_)
        ·
          replace hF := ip c_4 hF
          refine lv_iconst (v := 0) hx hb dX7_isMovable_32 (by decide) ?_
          rw [hQ]
          obtain e9_0 := inj1 hF
          exact W.zret (v := (0 : Int32)) hx hb hr rfl (fun tt ht hW => ⟨_, rfl, ⟨e9_0, Or.inl rfl⟩, ht⟩) (fun _ h => by cases h) dX7_isMovable_33
        ·
          replace hF := inn c_4 hF
          refine lv_iconst (v := 1) hx hb dX7_isMovable_28 (by decide) ?_
          refine lv_goto (tgt := 33) hx hb dX7_isMovable_29 (by decide) ?_
          rw [hQ]
          obtain e9_0 := inj1 hF
          exact W.zret (v := (1 : Int32)) hx hb hr rfl (fun tt ht hW => ⟨_, rfl, ⟨e9_0, Or.inr rfl⟩, ht⟩) (fun _ h => by cases h) dX7_isMovable_33

def F_X5_moveRefusal (p1 : Int32) (p2 : Int32) (p3 : Int32) (c_row : Nat → Int32) : Option (Int32) :=
  bd1 (F_X5_hasSite p1 c_row) (fun r_1 => if r_1 = (0 : Int32) then some (0 : Int32) else bd1 (F_X7_isMovable p2 p3) (fun r_5 => if r_5 = (0 : Int32) then some (1 : Int32) else bd1 (F_X5_hasRoom p1 p2 p3 c_row) (fun r_9 => if r_9 = (0 : Int32) then some (1 : Int32) else if p2 = (0 : Int32) then if p3 = (0 : Int32) then some (2 : Int32) else bd1 (F_X5_isFrozen p1 c_row) (fun r_19 => if r_19 = (0 : Int32) then some (-1 : Int32) else some (2 : Int32)) else bd1 (F_X5_isFrozen p1 c_row) (fun r_14 => if r_14 = (0 : Int32) then some (-1 : Int32) else some (2 : Int32)))))
abbrev w_X5_moveRefusal (E : EE) (a_ a_row a_partners a_share a_leftOver : Nat) (c_askedCount : Int32) (c_outcome : Int32) (c_row : Nat → Int32) : va_W := [(a_, .inr (6, [.ref a_row, .ref a_partners, .int c_askedCount, .int c_outcome, .ref a_share, .ref a_leftOver])), (a_row, .inl (E.2.1, 81, .inl c_row))]
def v_f_X5_moveRefusal : List Cond := .code yX5_moveRefusal cX5_moveRefusal 4 (some .int) :: ([.initialized RX7, .static yX7_isMovable, .methodLink RX5 79 yX5_hasSite, .instanceMethod yX5_hasSite, .selects RX5 yX5_hasSite yX5_hasSite, .initialized RX5, .methodLink RX5 127 yX5_hasRoom, .instanceMethod yX5_hasRoom, .selects RX5 yX5_hasRoom yX5_hasRoom, .methodLink RX5 131 yX5_isFrozen, .instanceMethod yX5_isFrozen, .selects RX5 yX5_isFrozen yX5_isFrozen] ++ (v_f_X5_hasSite ++ (v_f_X7_isMovable ++ (v_f_X5_hasRoom ++ (v_f_X5_isFrozen ++ ([]))))))
theorem gw_f_X5_moveRefusal : v_f_X5_moveRefusal.all goodWord = true := by decide +kernel
theorem g_f_X5_moveRefusal_f_X5_hasSite_79 : GoodIn v_f_X5_moveRefusal (wsV RX5 79 RX5 yX5_hasSite v_f_X5_hasSite) := goodIn_app (goodIn_of _ (by decide +kernel)) (goodIn_sub (fun _ h => List.mem_cons_of_mem _ (List.mem_append_right _ (List.mem_append_left _ h))) gw_f_X5_hasSite)
theorem g_f_X5_moveRefusal_f_X7_isMovable_124 : GoodIn v_f_X5_moveRefusal v_f_X7_isMovable := goodIn_sub (fun _ h => List.mem_cons_of_mem _ (List.mem_append_right _ (List.mem_append_right _ (List.mem_append_left _ h)))) gw_f_X7_isMovable
theorem g_f_X5_moveRefusal_f_X5_hasRoom_127 : GoodIn v_f_X5_moveRefusal (wsV RX5 127 RX5 yX5_hasRoom v_f_X5_hasRoom) := goodIn_app (goodIn_of _ (by decide +kernel)) (goodIn_sub (fun _ h => List.mem_cons_of_mem _ (List.mem_append_right _ (List.mem_append_right _ (List.mem_append_right _ (List.mem_append_left _ h))))) gw_f_X5_hasRoom)
theorem g_f_X5_moveRefusal_f_X5_isFrozen_131 : GoodIn v_f_X5_moveRefusal (wsV RX5 131 RX5 yX5_isFrozen v_f_X5_isFrozen) := goodIn_app (goodIn_of _ (by decide +kernel)) (goodIn_sub (fun _ h => List.mem_cons_of_mem _ (List.mem_append_right _ (List.mem_append_right _ (List.mem_append_right _ (List.mem_append_right _ (List.mem_append_left _ h)))))) gw_f_X5_isFrozen)
theorem hd_X5_moveRefusal : yX5_moveRefusal.cls = RX5 ∧ yX5_moveRefusal.cls ≠ "java/lang/invoke/MethodHandle" ∧ yX5_moveRefusal.cls ≠ "java/lang/invoke/VarHandle" ∧ (parseMethodDescriptor yX5_moveRefusal.desc).map (fun d => d.parameters.length) = some 3 := by decide +kernel
set_option maxHeartbeats 4000000 in
set_option maxRecDepth 100000 in
theorem f_X5_moveRefusal (l : Launch) (E : EE) {a_ a_row a_partners a_share a_leftOver : Nat} {p1 : Int32} {p2 : Int32} {p3 : Int32} {c_askedCount : Int32} {c_outcome : Int32} {c_row : Nat → Int32} {rr : Int32} (hF : F_X5_moveRefusal p1 p2 p3 c_row = some rr) : Met l yX5_moveRefusal v_f_X5_moveRefusal (({ frames := 2, cells := 0, slots := 0, locals := 45 } : Room)) (va_Pc [.ref a_, .int p1, .int p2, .int p3] (pP E (w_X5_moveRefusal E a_ a_row a_partners a_share a_leftOver c_askedCount c_outcome c_row))) (vp_Si (fun q : Int32 => q = rr)) 0 0 (fun _ => False) := by
  refine Met.ofW (cc := cX5_moveRefusal) (maxL := 4) (ret := (some .int)) (by decide) rfl ?_
  intro p e s m args below meth c s₁ B hml hv
  obtain ⟨rfl, ⟨hK, hN⟩, hP⟩ := hv
  have hx := B.exec
  have hb := B.bytes
  have hr := B.returns
  have hts := atoms_spec (ws := v_f_X5_moveRefusal) B.pre
  have hown : s.vm.findClass RX5 = some m.cls := own_of hd_X5_moveRefusal.1 (findClass_of_methodNamed B.named)
  have hlocks : meth.locks = false := B.notSynchronized
  replace hP : va_P E.1 vwCl [(a_, .inr (6, [.ref a_row, .ref a_partners, .int c_askedCount, .int c_outcome, .ref a_share, .ref a_leftOver])), (a_row, .inl (E.2.1, 81, .inl c_row))] s.heap := hP
  have hl := lv_entry ([.ref a_, .int p1, .int p2, .int p3]) (n := 4) (Nat.le_of_ble_eq_true rfl)
  rw [lg_entry_eq]
  generalize (lg_sl ([.ref a_, .int p1, .int p2, .int p3]) ++ List.replicate (4 - (lg_sl ([.ref a_, .int p1, .int p2, .int p3])).length) Slot.unset).toArray = ls at hl ⊢
  have hl : lv_has ls 4 [(0, .ref a_), (1, .int p1), (2, .int p2), (3, .int p3)] := hl
  obtain ⟨Q, hQ⟩ : ∃ Q : State → Prop, Q = MQ below (vp_Si (fun q : Int32 => q = rr)) #[Value.ref a_, Value.int p1, Value.int p2, Value.int p3] s 0 0 (fun _ => False) := ⟨_, rfl⟩
  rw [← hQ]
  change W p l e ({ frames := 2, cells := 0, slots := 0, locals := 45 } : Room) s m #[Value.ref a_, Value.int p1, Value.int p2, Value.int p3] below meth c s.heap [] 0 0 Q (F0 m 0 ls [])
  unfold F_X5_moveRefusal at hF
  refine lv_aload_n hx hb dX5_moveRefusal_0 rfl (lv_at hl 0 rfl) ?_
  refine lv_iload_n hx hb dX5_moveRefusal_1 rfl (lv_at hl 1 rfl) ?_
  replace hF := bd1_s hF
  obtain ⟨r_1, hc_2, hF⟩ := hF
  have hPc : va_P E.1 vwCl (w_X5_hasSite E a_ a_row a_partners a_share a_leftOver c_askedCount c_outcome c_row) s.heap := hP.sub (ws' := [(a_, .inr (6, [.ref a_row, .ref a_partners, .int c_askedCount, .int c_outcome, .ref a_share, .ref a_leftOver])), (a_row, .inl (E.2.1, 81, .inl c_row))]) [0, 1] rfl
  have hrc := va_recv hK hPc (ci := 6) (q0 := 0) rfl rfl
  refine pE_z (va_runV (As := [.int p1]) (rest := [])  ⟨hx, hb, hml, hown, hts⟩ (f_X5_hasSite l E (a_ := a_) (a_row := a_row) (a_partners := a_partners) (a_share := a_share) (a_leftOver := a_leftOver) (p1 := p1) (c_askedCount := c_askedCount) (c_outcome := c_outcome) (c_row := c_row) hc_2) (cwV 1 hts g_f_X5_moveRefusal_f_X5_hasSite_79 rfl rfl rfl hd_X5_hasSite ⟨Nat.le_of_ble_eq_true rfl, Nat.le_of_ble_eq_true rfl⟩) ⟨pP.blind, hrc, (pP.pre ⟨hK, hN⟩ hPc)⟩ rfl rfl hl.1 rfl (lv_room (Nat.le_of_ble_eq_true rfl)) dX5_moveRefusal_2 ⟨Nat.le_of_ble_eq_true rfl, Nat.le_of_ble_eq_true rfl⟩) (fun hb_3 => ?_)
  refine lv_if_ne (tgt := 10) hx hb dX5_moveRefusal_5 (by decide) (fun c_4 => ?_) (fun c_4 => ?_)
  ·
    replace hF := inn c_4 hF
    refine lv_iload_n hx hb dX5_moveRefusal_10 rfl (lv_at hl 2 rfl) ?_
    refine lv_iload_n hx hb dX5_moveRefusal_11 rfl (lv_at hl 3 rfl) ?_
    replace hF := bd1_s hF
    obtain ⟨r_5, hc_6, hF⟩ := hF
    have hPc : va_P E.1 vwCl [] s.heap := fun k q h => by simp at h
    refine pE_z (va_runSN (As := [.int p2, .int p3]) (rest := [])  ⟨hx, hb, hml, hown, hts⟩ (f_X7_isMovable l E (p0 := p2) (p1 := p3) hc_6) ⟨va_cnB 2 hts g_f_X5_moveRefusal_f_X7_isMovable_124 rfl rfl rfl (hN _ (List.mem_of_getElem? (i := 26) rfl)) (hts (.initialized RX7) (List.mem_of_getElem? (i := 1) rfl)) hd_X7_isMovable.2 ⟨Nat.le_of_ble_eq_true rfl, Nat.le_of_ble_eq_true rfl⟩, (hts (.static yX7_isMovable) (List.mem_of_getElem? (i := 2) rfl)), trivial⟩ ⟨pP.blind, (pP.pre ⟨hK, hN⟩ hPc)⟩ rfl rfl hl.1 rfl (lv_room (Nat.le_of_ble_eq_true rfl)) dX5_moveRefusal_12 ⟨Nat.le_of_ble_eq_true rfl, Nat.le_of_ble_eq_true rfl⟩) (fun hb_7 => ?_)
    refine lv_if_eq (tgt := 28) hx hb dX5_moveRefusal_15 (by decide) (fun c_8 => ?_) (fun c_8 => ?_)
    ·
      replace hF := ip c_8 hF
      refine lv_iconst (v := 1) hx hb dX5_moveRefusal_28 (by decide) ?_
      rw [hQ]
      obtain e9_0 := inj1 hF
      exact W.iret (v := (1 : Int32)) hx hb hr (fun tt ht hW => ⟨_, rfl, e9_0, ht⟩) (fun _ h => by cases h) dX5_moveRefusal_29
    ·
      replace hF := inn c_8 hF
      refine lv_aload_n hx hb dX5_moveRefusal_18 rfl (lv_at hl 0 rfl) ?_
      refine lv_iload_n hx hb dX5_moveRefusal_19 rfl (lv_at hl 1 rfl) ?_
      refine lv_iload_n hx hb dX5_moveRefusal_20 rfl (lv_at hl 2 rfl) ?_
      refine lv_iload_n hx hb dX5_moveRefusal_21 rfl (lv_at hl 3 rfl) ?_
      replace hF := bd1_s hF
      obtain ⟨r_9, hc_10, hF⟩ := hF
      have hPc : va_P E.1 vwCl (w_X5_hasRoom E a_ a_row a_partners a_share a_leftOver c_askedCount c_outcome c_row) s.heap := hP.sub (ws' := [(a_, .inr (6, [.ref a_row, .ref a_partners, .int c_askedCount, .int c_outcome, .ref a_share, .ref a_leftOver])), (a_row, .inl (E.2.1, 81, .inl c_row))]) [0, 1] rfl
      have hrc := va_recv hK hPc (ci := 6) (q0 := 0) rfl rfl
      refine pE_z (va_runV (As := [.int p1, .int p2, .int p3]) (rest := [])  ⟨hx, hb, hml, hown, hts⟩ (f_X5_hasRoom l E (a_ := a_) (a_row := a_row) (a_partners := a_partners) (a_share := a_share) (a_leftOver := a_leftOver) (p1 := p1) (p2 := p2) (p3 := p3) (c_askedCount := c_askedCount) (c_outcome := c_outcome) (c_row := c_row) hc_10) (cwV 3 hts g_f_X5_moveRefusal_f_X5_hasRoom_127 rfl rfl rfl hd_X5_hasRoom ⟨Nat.le_of_ble_eq_true rfl, Nat.le_of_ble_eq_true rfl⟩) ⟨pP.blind, hrc, (pP.pre ⟨hK, hN⟩ hPc)⟩ rfl rfl hl.1 rfl (lv_room (Nat.le_of_ble_eq_true rfl)) dX5_moveRefusal_22 ⟨Nat.le_of_ble_eq_true rfl, Nat.le_of_ble_eq_true rfl⟩) (fun hb_11 => ?_)
      refine lv_if_ne (tgt := 30) hx hb dX5_moveRefusal_25 (by decide) (fun c_12 => ?_) (fun c_12 => ?_)
      ·
        replace hF := inn c_12 hF
        refine lv_iload_n hx hb dX5_moveRefusal_30 rfl (lv_at hl 2 rfl) ?_
        refine lv_if_ne (tgt := 38) hx hb dX5_moveRefusal_31 (by decide) (fun c_13 => ?_) (fun c_13 => ?_)
        ·
          replace hF := inn c_13 hF
          refine lv_aload_n hx hb dX5_moveRefusal_38 rfl (lv_at hl 0 rfl) ?_
          refine lv_iload_n hx hb dX5_moveRefusal_39 rfl (lv_at hl 1 rfl) ?_
          replace hF := bd1_s hF
          obtain ⟨r_14, hc_15, hF⟩ := hF
          have hPc : va_P E.1 vwCl (w_X5_isFrozen E a_ a_row a_partners a_share a_leftOver c_askedCount c_outcome c_row) s.heap := hP.sub (ws' := [(a_, .inr (6, [.ref a_row, .ref a_partners, .int c_askedCount, .int c_outcome, .ref a_share, .ref a_leftOver])), (a_row, .inl (E.2.1, 81, .inl c_row))]) [0, 1] rfl
          have hrc := va_recv hK hPc (ci := 6) (q0 := 0) rfl rfl
          refine pE_z (va_runV (As := [.int p1]) (rest := [])  ⟨hx, hb, hml, hown, hts⟩ (f_X5_isFrozen l E (a_ := a_) (a_row := a_row) (a_partners := a_partners) (a_share := a_share) (a_leftOver := a_leftOver) (p1 := p1) (c_askedCount := c_askedCount) (c_outcome := c_outcome) (c_row := c_row) hc_15) (cwV 1 hts g_f_X5_moveRefusal_f_X5_isFrozen_131 rfl rfl rfl hd_X5_isFrozen ⟨Nat.le_of_ble_eq_true rfl, Nat.le_of_ble_eq_true rfl⟩) ⟨pP.blind, hrc, (pP.pre ⟨hK, hN⟩ hPc)⟩ rfl rfl hl.1 rfl (lv_room (Nat.le_of_ble_eq_true rfl)) dX5_moveRefusal_40 ⟨Nat.le_of_ble_eq_true rfl, Nat.le_of_ble_eq_true rfl⟩) (fun hb_16 => ?_)
          refine lv_if_eq (tgt := 50) hx hb dX5_moveRefusal_43 (by decide) (fun c_17 => ?_) (fun c_17 => ?_)
          ·
            replace hF := ip c_17 hF
            refine lv_iconst (v := -1) hx hb dX5_moveRefusal_50 (by decide) ?_
            rw [hQ]
            obtain e9_0 := inj1 hF
            exact W.iret (v := (-1 : Int32)) hx hb hr (fun tt ht hW => ⟨_, rfl, e9_0, ht⟩) (fun _ h => by cases h) dX5_moveRefusal_51
          ·
            replace hF := inn c_17 hF
            refine lv_iconst (v := 2) hx hb dX5_moveRefusal_46 (by decide) ?_
            refine lv_goto (tgt := 51) hx hb dX5_moveRefusal_47 (by decide) ?_
            rw [hQ]
            obtain e9_0 := inj1 hF
            exact W.iret (v := (2 : Int32)) hx hb hr (fun tt ht hW => ⟨_, rfl, e9_0, ht⟩) (fun _ h => by cases h) dX5_moveRefusal_51
        ·
          replace hF := ip c_13 hF
          refine lv_iload_n hx hb dX5_moveRefusal_34 rfl (lv_at hl 3 rfl) ?_
          refine lv_if_eq (tgt := 46) hx hb dX5_moveRefusal_35 (by decide) (fun c_18 => ?_) (fun c_18 => ?_)
          ·
            replace hF := ip c_18 hF
            refine lv_iconst (v := 2) hx hb dX5_moveRefusal_46 (by decide) ?_
            refine lv_goto (tgt := 51) hx hb dX5_moveRefusal_47 (by decide) ?_
            rw [hQ]
            obtain e9_0 := inj1 hF
            exact W.iret (v := (2 : Int32)) hx hb hr (fun tt ht hW => ⟨_, rfl, e9_0, ht⟩) (fun _ h => by cases h) dX5_moveRefusal_51
          ·
            replace hF := inn c_18 hF
            refine lv_aload_n hx hb dX5_moveRefusal_38 rfl (lv_at hl 0 rfl) ?_
            refine lv_iload_n hx hb dX5_moveRefusal_39 rfl (lv_at hl 1 rfl) ?_
            replace hF := bd1_s hF
            obtain ⟨r_19, hc_20, hF⟩ := hF
            have hPc : va_P E.1 vwCl (w_X5_isFrozen E a_ a_row a_partners a_share a_leftOver c_askedCount c_outcome c_row) s.heap := hP.sub (ws' := [(a_, .inr (6, [.ref a_row, .ref a_partners, .int c_askedCount, .int c_outcome, .ref a_share, .ref a_leftOver])), (a_row, .inl (E.2.1, 81, .inl c_row))]) [0, 1] rfl
            have hrc := va_recv hK hPc (ci := 6) (q0 := 0) rfl rfl
            refine pE_z (va_runV (As := [.int p1]) (rest := [])  ⟨hx, hb, hml, hown, hts⟩ (f_X5_isFrozen l E (a_ := a_) (a_row := a_row) (a_partners := a_partners) (a_share := a_share) (a_leftOver := a_leftOver) (p1 := p1) (c_askedCount := c_askedCount) (c_outcome := c_outcome) (c_row := c_row) hc_20) (cwV 1 hts g_f_X5_moveRefusal_f_X5_isFrozen_131 rfl rfl rfl hd_X5_isFrozen ⟨Nat.le_of_ble_eq_true rfl, Nat.le_of_ble_eq_true rfl⟩) ⟨pP.blind, hrc, (pP.pre ⟨hK, hN⟩ hPc)⟩ rfl rfl hl.1 rfl (lv_room (Nat.le_of_ble_eq_true rfl)) dX5_moveRefusal_40 ⟨Nat.le_of_ble_eq_true rfl, Nat.le_of_ble_eq_true rfl⟩) (fun hb_21 => ?_)
            refine lv_if_eq (tgt := 50) hx hb dX5_moveRefusal_43 (by decide) (fun c_22 => ?_) (fun c_22 => ?_)
            ·
              replace hF := ip c_22 hF
              refine lv_iconst (v := -1) hx hb dX5_moveRefusal_50 (by decide) ?_
              rw [hQ]
              obtain e9_0 := inj1 hF
              exact W.iret (v := (-1 : Int32)) hx hb hr (fun tt ht hW => ⟨_, rfl, e9_0, ht⟩) (fun _ h => by cases h) dX5_moveRefusal_51
            ·
              replace hF := inn c_22 hF
              refine lv_iconst (v := 2) hx hb dX5_moveRefusal_46 (by decide) ?_
              refine lv_goto (tgt := 51) hx hb dX5_moveRefusal_47 (by decide) ?_
              rw [hQ]
              obtain e9_0 := inj1 hF
              exact W.iret (v := (2 : Int32)) hx hb hr (fun tt ht hW => ⟨_, rfl, e9_0, ht⟩) (fun _ h => by cases h) dX5_moveRefusal_51
      ·
        replace hF := ip c_12 hF
        refine lv_iconst (v := 1) hx hb dX5_moveRefusal_28 (by decide) ?_
        rw [hQ]
        obtain e9_0 := inj1 hF
        exact W.iret (v := (1 : Int32)) hx hb hr (fun tt ht hW => ⟨_, rfl, e9_0, ht⟩) (fun _ h => by cases h) dX5_moveRefusal_29
  ·
    replace hF := ip c_4 hF
    refine lv_iconst (v := 0) hx hb dX5_moveRefusal_8 (by decide) ?_
    rw [hQ]
    obtain e9_0 := inj1 hF
    exact W.iret (v := (0 : Int32)) hx hb hr (fun tt ht hW => ⟨_, rfl, e9_0, ht⟩) (fun _ h => by cases h) dX5_moveRefusal_9

def J_X5_point_19 (p1 : Int32) (p2 : Int32) (c_row : Nat → Int32) (k0 : Int32) : Option (Int32) :=
  bd1 (F_X5_drift p1 p2 c_row) (fun r_2 => some (k0 + ((c_row 3) * r_2)))
def F_X5_point (p1 : Int32) (p2 : Int32) (c_row : Nat → Int32) : Option (Int32) :=
  if p2 = (0 : Int32) then J_X5_point_19 p1 p2 c_row (c_row 4) else J_X5_point_19 p1 p2 c_row (c_row 5)
abbrev w_X5_point (E : EE) (a_ a_row a_partners a_share a_leftOver : Nat) (c_askedCount : Int32) (c_outcome : Int32) (c_row : Nat → Int32) : va_W := [(a_, .inr (6, [.ref a_row, .ref a_partners, .int c_askedCount, .int c_outcome, .ref a_share, .ref a_leftOver])), (a_row, .inl (E.2.1, 81, .inl c_row))]
def v_f_X5_point : List Cond := .code yX5_point cX5_point 3 (some .int) :: ([.fieldLink RX5 11 "HushWatch$State" "row" "[I", .methodLink RX5 72 yX5_drift, .instanceMethod yX5_drift, .selects RX5 yX5_drift yX5_drift, .initialized RX5] ++ (wsX50 ++ (v_f_X5_drift ++ ([]))))
theorem gw_f_X5_point : v_f_X5_point.all goodWord = true := by decide +kernel
theorem i_f_X5_point_X5 : ∀ w ∈ wsX50, w ∈ v_f_X5_point := fun _ h => List.mem_cons_of_mem _ (List.mem_append_right _ (List.mem_append_left _ h))
theorem g_f_X5_point_f_X5_drift_72 : GoodIn v_f_X5_point (wsV RX5 72 RX5 yX5_drift v_f_X5_drift) := goodIn_app (goodIn_of _ (by decide +kernel)) (goodIn_sub (fun _ h => List.mem_cons_of_mem _ (List.mem_append_right _ (List.mem_append_right _ (List.mem_append_left _ h)))) gw_f_X5_drift)
theorem hd_X5_point : yX5_point.cls = RX5 ∧ yX5_point.cls ≠ "java/lang/invoke/MethodHandle" ∧ yX5_point.cls ≠ "java/lang/invoke/VarHandle" ∧ (parseMethodDescriptor yX5_point.desc).map (fun d => d.parameters.length) = some 2 := by decide +kernel
set_option maxHeartbeats 4000000 in
set_option maxRecDepth 100000 in
theorem j_X5_point_19 {p : Program} (l : Launch) {e : Env} {s : State} {m : MethodId} {below : List Frame} {meth : Method} {c : Code} {Q : State → Prop} (E : EE) {a_ a_row a_partners a_share a_leftOver : Nat} {p1 : Int32} {p2 : Int32} {c_askedCount : Int32} {c_outcome : Int32} {c_row : Nat → Int32} {k0 : Int32} (hx : p.tables.exec = Jvm.exec) (hb : c.code = cX5_point) (hml : c.maxLocals = 3) (hown : s.vm.findClass RX5 = some m.cls) (hts : ∀ w ∈ v_f_X5_point, w.before #[Value.ref a_, Value.int p1, Value.int p2] s = true) (hK : va_K E.1 vwCl (TY E) s) (hN : NX s) {rr : Int32} (hr : meth.sig.returnType = (some .int)) (hlocks : meth.locks = false) (hQ : Q = MQ below (vp_Si (fun q : Int32 => q = rr)) #[Value.ref a_, Value.int p1, Value.int p2] s 0 0 (fun _ => False)) (hF : J_X5_point_19 p1 p2 c_row k0 = some rr) (hP : va_P E.1 vwCl (w_X5_point E a_ a_row a_partners a_share a_leftOver c_askedCount c_outcome c_row) s.heap) : ∀ (ls : Array Slot), lv_has ls 3 [(0, .ref a_), (1, .int p1), (2, .int p2)] → W p l e ({ frames := 1, cells := 0, slots := 0, locals := 23 } : Room) s m #[Value.ref a_, Value.int p1, Value.int p2] below meth c s.heap [] 0 0 Q (F0 m 19 ls [.int k0]) := by
  unfold J_X5_point_19 at hF
  replace hP : va_P E.1 vwCl [(a_, .inr (6, [.ref a_row, .ref a_partners, .int c_askedCount, .int c_outcome, .ref a_share, .ref a_leftOver])), (a_row, .inl (E.2.1, 81, .inl c_row))] s.heap := hP
  intro ls hl
  refine lv_aload_n hx hb dX5_point_19 rfl (lv_at hl 0 rfl) ?_
  refine gt_X5_0 (v := .ref a_row) hx hb hts i_f_X5_point_X5 hown hK hP 0 rfl (hts (.fieldLink RX5 11 "HushWatch$State" "row" "[I") (List.mem_of_getElem? (i := 1) rfl)) rfl dX5_point_20 ?_
  refine lv_iconst (v := 3) hx hb dX5_point_23 (by decide) ?_
  refine va_iald hx hb hK hP 1 0 rfl rfl (vin rfl) dX5_point_24 ?_
  refine W.eq (g2 := F0 m 25 ls [.int (c_row 3), .int k0]) rfl ?_
  refine lv_aload_n hx hb dX5_point_25 rfl (lv_at hl 0 rfl) ?_
  refine lv_iload_n hx hb dX5_point_26 rfl (lv_at hl 1 rfl) ?_
  refine lv_iload_n hx hb dX5_point_27 rfl (lv_at hl 2 rfl) ?_
  replace hF := bd1_s hF
  obtain ⟨r_2, hc_3, hF⟩ := hF
  have hPc : va_P E.1 vwCl (w_X5_drift E a_ a_row a_partners a_share a_leftOver c_askedCount c_outcome c_row) s.heap := hP.sub (ws' := [(a_, .inr (6, [.ref a_row, .ref a_partners, .int c_askedCount, .int c_outcome, .ref a_share, .ref a_leftOver])), (a_row, .inl (E.2.1, 81, .inl c_row))]) [0, 1] rfl
  have hrc := va_recv hK hPc (ci := 6) (q0 := 0) rfl rfl
  refine pE_i (va_runV (As := [.int p1, .int p2]) (rest := [.int (c_row 3), .int k0])  ⟨hx, hb, hml, hown, hts⟩ (f_X5_drift l E (a_ := a_) (a_row := a_row) (a_partners := a_partners) (a_share := a_share) (a_leftOver := a_leftOver) (p1 := p1) (p2 := p2) (c_askedCount := c_askedCount) (c_outcome := c_outcome) (c_row := c_row) hc_3) (cwV 2 hts g_f_X5_point_f_X5_drift_72 rfl rfl rfl hd_X5_drift ⟨Nat.le_of_ble_eq_true rfl, Nat.le_of_ble_eq_true rfl⟩) ⟨pP.blind, hrc, (pP.pre ⟨hK, hN⟩ hPc)⟩ rfl rfl hl.1 rfl (lv_room (Nat.le_of_ble_eq_true rfl)) dX5_point_28 ⟨Nat.le_of_ble_eq_true rfl, Nat.le_of_ble_eq_true rfl⟩) ?_
  refine lv_imul hx hb dX5_point_31 ?_
  refine lv_iadd hx hb dX5_point_32 ?_
  rw [hQ]
  obtain e9_0 := inj1 hF
  exact W.iret (v := k0 + ((c_row 3) * r_2)) hx hb hr (fun tt ht hW => ⟨_, rfl, e9_0, ht⟩) (fun _ h => by cases h) dX5_point_33

set_option maxHeartbeats 4000000 in
set_option maxRecDepth 100000 in
theorem f_X5_point (l : Launch) (E : EE) {a_ a_row a_partners a_share a_leftOver : Nat} {p1 : Int32} {p2 : Int32} {c_askedCount : Int32} {c_outcome : Int32} {c_row : Nat → Int32} {rr : Int32} (hF : F_X5_point p1 p2 c_row = some rr) : Met l yX5_point v_f_X5_point (({ frames := 1, cells := 0, slots := 0, locals := 23 } : Room)) (va_Pc [.ref a_, .int p1, .int p2] (pP E (w_X5_point E a_ a_row a_partners a_share a_leftOver c_askedCount c_outcome c_row))) (vp_Si (fun q : Int32 => q = rr)) 0 0 (fun _ => False) := by
  refine Met.ofW (cc := cX5_point) (maxL := 3) (ret := (some .int)) (by decide) rfl ?_
  intro p e s m args below meth c s₁ B hml hv
  obtain ⟨rfl, ⟨hK, hN⟩, hP⟩ := hv
  have hx := B.exec
  have hb := B.bytes
  have hr := B.returns
  have hts := atoms_spec (ws := v_f_X5_point) B.pre
  have hown : s.vm.findClass RX5 = some m.cls := own_of hd_X5_point.1 (findClass_of_methodNamed B.named)
  have hlocks : meth.locks = false := B.notSynchronized
  replace hP : va_P E.1 vwCl [(a_, .inr (6, [.ref a_row, .ref a_partners, .int c_askedCount, .int c_outcome, .ref a_share, .ref a_leftOver])), (a_row, .inl (E.2.1, 81, .inl c_row))] s.heap := hP
  have hl := lv_entry ([.ref a_, .int p1, .int p2]) (n := 3) (Nat.le_of_ble_eq_true rfl)
  rw [lg_entry_eq]
  generalize (lg_sl ([.ref a_, .int p1, .int p2]) ++ List.replicate (3 - (lg_sl ([.ref a_, .int p1, .int p2])).length) Slot.unset).toArray = ls at hl ⊢
  have hl : lv_has ls 3 [(0, .ref a_), (1, .int p1), (2, .int p2)] := hl
  obtain ⟨Q, hQ⟩ : ∃ Q : State → Prop, Q = MQ below (vp_Si (fun q : Int32 => q = rr)) #[Value.ref a_, Value.int p1, Value.int p2] s 0 0 (fun _ => False) := ⟨_, rfl⟩
  rw [← hQ]
  change W p l e ({ frames := 1, cells := 0, slots := 0, locals := 23 } : Room) s m #[Value.ref a_, Value.int p1, Value.int p2] below meth c s.heap [] 0 0 Q (F0 m 0 ls [])
  unfold F_X5_point at hF
  refine lv_iload_n hx hb dX5_point_0 rfl (lv_at hl 2 rfl) ?_
  refine lv_if_ne (tgt := 13) hx hb dX5_point_1 (by decide) (fun c_1 => ?_) (fun c_1 => ?_)
  ·
    replace hF := inn c_1 hF
    refine lv_aload_n hx hb dX5_point_13 rfl (lv_at hl 0 rfl) ?_
    refine gt_X5_0 (v := .ref a_row) hx hb hts i_f_X5_point_X5 hown hK hP 0 rfl (hts (.fieldLink RX5 11 "HushWatch$State" "row" "[I") (List.mem_of_getElem? (i := 1) rfl)) rfl dX5_point_14 ?_
    refine lv_iconst (v := 5) hx hb dX5_point_17 (by decide) ?_
    refine va_iald hx hb hK hP 1 0 rfl rfl (vin rfl) dX5_point_18 ?_
    refine W.eq (g2 := F0 m 19 ls [.int (c_row 5)]) rfl ?_
    exact j_X5_point_19 l E (p1 := p1) (p2 := p2) (c_askedCount := c_askedCount) (c_outcome := c_outcome) (c_row := c_row) (k0 := c_row 5) hx hb hml hown hts hK hN hr hlocks hQ hF hP ls (lv_sub hl [0, 1, 2] rfl)
  ·
    replace hF := ip c_1 hF
    refine lv_aload_n hx hb dX5_point_4 rfl (lv_at hl 0 rfl) ?_
    refine gt_X5_0 (v := .ref a_row) hx hb hts i_f_X5_point_X5 hown hK hP 0 rfl (hts (.fieldLink RX5 11 "HushWatch$State" "row" "[I") (List.mem_of_getElem? (i := 1) rfl)) rfl dX5_point_5 ?_
    refine lv_iconst (v := 4) hx hb dX5_point_8 (by decide) ?_
    refine va_iald hx hb hK hP 1 0 rfl rfl (vin rfl) dX5_point_9 ?_
    refine W.eq (g2 := F0 m 10 ls [.int (c_row 4)]) rfl ?_
    refine lv_goto (tgt := 19) hx hb dX5_point_10 (by decide) ?_
    exact j_X5_point_19 l E (p1 := p1) (p2 := p2) (c_askedCount := c_askedCount) (c_outcome := c_outcome) (c_row := c_row) (k0 := c_row 4) hx hb hml hown hts hK hN hr hlocks hQ hF hP ls (lv_sub hl [0, 1, 2] rfl)

def F_X5_pointValue (p1 : Int32) (p2 : Int32) (p3 : Int32) (c_row : Nat → Int32) : Option (Int64) :=
  bd1 (F_X5_point p1 (0 : Int32) c_row) (fun r_1 => bd1 (F_X5_point p1 (1 : Int32) c_row) (fun r_3 => bd1 (F_X5_valueOf ((r_1 + ((c_row 3) * p2)).toInt64) ((r_3 + ((c_row 3) * p3)).toInt64) c_row) (fun r_5 => some r_5)))
abbrev w_X5_pointValue (E : EE) (a_ a_row a_partners a_share a_leftOver : Nat) (c_askedCount : Int32) (c_outcome : Int32) (c_row : Nat → Int32) : va_W := [(a_, .inr (6, [.ref a_row, .ref a_partners, .int c_askedCount, .int c_outcome, .ref a_share, .ref a_leftOver])), (a_row, .inl (E.2.1, 81, .inl c_row))]
def v_f_X5_pointValue : List Cond := .code yX5_pointValue cX5_pointValue 4 (some .long) :: ([.fieldLink RX5 11 "HushWatch$State" "row" "[I", .methodLink RX5 91 yX5_point, .instanceMethod yX5_point, .selects RX5 yX5_point yX5_point, .initialized RX5, .methodLink RX5 75 yX5_valueOf, .instanceMethod yX5_valueOf, .selects RX5 yX5_valueOf yX5_valueOf] ++ (v_f_X5_point ++ (wsX50 ++ (v_f_X5_valueOf ++ ([])))))
theorem gw_f_X5_pointValue : v_f_X5_pointValue.all goodWord = true := by decide +kernel
theorem i_f_X5_pointValue_X5 : ∀ w ∈ wsX50, w ∈ v_f_X5_pointValue := fun _ h => List.mem_cons_of_mem _ (List.mem_append_right _ (List.mem_append_right _ (List.mem_append_left _ h)))
theorem g_f_X5_pointValue_f_X5_point_91 : GoodIn v_f_X5_pointValue (wsV RX5 91 RX5 yX5_point v_f_X5_point) := goodIn_app (goodIn_of _ (by decide +kernel)) (goodIn_sub (fun _ h => List.mem_cons_of_mem _ (List.mem_append_right _ (List.mem_append_left _ h))) gw_f_X5_point)
theorem g_f_X5_pointValue_f_X5_valueOf_75 : GoodIn v_f_X5_pointValue (wsV RX5 75 RX5 yX5_valueOf v_f_X5_valueOf) := goodIn_app (goodIn_of _ (by decide +kernel)) (goodIn_sub (fun _ h => List.mem_cons_of_mem _ (List.mem_append_right _ (List.mem_append_right _ (List.mem_append_right _ (List.mem_append_left _ h))))) gw_f_X5_valueOf)
theorem hd_X5_pointValue : yX5_pointValue.cls = RX5 ∧ yX5_pointValue.cls ≠ "java/lang/invoke/MethodHandle" ∧ yX5_pointValue.cls ≠ "java/lang/invoke/VarHandle" ∧ (parseMethodDescriptor yX5_pointValue.desc).map (fun d => d.parameters.length) = some 3 := by decide +kernel
set_option maxHeartbeats 4000000 in
set_option maxRecDepth 100000 in
theorem f_X5_pointValue (l : Launch) (E : EE) {a_ a_row a_partners a_share a_leftOver : Nat} {p1 : Int32} {p2 : Int32} {p3 : Int32} {c_askedCount : Int32} {c_outcome : Int32} {c_row : Nat → Int32} {rr : Int64} (hF : F_X5_pointValue p1 p2 p3 c_row = some rr) : Met l yX5_pointValue v_f_X5_pointValue (({ frames := 2, cells := 0, slots := 0, locals := 45 } : Room)) (va_Pc [.ref a_, .int p1, .int p2, .int p3] (pP E (w_X5_pointValue E a_ a_row a_partners a_share a_leftOver c_askedCount c_outcome c_row))) (vp_Sl (fun q : Int64 => q = rr)) 0 0 (fun _ => False) := by
  refine Met.ofW (cc := cX5_pointValue) (maxL := 4) (ret := (some .long)) (by decide) rfl ?_
  intro p e s m args below meth c s₁ B hml hv
  obtain ⟨rfl, ⟨hK, hN⟩, hP⟩ := hv
  have hx := B.exec
  have hb := B.bytes
  have hr := B.returns
  have hts := atoms_spec (ws := v_f_X5_pointValue) B.pre
  have hown : s.vm.findClass RX5 = some m.cls := own_of hd_X5_pointValue.1 (findClass_of_methodNamed B.named)
  have hlocks : meth.locks = false := B.notSynchronized
  replace hP : va_P E.1 vwCl [(a_, .inr (6, [.ref a_row, .ref a_partners, .int c_askedCount, .int c_outcome, .ref a_share, .ref a_leftOver])), (a_row, .inl (E.2.1, 81, .inl c_row))] s.heap := hP
  have hl := lv_entry ([.ref a_, .int p1, .int p2, .int p3]) (n := 4) (Nat.le_of_ble_eq_true rfl)
  rw [lg_entry_eq]
  generalize (lg_sl ([.ref a_, .int p1, .int p2, .int p3]) ++ List.replicate (4 - (lg_sl ([.ref a_, .int p1, .int p2, .int p3])).length) Slot.unset).toArray = ls at hl ⊢
  have hl : lv_has ls 4 [(0, .ref a_), (1, .int p1), (2, .int p2), (3, .int p3)] := hl
  obtain ⟨Q, hQ⟩ : ∃ Q : State → Prop, Q = MQ below (vp_Sl (fun q : Int64 => q = rr)) #[Value.ref a_, Value.int p1, Value.int p2, Value.int p3] s 0 0 (fun _ => False) := ⟨_, rfl⟩
  rw [← hQ]
  change W p l e ({ frames := 2, cells := 0, slots := 0, locals := 45 } : Room) s m #[Value.ref a_, Value.int p1, Value.int p2, Value.int p3] below meth c s.heap [] 0 0 Q (F0 m 0 ls [])
  unfold F_X5_pointValue at hF
  refine lv_aload_n hx hb dX5_pointValue_0 rfl (lv_at hl 0 rfl) ?_
  refine lv_aload_n hx hb dX5_pointValue_1 rfl (lv_at hl 0 rfl) ?_
  refine lv_iload_n hx hb dX5_pointValue_2 rfl (lv_at hl 1 rfl) ?_
  refine lv_iconst (v := 0) hx hb dX5_pointValue_3 (by decide) ?_
  replace hF := bd1_s hF
  obtain ⟨r_1, hc_2, hF⟩ := hF
  have hPc : va_P E.1 vwCl (w_X5_point E a_ a_row a_partners a_share a_leftOver c_askedCount c_outcome c_row) s.heap := hP.sub (ws' := [(a_, .inr (6, [.ref a_row, .ref a_partners, .int c_askedCount, .int c_outcome, .ref a_share, .ref a_leftOver])), (a_row, .inl (E.2.1, 81, .inl c_row))]) [0, 1] rfl
  have hrc := va_recv hK hPc (ci := 6) (q0 := 0) rfl rfl
  refine pE_i (va_runV (As := [.int p1, .int (0 : Int32)]) (rest := [.ref a_])  ⟨hx, hb, hml, hown, hts⟩ (f_X5_point l E (a_ := a_) (a_row := a_row) (a_partners := a_partners) (a_share := a_share) (a_leftOver := a_leftOver) (p1 := p1) (p2 := (0 : Int32)) (c_askedCount := c_askedCount) (c_outcome := c_outcome) (c_row := c_row) hc_2) (cwV 2 hts g_f_X5_pointValue_f_X5_point_91 rfl rfl rfl hd_X5_point ⟨Nat.le_of_ble_eq_true rfl, Nat.le_of_ble_eq_true rfl⟩) ⟨pP.blind, hrc, (pP.pre ⟨hK, hN⟩ hPc)⟩ rfl rfl hl.1 rfl (lv_room (Nat.le_of_ble_eq_true rfl)) dX5_pointValue_4 ⟨Nat.le_of_ble_eq_true rfl, Nat.le_of_ble_eq_true rfl⟩) ?_
  refine lv_aload_n hx hb dX5_pointValue_7 rfl (lv_at hl 0 rfl) ?_
  refine gt_X5_0 (v := .ref a_row) hx hb hts i_f_X5_pointValue_X5 hown hK hP 0 rfl (hts (.fieldLink RX5 11 "HushWatch$State" "row" "[I") (List.mem_of_getElem? (i := 1) rfl)) rfl dX5_pointValue_8 ?_
  refine lv_iconst (v := 3) hx hb dX5_pointValue_11 (by decide) ?_
  refine va_iald hx hb hK hP 1 0 rfl rfl (vin rfl) dX5_pointValue_12 ?_
  refine W.eq (g2 := F0 m 13 ls [.int (c_row 3), .int r_1, .ref a_]) rfl ?_
  refine lv_iload_n hx hb dX5_pointValue_13 rfl (lv_at hl 2 rfl) ?_
  refine lv_imul hx hb dX5_pointValue_14 ?_
  refine lv_iadd hx hb dX5_pointValue_15 ?_
  refine lv_i2l (v := (r_1 + ((c_row 3) * p2)).toInt64) hx hb dX5_pointValue_16 rfl ?_
  refine lv_aload_n hx hb dX5_pointValue_17 rfl (lv_at hl 0 rfl) ?_
  refine lv_iload_n hx hb dX5_pointValue_18 rfl (lv_at hl 1 rfl) ?_
  refine lv_iconst (v := 1) hx hb dX5_pointValue_19 (by decide) ?_
  replace hF := bd1_s hF
  obtain ⟨r_3, hc_4, hF⟩ := hF
  have hPc : va_P E.1 vwCl (w_X5_point E a_ a_row a_partners a_share a_leftOver c_askedCount c_outcome c_row) s.heap := hP.sub (ws' := [(a_, .inr (6, [.ref a_row, .ref a_partners, .int c_askedCount, .int c_outcome, .ref a_share, .ref a_leftOver])), (a_row, .inl (E.2.1, 81, .inl c_row))]) [0, 1] rfl
  have hrc := va_recv hK hPc (ci := 6) (q0 := 0) rfl rfl
  refine pE_i (va_runV (As := [.int p1, .int (1 : Int32)]) (rest := [.long ((r_1 + ((c_row 3) * p2)).toInt64), .ref a_])  ⟨hx, hb, hml, hown, hts⟩ (f_X5_point l E (a_ := a_) (a_row := a_row) (a_partners := a_partners) (a_share := a_share) (a_leftOver := a_leftOver) (p1 := p1) (p2 := (1 : Int32)) (c_askedCount := c_askedCount) (c_outcome := c_outcome) (c_row := c_row) hc_4) (cwV 2 hts g_f_X5_pointValue_f_X5_point_91 rfl rfl rfl hd_X5_point ⟨Nat.le_of_ble_eq_true rfl, Nat.le_of_ble_eq_true rfl⟩) ⟨pP.blind, hrc, (pP.pre ⟨hK, hN⟩ hPc)⟩ rfl rfl hl.1 rfl (lv_room (Nat.le_of_ble_eq_true rfl)) dX5_pointValue_20 ⟨Nat.le_of_ble_eq_true rfl, Nat.le_of_ble_eq_true rfl⟩) ?_
  refine lv_aload_n hx hb dX5_pointValue_23 rfl (lv_at hl 0 rfl) ?_
  refine gt_X5_0 (v := .ref a_row) hx hb hts i_f_X5_pointValue_X5 hown hK hP 0 rfl (hts (.fieldLink RX5 11 "HushWatch$State" "row" "[I") (List.mem_of_getElem? (i := 1) rfl)) rfl dX5_pointValue_24 ?_
  refine lv_iconst (v := 3) hx hb dX5_pointValue_27 (by decide) ?_
  refine va_iald hx hb hK hP 1 0 rfl rfl (vin rfl) dX5_pointValue_28 ?_
  refine W.eq (g2 := F0 m 29 ls [.int (c_row 3), .int r_3, .long ((r_1 + ((c_row 3) * p2)).toInt64), .ref a_]) rfl ?_
  refine lv_iload_n hx hb dX5_pointValue_29 rfl (lv_at hl 3 rfl) ?_
  refine lv_imul hx hb dX5_pointValue_30 ?_
  refine lv_iadd hx hb dX5_pointValue_31 ?_
  refine lv_i2l (v := (r_3 + ((c_row 3) * p3)).toInt64) hx hb dX5_pointValue_32 rfl ?_
  replace hF := bd1_s hF
  obtain ⟨r_5, hc_6, hF⟩ := hF
  have hPc : va_P E.1 vwCl (w_X5_valueOf E a_ a_row a_partners a_share a_leftOver c_askedCount c_outcome c_row) s.heap := hP.sub (ws' := [(a_, .inr (6, [.ref a_row, .ref a_partners, .int c_askedCount, .int c_outcome, .ref a_share, .ref a_leftOver])), (a_row, .inl (E.2.1, 81, .inl c_row))]) [0, 1] rfl
  have hrc := va_recv hK hPc (ci := 6) (q0 := 0) rfl rfl
  refine pE_l (va_runV (As := [.long ((r_1 + ((c_row 3) * p2)).toInt64), .long ((r_3 + ((c_row 3) * p3)).toInt64)]) (rest := [])  ⟨hx, hb, hml, hown, hts⟩ (f_X5_valueOf l E (a_ := a_) (a_row := a_row) (a_partners := a_partners) (a_share := a_share) (a_leftOver := a_leftOver) (p1 := (r_1 + ((c_row 3) * p2)).toInt64) (p2 := (r_3 + ((c_row 3) * p3)).toInt64) (c_askedCount := c_askedCount) (c_outcome := c_outcome) (c_row := c_row) hc_6) (cwV 2 hts g_f_X5_pointValue_f_X5_valueOf_75 rfl rfl rfl hd_X5_valueOf ⟨Nat.le_of_ble_eq_true rfl, Nat.le_of_ble_eq_true rfl⟩) ⟨pP.blind, hrc, (pP.pre ⟨hK, hN⟩ hPc)⟩ rfl rfl hl.1 rfl (lv_room (Nat.le_of_ble_eq_true rfl)) dX5_pointValue_33 ⟨Nat.le_of_ble_eq_true rfl, Nat.le_of_ble_eq_true rfl⟩) ?_
  rw [hQ]
  obtain e9_0 := inj1 hF
  exact W.lret (v := r_5) hx hb hr (fun tt ht hW => ⟨_, rfl, e9_0, ht⟩) (fun _ h => by cases h) dX5_pointValue_36

def B_X5_quietSites_4 (c_row : Nat → Int32) (x1 : Int32) (x2 : Int32) : Option ((Int32 × Int32) ⊕ (Int32)) :=
  bd1 (F_X5_sites c_row) (fun r_1 => if r_1 ≤ x2 then some (.inr x1) else bd1 (F_X5_isQuiet x2 c_row) (fun r_4 => if r_4 = (0 : Int32) then some (.inl (x1 ||| (0 : Int32), x2 + (1 : Int32))) else some (.inl (x1 ||| ((1 : Int32) <<< (x2 &&& (31 : Int32))), x2 + (1 : Int32)))))
def F_X5_quietSites (K : Nat) (c_row : Nat → Int32) : Option (Int32) :=
  bd1 (lpF (fun u9 : Int32 × Int32 => B_X5_quietSites_4 c_row u9.1 u9.2) K ((0 : Int32), (0 : Int32))) (fun x1_8 => some x1_8)
abbrev w_X5_quietSites (E : EE) (a_ a_row a_partners a_share a_leftOver : Nat) (c_askedCount : Int32) (c_outcome : Int32) (c_row : Nat → Int32) : va_W := [(a_, .inr (6, [.ref a_row, .ref a_partners, .int c_askedCount, .int c_outcome, .ref a_share, .ref a_leftOver])), (a_row, .inl (E.2.1, 81, .inl c_row))]
def v_f_X5_quietSites : List Cond := .code yX5_quietSites cX5_quietSites 3 (some .int) :: ([.methodLink RX5 45 yX5_sites, .instanceMethod yX5_sites, .selects RX5 yX5_sites yX5_sites, .initialized RX5, .methodLink RX5 99 yX5_isQuiet, .instanceMethod yX5_isQuiet, .selects RX5 yX5_isQuiet yX5_isQuiet] ++ (v_f_X5_sites ++ (v_f_X5_isQuiet ++ ([]))))
theorem gw_f_X5_quietSites : v_f_X5_quietSites.all goodWord = true := by decide +kernel
theorem g_f_X5_quietSites_f_X5_sites_45 : GoodIn v_f_X5_quietSites (wsV RX5 45 RX5 yX5_sites v_f_X5_sites) := goodIn_app (goodIn_of _ (by decide +kernel)) (goodIn_sub (fun _ h => List.mem_cons_of_mem _ (List.mem_append_right _ (List.mem_append_left _ h))) gw_f_X5_sites)
theorem g_f_X5_quietSites_f_X5_isQuiet_99 : GoodIn v_f_X5_quietSites (wsV RX5 99 RX5 yX5_isQuiet v_f_X5_isQuiet) := goodIn_app (goodIn_of _ (by decide +kernel)) (goodIn_sub (fun _ h => List.mem_cons_of_mem _ (List.mem_append_right _ (List.mem_append_right _ (List.mem_append_left _ h)))) gw_f_X5_isQuiet)
theorem hd_X5_quietSites : yX5_quietSites.cls = RX5 ∧ yX5_quietSites.cls ≠ "java/lang/invoke/MethodHandle" ∧ yX5_quietSites.cls ≠ "java/lang/invoke/VarHandle" ∧ (parseMethodDescriptor yX5_quietSites.desc).map (fun d => d.parameters.length) = some 0 := by decide +kernel
set_option maxHeartbeats 4000000 in
set_option maxRecDepth 100000 in
theorem wb_X5_quietSites_4 {p : Program} (l : Launch) {e : Env} {s : State} {m : MethodId} {below : List Frame} {meth : Method} {c : Code} {Q : State → Prop} (E : EE) (K : Nat) {a_ a_row a_partners a_share a_leftOver : Nat} {c_askedCount : Int32} {c_outcome : Int32} {c_row : Nat → Int32} {x1 : Int32} {x2 : Int32} (hx : p.tables.exec = Jvm.exec) (hb : c.code = cX5_quietSites) (hml : c.maxLocals = 3) (hown : s.vm.findClass RX5 = some m.cls) (hts : ∀ w ∈ v_f_X5_quietSites, w.before #[Value.ref a_] s = true) (hK : va_K E.1 vwCl (TY E) s) (hN : NX s) {xx : (Int32 × Int32) ⊕ (Int32)} (hC : ∀ (x1 : Int32), ∀ (x2 : Int32), xx = .inl (x1, x2) → ∀ (ls : Array Slot), lv_has ls 3 [(0, .ref a_), (1, .int x1), (2, .int x2)] → W p l e ({ frames := 3, cells := 0, slots := 0, locals := 71 } : Room) s m #[Value.ref a_] below meth c s.heap [] 0 0 Q (F0 m 4 ls [])) (hE : ∀ (x1 : Int32), xx = .inr x1 → ((∀ (ls : Array Slot), lv_has ls 3 [(1, .int x1)] → W p l e ({ frames := 3, cells := 0, slots := 0, locals := 71 } : Room) s m #[Value.ref a_] below meth c s.heap [] 0 0 Q (F0 m 36 ls [])))) (hF : B_X5_quietSites_4 c_row x1 x2 = some xx) (hP : va_P E.1 vwCl (w_X5_quietSites E a_ a_row a_partners a_share a_leftOver c_askedCount c_outcome c_row) s.heap) : ∀ (ls : Array Slot), lv_has ls 3 [(0, .ref a_), (1, .int x1), (2, .int x2)] → W p l e ({ frames := 3, cells := 0, slots := 0, locals := 71 } : Room) s m #[Value.ref a_] below meth c s.heap [] 0 0 Q (F0 m 4 ls []) := by
  unfold B_X5_quietSites_4 at hF
  replace hP : va_P E.1 vwCl [(a_, .inr (6, [.ref a_row, .ref a_partners, .int c_askedCount, .int c_outcome, .ref a_share, .ref a_leftOver])), (a_row, .inl (E.2.1, 81, .inl c_row))] s.heap := hP
  intro ls hl
  refine lv_iload_n hx hb dX5_quietSites_4 rfl (lv_at hl 2 rfl) ?_
  refine lv_aload_n hx hb dX5_quietSites_5 rfl (lv_at hl 0 rfl) ?_
  replace hF := bd1_s hF
  obtain ⟨r_1, hc_2, hF⟩ := hF
  have hPc : va_P E.1 vwCl (w_X5_sites E a_ a_row a_partners a_share a_leftOver c_askedCount c_outcome c_row) s.heap := hP.sub (ws' := [(a_, .inr (6, [.ref a_row, .ref a_partners, .int c_askedCount, .int c_outcome, .ref a_share, .ref a_leftOver])), (a_row, .inl (E.2.1, 81, .inl c_row))]) [0, 1] rfl
  have hrc := va_recv hK hPc (ci := 6) (q0 := 0) rfl rfl
  refine pE_i (va_runV (As := []) (rest := [.int x2])  ⟨hx, hb, hml, hown, hts⟩ (f_X5_sites l E (a_ := a_) (a_row := a_row) (a_partners := a_partners) (a_share := a_share) (a_leftOver := a_leftOver) (c_askedCount := c_askedCount) (c_outcome := c_outcome) (c_row := c_row) hc_2) (cwV 0 hts g_f_X5_quietSites_f_X5_sites_45 rfl rfl rfl hd_X5_sites ⟨Nat.le_of_ble_eq_true rfl, Nat.le_of_ble_eq_true rfl⟩) ⟨pP.blind, hrc, (pP.pre ⟨hK, hN⟩ hPc)⟩ rfl rfl hl.1 rfl (lv_room (Nat.le_of_ble_eq_true rfl)) dX5_quietSites_6 ⟨Nat.le_of_ble_eq_true rfl, Nat.le_of_ble_eq_true rfl⟩) ?_
  refine lv_icmp_ge (tgt := 36) hx hb dX5_quietSites_9 (by decide) (fun c_3 => ?_) (fun c_3 => ?_)
  ·
    replace hF := ip c_3 hF
    cases hF
    exact hE x1 rfl ls (lv_sub hl [1] rfl)
  ·
    replace hF := inn c_3 hF
    refine lv_iload_n hx hb dX5_quietSites_12 rfl (lv_at hl 1 rfl) ?_
    refine lv_aload_n hx hb dX5_quietSites_13 rfl (lv_at hl 0 rfl) ?_
    refine lv_iload_n hx hb dX5_quietSites_14 rfl (lv_at hl 2 rfl) ?_
    replace hF := bd1_s hF
    obtain ⟨r_4, hc_5, hF⟩ := hF
    have hPc : va_P E.1 vwCl (w_X5_isQuiet E a_ a_row a_partners a_share a_leftOver c_askedCount c_outcome c_row) s.heap := hP.sub (ws' := [(a_, .inr (6, [.ref a_row, .ref a_partners, .int c_askedCount, .int c_outcome, .ref a_share, .ref a_leftOver])), (a_row, .inl (E.2.1, 81, .inl c_row))]) [0, 1] rfl
    have hrc := va_recv hK hPc (ci := 6) (q0 := 0) rfl rfl
    refine pE_z (va_runV (As := [.int x2]) (rest := [.int x1])  ⟨hx, hb, hml, hown, hts⟩ (f_X5_isQuiet l E (a_ := a_) (a_row := a_row) (a_partners := a_partners) (a_share := a_share) (a_leftOver := a_leftOver) (p1 := x2) (c_askedCount := c_askedCount) (c_outcome := c_outcome) (c_row := c_row) hc_5) (cwV 1 hts g_f_X5_quietSites_f_X5_isQuiet_99 rfl rfl rfl hd_X5_isQuiet ⟨Nat.le_of_ble_eq_true rfl, Nat.le_of_ble_eq_true rfl⟩) ⟨pP.blind, hrc, (pP.pre ⟨hK, hN⟩ hPc)⟩ rfl rfl hl.1 rfl (lv_room (Nat.le_of_ble_eq_true rfl)) dX5_quietSites_15 ⟨Nat.le_of_ble_eq_true rfl, Nat.le_of_ble_eq_true rfl⟩) (fun hb_6 => ?_)
    refine lv_if_eq (tgt := 27) hx hb dX5_quietSites_18 (by decide) (fun c_7 => ?_) (fun c_7 => ?_)
    ·
      replace hF := ip c_7 hF
      refine lv_iconst (v := 0) hx hb dX5_quietSites_27 (by decide) ?_
      refine lv_ior hx hb dX5_quietSites_28 ?_
      refine lv_istore_n (lv' := [(1, .int (x1 ||| (0 : Int32))), (0, .ref a_), (2, .int x2)]) hx hb dX5_quietSites_29 rfl hl (by decide) rfl (fun ls hl => ?_)
      refine lv_iinc (v := x2 + (1 : Int32)) (lv' := [(2, .int (x2 + (1 : Int32))), (1, .int (x1 ||| (0 : Int32))), (0, .ref a_)]) hx hb dX5_quietSites_30 hl (k := 2) rfl (rfl) (by decide) rfl (fun ls hl => ?_)
      refine lv_goto (tgt := 4) hx hb dX5_quietSites_33 (by decide) ?_
      cases hF
      exact hC (x1 ||| (0 : Int32)) (x2 + (1 : Int32)) rfl ls (lv_sub hl [2, 1, 0] rfl)
    ·
      replace hF := inn c_7 hF
      refine lv_iconst (v := 1) hx hb dX5_quietSites_21 (by decide) ?_
      refine lv_iload_n hx hb dX5_quietSites_22 rfl (lv_at hl 2 rfl) ?_
      refine lv_ishl hx hb dX5_quietSites_23 ?_
      refine lv_goto (tgt := 28) hx hb dX5_quietSites_24 (by decide) ?_
      refine lv_ior hx hb dX5_quietSites_28 ?_
      refine lv_istore_n (lv' := [(1, .int (x1 ||| ((1 : Int32) <<< (x2 &&& (31 : Int32))))), (0, .ref a_), (2, .int x2)]) hx hb dX5_quietSites_29 rfl hl (by decide) rfl (fun ls hl => ?_)
      refine lv_iinc (v := x2 + (1 : Int32)) (lv' := [(2, .int (x2 + (1 : Int32))), (1, .int (x1 ||| ((1 : Int32) <<< (x2 &&& (31 : Int32))))), (0, .ref a_)]) hx hb dX5_quietSites_30 hl (k := 2) rfl (rfl) (by decide) rfl (fun ls hl => ?_)
      refine lv_goto (tgt := 4) hx hb dX5_quietSites_33 (by decide) ?_
      cases hF
      exact hC (x1 ||| ((1 : Int32) <<< (x2 &&& (31 : Int32)))) (x2 + (1 : Int32)) rfl ls (lv_sub hl [2, 1, 0] rfl)

set_option maxHeartbeats 4000000 in
set_option maxRecDepth 100000 in
theorem lw_X5_quietSites_4 {p : Program} (l : Launch) {e : Env} {s : State} {m : MethodId} {below : List Frame} {meth : Method} {c : Code} {Q : State → Prop} (E : EE) (K : Nat) {a_ a_row a_partners a_share a_leftOver : Nat} {c_askedCount : Int32} {c_outcome : Int32} {c_row : Nat → Int32} (hx : p.tables.exec = Jvm.exec) (hb : c.code = cX5_quietSites) (hml : c.maxLocals = 3) (hown : s.vm.findClass RX5 = some m.cls) (hts : ∀ w ∈ v_f_X5_quietSites, w.before #[Value.ref a_] s = true) (hK : va_K E.1 vwCl (TY E) s) (hN : NX s) (hP : va_P E.1 vwCl (w_X5_quietSites E a_ a_row a_partners a_share a_leftOver c_askedCount c_outcome c_row) s.heap) (j9 : Nat) (x1 : Int32) (x2 : Int32) (x1' : Int32) (hL : lpF (fun u9 : Int32 × Int32 => B_X5_quietSites_4 c_row u9.1 u9.2) j9 (x1, x2) = some x1') (hX : (∀ (ls : Array Slot), lv_has ls 3 [(1, .int x1')] → W p l e ({ frames := 3, cells := 0, slots := 0, locals := 71 } : Room) s m #[Value.ref a_] below meth c s.heap [] 0 0 Q (F0 m 36 ls []))) : ∀ (ls : Array Slot), lv_has ls 3 [(0, .ref a_), (1, .int x1), (2, .int x2)] → W p l e ({ frames := 3, cells := 0, slots := 0, locals := 71 } : Room) s m #[Value.ref a_] below meth c s.heap [] 0 0 Q (F0 m 4 ls []) := by
  exact lp_rule (P := (fun u9 : Int32 × Int32 => ∀ (ls : Array Slot), lv_has ls 3 [(0, .ref a_), (1, .int u9.1), (2, .int u9.2)] → W p l e ({ frames := 3, cells := 0, slots := 0, locals := 71 } : Room) s m #[Value.ref a_] below meth c s.heap [] 0 0 Q (F0 m 4 ls []))) (R := (fun r9 : Int32 => (∀ (ls : Array Slot), lv_has ls 3 [(1, .int r9)] → W p l e ({ frames := 3, cells := 0, slots := 0, locals := 71 } : Room) s m #[Value.ref a_] below meth c s.heap [] 0 0 Q (F0 m 36 ls [])))) (fun u9 xx hF hC hE => wb_X5_quietSites_4 l E K (c_askedCount := c_askedCount) (c_outcome := c_outcome) (c_row := c_row) (x1 := u9.1) (x2 := u9.2) hx hb hml hown hts hK hN (fun x1 x2 q9 => hC _ q9) (fun x1 q9 => hE _ q9) hF hP) j9 (x1, x2) x1' hL hX

set_option maxHeartbeats 4000000 in
set_option maxRecDepth 100000 in
theorem f_X5_quietSites (l : Launch) (E : EE) (K : Nat) {a_ a_row a_partners a_share a_leftOver : Nat} {c_askedCount : Int32} {c_outcome : Int32} {c_row : Nat → Int32} {rr : Int32} (hF : F_X5_quietSites K c_row = some rr) : Met l yX5_quietSites v_f_X5_quietSites (({ frames := 3, cells := 0, slots := 0, locals := 71 } : Room)) (va_Pc [.ref a_] (pP E (w_X5_quietSites E a_ a_row a_partners a_share a_leftOver c_askedCount c_outcome c_row))) (vp_Si (fun q : Int32 => q = rr)) 0 0 (fun _ => False) := by
  refine Met.ofW (cc := cX5_quietSites) (maxL := 3) (ret := (some .int)) (by decide) rfl ?_
  intro p e s m args below meth c s₁ B hml hv
  obtain ⟨rfl, ⟨hK, hN⟩, hP⟩ := hv
  have hx := B.exec
  have hb := B.bytes
  have hr := B.returns
  have hts := atoms_spec (ws := v_f_X5_quietSites) B.pre
  have hown : s.vm.findClass RX5 = some m.cls := own_of hd_X5_quietSites.1 (findClass_of_methodNamed B.named)
  have hlocks : meth.locks = false := B.notSynchronized
  replace hP : va_P E.1 vwCl [(a_, .inr (6, [.ref a_row, .ref a_partners, .int c_askedCount, .int c_outcome, .ref a_share, .ref a_leftOver])), (a_row, .inl (E.2.1, 81, .inl c_row))] s.heap := hP
  have hl := lv_entry ([.ref a_]) (n := 3) (Nat.le_of_ble_eq_true rfl)
  rw [lg_entry_eq]
  generalize (lg_sl ([.ref a_]) ++ List.replicate (3 - (lg_sl ([.ref a_])).length) Slot.unset).toArray = ls at hl ⊢
  have hl : lv_has ls 3 [(0, .ref a_)] := hl
  obtain ⟨Q, hQ⟩ : ∃ Q : State → Prop, Q = MQ below (vp_Si (fun q : Int32 => q = rr)) #[Value.ref a_] s 0 0 (fun _ => False) := ⟨_, rfl⟩
  rw [← hQ]
  change W p l e ({ frames := 3, cells := 0, slots := 0, locals := 71 } : Room) s m #[Value.ref a_] below meth c s.heap [] 0 0 Q (F0 m 0 ls [])
  unfold F_X5_quietSites at hF
  refine lv_iconst (v := 0) hx hb dX5_quietSites_0 (by decide) ?_
  refine lv_istore_n (lv' := [(1, .int (0 : Int32)), (0, .ref a_)]) hx hb dX5_quietSites_1 rfl hl (by decide) rfl (fun ls hl => ?_)
  refine lv_iconst (v := 0) hx hb dX5_quietSites_2 (by decide) ?_
  refine lv_istore_n (lv' := [(2, .int (0 : Int32)), (1, .int (0 : Int32)), (0, .ref a_)]) hx hb dX5_quietSites_3 rfl hl (by decide) rfl (fun ls hl => ?_)
  replace hF := bd1_s hF
  obtain ⟨x1_8, hL_9, hF⟩ := hF
  refine lw_X5_quietSites_4 l E K (c_askedCount := c_askedCount) (c_outcome := c_outcome) (c_row := c_row) hx hb hml hown hts hK hN hP K (0 : Int32) (0 : Int32) x1_8 hL_9 ?_ ls (lv_sub hl [2, 1, 0] rfl)
  ·
    intro ls hl
    refine lv_iload_n hx hb dX5_quietSites_36 rfl (lv_at hl 0 rfl) ?_
    rw [hQ]
    obtain e9_0 := inj1 hF
    exact W.iret (v := x1_8) hx hb hr (fun tt ht hW => ⟨_, rfl, e9_0, ht⟩) (fun _ h => by cases h) dX5_quietSites_37

def F_X5_stands (c_row : Nat → Int32) : Option (Int32) :=
  if c_row 3 ≤ (0 : Int32) then some (0 : Int32) else some (1 : Int32)
abbrev w_X5_stands (E : EE) (a_ a_row a_partners a_share a_leftOver : Nat) (c_askedCount : Int32) (c_outcome : Int32) (c_row : Nat → Int32) : va_W := [(a_, .inr (6, [.ref a_row, .ref a_partners, .int c_askedCount, .int c_outcome, .ref a_share, .ref a_leftOver])), (a_row, .inl (E.2.1, 81, .inl c_row))]
def v_f_X5_stands : List Cond := .code yX5_stands cX5_stands 1 (some .boolean) :: ([.fieldLink RX5 11 "HushWatch$State" "row" "[I"] ++ (wsX50 ++ ([])))
theorem gw_f_X5_stands : v_f_X5_stands.all goodWord = true := by decide +kernel
theorem i_f_X5_stands_X5 : ∀ w ∈ wsX50, w ∈ v_f_X5_stands := fun _ h => List.mem_cons_of_mem _ (List.mem_append_right _ (List.mem_append_left _ h))
theorem hd_X5_stands : yX5_stands.cls = RX5 ∧ yX5_stands.cls ≠ "java/lang/invoke/MethodHandle" ∧ yX5_stands.cls ≠ "java/lang/invoke/VarHandle" ∧ (parseMethodDescriptor yX5_stands.desc).map (fun d => d.parameters.length) = some 0 := by decide +kernel
set_option maxHeartbeats 4000000 in
set_option maxRecDepth 100000 in
theorem f_X5_stands (l : Launch) (E : EE) {a_ a_row a_partners a_share a_leftOver : Nat} {c_askedCount : Int32} {c_outcome : Int32} {c_row : Nat → Int32} {rr : Int32} (hF : F_X5_stands c_row = some rr) : Met l yX5_stands v_f_X5_stands (({ frames := 0, cells := 0, slots := 0, locals := 0 } : Room)) (va_Pc [.ref a_] (pP E (w_X5_stands E a_ a_row a_partners a_share a_leftOver c_askedCount c_outcome c_row))) (vp_Si (fun q : Int32 => q = rr ∧ (q = 0 ∨ q = 1))) 0 0 (fun _ => False) := by
  refine Met.ofW (cc := cX5_stands) (maxL := 1) (ret := (some .boolean)) (by decide) rfl ?_
  intro p e s m args below meth c s₁ B hml hv
  obtain ⟨rfl, ⟨hK, hN⟩, hP⟩ := hv
  have hx := B.exec
  have hb := B.bytes
  have hr := B.returns
  have hts := atoms_spec (ws := v_f_X5_stands) B.pre
  have hown : s.vm.findClass RX5 = some m.cls := own_of hd_X5_stands.1 (findClass_of_methodNamed B.named)
  have hlocks : meth.locks = false := B.notSynchronized
  replace hP : va_P E.1 vwCl [(a_, .inr (6, [.ref a_row, .ref a_partners, .int c_askedCount, .int c_outcome, .ref a_share, .ref a_leftOver])), (a_row, .inl (E.2.1, 81, .inl c_row))] s.heap := hP
  have hl := lv_entry ([.ref a_]) (n := 1) (Nat.le_of_ble_eq_true rfl)
  rw [lg_entry_eq]
  generalize (lg_sl ([.ref a_]) ++ List.replicate (1 - (lg_sl ([.ref a_])).length) Slot.unset).toArray = ls at hl ⊢
  have hl : lv_has ls 1 [(0, .ref a_)] := hl
  obtain ⟨Q, hQ⟩ : ∃ Q : State → Prop, Q = MQ below (vp_Si (fun q : Int32 => q = rr ∧ (q = 0 ∨ q = 1))) #[Value.ref a_] s 0 0 (fun _ => False) := ⟨_, rfl⟩
  rw [← hQ]
  change W p l e ({ frames := 0, cells := 0, slots := 0, locals := 0 } : Room) s m #[Value.ref a_] below meth c s.heap [] 0 0 Q (F0 m 0 ls [])
  unfold F_X5_stands at hF
  refine lv_aload_n hx hb dX5_stands_0 rfl (lv_at hl 0 rfl) ?_
  refine gt_X5_0 (v := .ref a_row) hx hb hts i_f_X5_stands_X5 hown hK hP 0 rfl (hts (.fieldLink RX5 11 "HushWatch$State" "row" "[I") (List.mem_of_getElem? (i := 1) rfl)) rfl dX5_stands_1 ?_
  refine lv_iconst (v := 3) hx hb dX5_stands_4 (by decide) ?_
  refine va_iald hx hb hK hP 1 0 rfl rfl (vin rfl) dX5_stands_5 ?_
  refine W.eq (g2 := F0 m 6 ls [.int (c_row 3)]) rfl ?_
  refine lv_if_le (tgt := 13) hx hb dX5_stands_6 (by decide) (fun c_1 => ?_) (fun c_1 => ?_)
  ·
    replace hF := ip c_1 hF
    refine lv_iconst (v := 0) hx hb dX5_stands_13 (by decide) ?_
    rw [hQ]
    obtain e9_0 := inj1 hF
    exact W.zret (v := (0 : Int32)) hx hb hr rfl (fun tt ht hW => ⟨_, rfl, ⟨e9_0, Or.inl rfl⟩, ht⟩) (fun _ h => by cases h) dX5_stands_14
  ·
    replace hF := inn c_1 hF
    refine lv_iconst (v := 1) hx hb dX5_stands_9 (by decide) ?_
    refine lv_goto (tgt := 14) hx hb dX5_stands_10 (by decide) ?_
    rw [hQ]
    obtain e9_0 := inj1 hF
    exact W.zret (v := (1 : Int32)) hx hb hr rfl (fun tt ht hW => ⟨_, rfl, ⟨e9_0, Or.inr rfl⟩, ht⟩) (fun _ h => by cases h) dX5_stands_14

def F_X5_setRefusal (p0 : Int32) (p1 : Int32) (p2 : Int32) (p3 : Int32) : Option (Int32) :=
  if p0 < p1 then some (1 : Int32) else if p0 ≤ p2 then if p0 = p3 then some (2 : Int32) else some (-1 : Int32) else some (1 : Int32)

def v_f_X5_setRefusal : List Cond := .code yX5_setRefusal cX5_setRefusal 4 (some .int) :: ([] ++ ([]))
theorem gw_f_X5_setRefusal : v_f_X5_setRefusal.all goodWord = true := by decide +kernel
theorem hd_X5_setRefusal : yX5_setRefusal.cls = RX5 ∧ yX5_setRefusal.cls ≠ "java/lang/invoke/MethodHandle" ∧ yX5_setRefusal.cls ≠ "java/lang/invoke/VarHandle" ∧ (parseMethodDescriptor yX5_setRefusal.desc).map (fun d => d.parameters.length) = some 4 := by decide +kernel
set_option maxHeartbeats 4000000 in
set_option maxRecDepth 100000 in
theorem f_X5_setRefusal (l : Launch) (E : EE) {p0 : Int32} {p1 : Int32} {p2 : Int32} {p3 : Int32} {rr : Int32} (hF : F_X5_setRefusal p0 p1 p2 p3 = some rr) : Met l yX5_setRefusal v_f_X5_setRefusal (({ frames := 0, cells := 0, slots := 0, locals := 0 } : Room)) (va_Pc [.int p0, .int p1, .int p2, .int p3] (pP E [])) (vp_Si (fun q : Int32 => q = rr)) 0 0 (fun _ => False) := by
  refine Met.ofW (cc := cX5_setRefusal) (maxL := 4) (ret := (some .int)) (by decide) rfl ?_
  intro p e s m args below meth c s₁ B hml hv
  obtain ⟨rfl, ⟨hK, hN⟩, hP⟩ := hv
  have hx := B.exec
  have hb := B.bytes
  have hr := B.returns
  have hts := atoms_spec (ws := v_f_X5_setRefusal) B.pre
  have hown : s.vm.findClass RX5 = some m.cls := own_of hd_X5_setRefusal.1 (findClass_of_methodNamed B.named)
  have hlocks : meth.locks = false := B.notSynchronized
  replace hP : va_P E.1 vwCl [] s.heap := hP
  have hl := lv_entry ([.int p0, .int p1, .int p2, .int p3]) (n := 4) (Nat.le_of_ble_eq_true rfl)
  rw [lg_entry_eq]
  generalize (lg_sl ([.int p0, .int p1, .int p2, .int p3]) ++ List.replicate (4 - (lg_sl ([.int p0, .int p1, .int p2, .int p3])).length) Slot.unset).toArray = ls at hl ⊢
  have hl : lv_has ls 4 [(0, .int p0), (1, .int p1), (2, .int p2), (3, .int p3)] := hl
  obtain ⟨Q, hQ⟩ : ∃ Q : State → Prop, Q = MQ below (vp_Si (fun q : Int32 => q = rr)) #[Value.int p0, Value.int p1, Value.int p2, Value.int p3] s 0 0 (fun _ => False) := ⟨_, rfl⟩
  rw [← hQ]
  change W p l e ({ frames := 0, cells := 0, slots := 0, locals := 0 } : Room) s m #[Value.int p0, Value.int p1, Value.int p2, Value.int p3] below meth c s.heap [] 0 0 Q (F0 m 0 ls [])
  unfold F_X5_setRefusal at hF
  refine lv_iload_n hx hb dX5_setRefusal_0 rfl (lv_at hl 0 rfl) ?_
  refine lv_iload_n hx hb dX5_setRefusal_1 rfl (lv_at hl 1 rfl) ?_
  refine lv_icmp_lt (tgt := 10) hx hb dX5_setRefusal_2 (by decide) (fun c_1 => ?_) (fun c_1 => ?_)
  ·
    replace hF := ip c_1 hF
    refine lv_iconst (v := 1) hx hb dX5_setRefusal_10 (by decide) ?_
    rw [hQ]
    obtain e9_0 := inj1 hF
    exact W.iret (v := (1 : Int32)) hx hb hr (fun tt ht hW => ⟨_, rfl, e9_0, ht⟩) (fun _ h => by cases h) dX5_setRefusal_11
  ·
    replace hF := inn c_1 hF
    refine lv_iload_n hx hb dX5_setRefusal_5 rfl (lv_at hl 0 rfl) ?_
    refine lv_iload_n hx hb dX5_setRefusal_6 rfl (lv_at hl 2 rfl) ?_
    refine lv_icmp_le (tgt := 12) hx hb dX5_setRefusal_7 (by decide) (fun c_2 => ?_) (fun c_2 => ?_)
    ·
      replace hF := ip c_2 hF
      refine lv_iload_n hx hb dX5_setRefusal_12 rfl (lv_at hl 0 rfl) ?_
      refine lv_iload_n hx hb dX5_setRefusal_13 rfl (lv_at hl 3 rfl) ?_
      refine lv_icmp_ne (tgt := 21) hx hb dX5_setRefusal_14 (by decide) (fun c_3 => ?_) (fun c_3 => ?_)
      ·
        replace hF := inn c_3 hF
        refine lv_iconst (v := -1) hx hb dX5_setRefusal_21 (by decide) ?_
        rw [hQ]
        obtain e9_0 := inj1 hF
        exact W.iret (v := (-1 : Int32)) hx hb hr (fun tt ht hW => ⟨_, rfl, e9_0, ht⟩) (fun _ h => by cases h) dX5_setRefusal_22
      ·
        replace hF := ip c_3 hF
        refine lv_iconst (v := 2) hx hb dX5_setRefusal_17 (by decide) ?_
        refine lv_goto (tgt := 22) hx hb dX5_setRefusal_18 (by decide) ?_
        rw [hQ]
        obtain e9_0 := inj1 hF
        exact W.iret (v := (2 : Int32)) hx hb hr (fun tt ht hW => ⟨_, rfl, e9_0, ht⟩) (fun _ h => by cases h) dX5_setRefusal_22
    ·
      replace hF := inn c_2 hF
      refine lv_iconst (v := 1) hx hb dX5_setRefusal_10 (by decide) ?_
      rw [hQ]
      obtain e9_0 := inj1 hF
      exact W.iret (v := (1 : Int32)) hx hb hr (fun tt ht hW => ⟨_, rfl, e9_0, ht⟩) (fun _ h => by cases h) dX5_setRefusal_11
end
-- 20.st06
section
def dl_X5_refusal_20_st06_0 : List (Nat × Instr × Nat) := [(0, .aload_n 0, 1), (1, .invokevirtual 105, 3), (4, .ifCond .ne 5, 3), (9, .iload_n 1, 1), (10, .tableswitch 110 0 6 #[42, 110, 51, 66, 79, 86, 104], 42), (52, .aload_n 0, 1), (53, .iload_n 2, 1), (54, .iload_n 3, 1), (55, .iload 4, 2), (57, .invokevirtual 108, 3), (60, .ireturn, 1), (120, .iconst (-1), 1), (121, .ireturn, 1), (61, .iload_n 2, 1), (62, .ldc 112, 2), (64, .ldc 113, 2), (66, .aload_n 0, 1), (67, .getfield 11, 3), (70, .iconst 1, 1), (71, .iaload, 1), (72, .invokestatic 114, 3), (75, .ireturn, 1), (76, .iload_n 2, 1), (77, .iconst 0, 1), (78, .iconst 3, 1), (79, .aload_n 0, 1), (80, .getfield 11, 3), (83, .iconst 0, 1), (84, .iaload, 1), (85, .invokestatic 114, 3), (88, .ireturn, 1), (89, .aload_n 0, 1), (90, .iload_n 2, 1), (91, .iload_n 3, 1), (92, .invokevirtual 118, 3), (95, .ireturn, 1), (96, .iload_n 2, 1), (97, .iconst 1, 1), (98, .if_icmp .lt 10, 3), (108, .iconst 1, 1), (109, .goto 4, 3), (113, .ireturn, 1), (101, .iload_n 2, 1), (102, .sipush 9999, 3), (105, .if_icmp .le 7, 3), (112, .iconst (-1), 1), (114, .aload_n 0, 1), (115, .iload_n 2, 1), (116, .invokevirtual 121, 3), (119, .ireturn, 1)]
set_option maxRecDepth 100000 in
theorem dall_X5_refusal_20_st06_0 : dchk cX5_refusal dl_X5_refusal_20_st06_0 = true := by decide +kernel
theorem dX5_refusal_0 : decode cX5_refusal 0 = .ok (.aload_n 0, 1) := dchk_at dall_X5_refusal_20_st06_0 (k := 0) rfl
theorem dX5_refusal_1 : decode cX5_refusal 1 = .ok (.invokevirtual 105, 3) := dchk_at dall_X5_refusal_20_st06_0 (k := 1) rfl
theorem dX5_refusal_4 : decode cX5_refusal 4 = .ok (.ifCond .ne 5, 3) := dchk_at dall_X5_refusal_20_st06_0 (k := 2) rfl
theorem dX5_refusal_9 : decode cX5_refusal 9 = .ok (.iload_n 1, 1) := dchk_at dall_X5_refusal_20_st06_0 (k := 3) rfl
theorem dX5_refusal_10 : decode cX5_refusal 10 = .ok (.tableswitch 110 0 6 #[42, 110, 51, 66, 79, 86, 104], 42) := dchk_at dall_X5_refusal_20_st06_0 (k := 4) rfl
theorem dX5_refusal_52 : decode cX5_refusal 52 = .ok (.aload_n 0, 1) := dchk_at dall_X5_refusal_20_st06_0 (k := 5) rfl
theorem dX5_refusal_53 : decode cX5_refusal 53 = .ok (.iload_n 2, 1) := dchk_at dall_X5_refusal_20_st06_0 (k := 6) rfl
theorem dX5_refusal_54 : decode cX5_refusal 54 = .ok (.iload_n 3, 1) := dchk_at dall_X5_refusal_20_st06_0 (k := 7) rfl
theorem dX5_refusal_55 : decode cX5_refusal 55 = .ok (.iload 4, 2) := dchk_at dall_X5_refusal_20_st06_0 (k := 8) rfl
theorem dX5_refusal_57 : decode cX5_refusal 57 = .ok (.invokevirtual 108, 3) := dchk_at dall_X5_refusal_20_st06_0 (k := 9) rfl
theorem dX5_refusal_60 : decode cX5_refusal 60 = .ok (.ireturn, 1) := dchk_at dall_X5_refusal_20_st06_0 (k := 10) rfl
theorem dX5_refusal_120 : decode cX5_refusal 120 = .ok (.iconst (-1), 1) := dchk_at dall_X5_refusal_20_st06_0 (k := 11) rfl
theorem dX5_refusal_121 : decode cX5_refusal 121 = .ok (.ireturn, 1) := dchk_at dall_X5_refusal_20_st06_0 (k := 12) rfl
theorem dX5_refusal_61 : decode cX5_refusal 61 = .ok (.iload_n 2, 1) := dchk_at dall_X5_refusal_20_st06_0 (k := 13) rfl
theorem dX5_refusal_62 : decode cX5_refusal 62 = .ok (.ldc 112, 2) := dchk_at dall_X5_refusal_20_st06_0 (k := 14) rfl
theorem dX5_refusal_64 : decode cX5_refusal 64 = .ok (.ldc 113, 2) := dchk_at dall_X5_refusal_20_st06_0 (k := 15) rfl
theorem dX5_refusal_66 : decode cX5_refusal 66 = .ok (.aload_n 0, 1) := dchk_at dall_X5_refusal_20_st06_0 (k := 16) rfl
theorem dX5_refusal_67 : decode cX5_refusal 67 = .ok (.getfield 11, 3) := dchk_at dall_X5_refusal_20_st06_0 (k := 17) rfl
theorem dX5_refusal_70 : decode cX5_refusal 70 = .ok (.iconst 1, 1) := dchk_at dall_X5_refusal_20_st06_0 (k := 18) rfl
theorem dX5_refusal_71 : decode cX5_refusal 71 = .ok (.iaload, 1) := dchk_at dall_X5_refusal_20_st06_0 (k := 19) rfl
theorem dX5_refusal_72 : decode cX5_refusal 72 = .ok (.invokestatic 114, 3) := dchk_at dall_X5_refusal_20_st06_0 (k := 20) rfl
theorem dX5_refusal_75 : decode cX5_refusal 75 = .ok (.ireturn, 1) := dchk_at dall_X5_refusal_20_st06_0 (k := 21) rfl
theorem dX5_refusal_76 : decode cX5_refusal 76 = .ok (.iload_n 2, 1) := dchk_at dall_X5_refusal_20_st06_0 (k := 22) rfl
theorem dX5_refusal_77 : decode cX5_refusal 77 = .ok (.iconst 0, 1) := dchk_at dall_X5_refusal_20_st06_0 (k := 23) rfl
theorem dX5_refusal_78 : decode cX5_refusal 78 = .ok (.iconst 3, 1) := dchk_at dall_X5_refusal_20_st06_0 (k := 24) rfl
theorem dX5_refusal_79 : decode cX5_refusal 79 = .ok (.aload_n 0, 1) := dchk_at dall_X5_refusal_20_st06_0 (k := 25) rfl
theorem dX5_refusal_80 : decode cX5_refusal 80 = .ok (.getfield 11, 3) := dchk_at dall_X5_refusal_20_st06_0 (k := 26) rfl
theorem dX5_refusal_83 : decode cX5_refusal 83 = .ok (.iconst 0, 1) := dchk_at dall_X5_refusal_20_st06_0 (k := 27) rfl
theorem dX5_refusal_84 : decode cX5_refusal 84 = .ok (.iaload, 1) := dchk_at dall_X5_refusal_20_st06_0 (k := 28) rfl
theorem dX5_refusal_85 : decode cX5_refusal 85 = .ok (.invokestatic 114, 3) := dchk_at dall_X5_refusal_20_st06_0 (k := 29) rfl
theorem dX5_refusal_88 : decode cX5_refusal 88 = .ok (.ireturn, 1) := dchk_at dall_X5_refusal_20_st06_0 (k := 30) rfl
theorem dX5_refusal_89 : decode cX5_refusal 89 = .ok (.aload_n 0, 1) := dchk_at dall_X5_refusal_20_st06_0 (k := 31) rfl
theorem dX5_refusal_90 : decode cX5_refusal 90 = .ok (.iload_n 2, 1) := dchk_at dall_X5_refusal_20_st06_0 (k := 32) rfl
theorem dX5_refusal_91 : decode cX5_refusal 91 = .ok (.iload_n 3, 1) := dchk_at dall_X5_refusal_20_st06_0 (k := 33) rfl
theorem dX5_refusal_92 : decode cX5_refusal 92 = .ok (.invokevirtual 118, 3) := dchk_at dall_X5_refusal_20_st06_0 (k := 34) rfl
theorem dX5_refusal_95 : decode cX5_refusal 95 = .ok (.ireturn, 1) := dchk_at dall_X5_refusal_20_st06_0 (k := 35) rfl
theorem dX5_refusal_96 : decode cX5_refusal 96 = .ok (.iload_n 2, 1) := dchk_at dall_X5_refusal_20_st06_0 (k := 36) rfl
theorem dX5_refusal_97 : decode cX5_refusal 97 = .ok (.iconst 1, 1) := dchk_at dall_X5_refusal_20_st06_0 (k := 37) rfl
theorem dX5_refusal_98 : decode cX5_refusal 98 = .ok (.if_icmp .lt 10, 3) := dchk_at dall_X5_refusal_20_st06_0 (k := 38) rfl
theorem dX5_refusal_108 : decode cX5_refusal 108 = .ok (.iconst 1, 1) := dchk_at dall_X5_refusal_20_st06_0 (k := 39) rfl
theorem dX5_refusal_109 : decode cX5_refusal 109 = .ok (.goto 4, 3) := dchk_at dall_X5_refusal_20_st06_0 (k := 40) rfl
theorem dX5_refusal_113 : decode cX5_refusal 113 = .ok (.ireturn, 1) := dchk_at dall_X5_refusal_20_st06_0 (k := 41) rfl
theorem dX5_refusal_101 : decode cX5_refusal 101 = .ok (.iload_n 2, 1) := dchk_at dall_X5_refusal_20_st06_0 (k := 42) rfl
theorem dX5_refusal_102 : decode cX5_refusal 102 = .ok (.sipush 9999, 3) := dchk_at dall_X5_refusal_20_st06_0 (k := 43) rfl
theorem dX5_refusal_105 : decode cX5_refusal 105 = .ok (.if_icmp .le 7, 3) := dchk_at dall_X5_refusal_20_st06_0 (k := 44) rfl
theorem dX5_refusal_112 : decode cX5_refusal 112 = .ok (.iconst (-1), 1) := dchk_at dall_X5_refusal_20_st06_0 (k := 45) rfl
theorem dX5_refusal_114 : decode cX5_refusal 114 = .ok (.aload_n 0, 1) := dchk_at dall_X5_refusal_20_st06_0 (k := 46) rfl
theorem dX5_refusal_115 : decode cX5_refusal 115 = .ok (.iload_n 2, 1) := dchk_at dall_X5_refusal_20_st06_0 (k := 47) rfl
theorem dX5_refusal_116 : decode cX5_refusal 116 = .ok (.invokevirtual 121, 3) := dchk_at dall_X5_refusal_20_st06_0 (k := 48) rfl
theorem dX5_refusal_119 : decode cX5_refusal 119 = .ok (.ireturn, 1) := dchk_at dall_X5_refusal_20_st06_0 (k := 49) rfl
def dl_X5_refusal_20_st06_1 : List (Nat × Instr × Nat) := [(7, .iconst 0, 1), (8, .ireturn, 1)]
set_option maxRecDepth 100000 in
theorem dall_X5_refusal_20_st06_1 : dchk cX5_refusal dl_X5_refusal_20_st06_1 = true := by decide +kernel
theorem dX5_refusal_7 : decode cX5_refusal 7 = .ok (.iconst 0, 1) := dchk_at dall_X5_refusal_20_st06_1 (k := 0) rfl
theorem dX5_refusal_8 : decode cX5_refusal 8 = .ok (.ireturn, 1) := dchk_at dall_X5_refusal_20_st06_1 (k := 1) rfl
def dl_X5_slackLength_20_st06_0 : List (Nat × Instr × Nat) := [(0, .aload_n 0, 1), (1, .iload_n 1, 1), (2, .iconst 4, 1), (3, .invokevirtual 69, 3), (6, .invokestatic 94, 3), (9, .aload_n 0, 1), (10, .iload_n 1, 1), (11, .iconst 5, 1), (12, .invokevirtual 69, 3), (15, .invokestatic 94, 3), (18, .iadd, 1), (19, .ireturn, 1)]
set_option maxRecDepth 100000 in
theorem dall_X5_slackLength_20_st06_0 : dchk cX5_slackLength dl_X5_slackLength_20_st06_0 = true := by decide +kernel
theorem dX5_slackLength_0 : decode cX5_slackLength 0 = .ok (.aload_n 0, 1) := dchk_at dall_X5_slackLength_20_st06_0 (k := 0) rfl
theorem dX5_slackLength_1 : decode cX5_slackLength 1 = .ok (.iload_n 1, 1) := dchk_at dall_X5_slackLength_20_st06_0 (k := 1) rfl
theorem dX5_slackLength_2 : decode cX5_slackLength 2 = .ok (.iconst 4, 1) := dchk_at dall_X5_slackLength_20_st06_0 (k := 2) rfl
theorem dX5_slackLength_3 : decode cX5_slackLength 3 = .ok (.invokevirtual 69, 3) := dchk_at dall_X5_slackLength_20_st06_0 (k := 3) rfl
theorem dX5_slackLength_6 : decode cX5_slackLength 6 = .ok (.invokestatic 94, 3) := dchk_at dall_X5_slackLength_20_st06_0 (k := 4) rfl
theorem dX5_slackLength_9 : decode cX5_slackLength 9 = .ok (.aload_n 0, 1) := dchk_at dall_X5_slackLength_20_st06_0 (k := 5) rfl
theorem dX5_slackLength_10 : decode cX5_slackLength 10 = .ok (.iload_n 1, 1) := dchk_at dall_X5_slackLength_20_st06_0 (k := 6) rfl
theorem dX5_slackLength_11 : decode cX5_slackLength 11 = .ok (.iconst 5, 1) := dchk_at dall_X5_slackLength_20_st06_0 (k := 7) rfl
theorem dX5_slackLength_12 : decode cX5_slackLength 12 = .ok (.invokevirtual 69, 3) := dchk_at dall_X5_slackLength_20_st06_0 (k := 8) rfl
theorem dX5_slackLength_15 : decode cX5_slackLength 15 = .ok (.invokestatic 94, 3) := dchk_at dall_X5_slackLength_20_st06_0 (k := 9) rfl
theorem dX5_slackLength_18 : decode cX5_slackLength 18 = .ok (.iadd, 1) := dchk_at dall_X5_slackLength_20_st06_0 (k := 10) rfl
theorem dX5_slackLength_19 : decode cX5_slackLength 19 = .ok (.ireturn, 1) := dchk_at dall_X5_slackLength_20_st06_0 (k := 11) rfl
def dl_X5_slackSites_20_st06_0 : List (Nat × Instr × Nat) := [(4, .iload_n 2, 1), (5, .aload_n 0, 1), (6, .invokevirtual 45, 3), (9, .if_icmp .ge 27, 3), (12, .iload_n 1, 1), (13, .aload_n 0, 1), (14, .iload_n 2, 1), (15, .invokevirtual 102, 3), (18, .ifCond .eq 9, 3), (27, .iconst 0, 1), (28, .ior, 1), (29, .istore_n 1, 1), (30, .iinc 2 1, 3), (33, .goto (-29), 3), (21, .iconst 1, 1), (22, .iload_n 2, 1), (23, .ishl, 1), (24, .goto 4, 3), (0, .iconst 0, 1), (1, .istore_n 1, 1), (2, .iconst 0, 1), (3, .istore_n 2, 1), (36, .iload_n 1, 1), (37, .ireturn, 1)]
set_option maxRecDepth 100000 in
theorem dall_X5_slackSites_20_st06_0 : dchk cX5_slackSites dl_X5_slackSites_20_st06_0 = true := by decide +kernel
theorem dX5_slackSites_4 : decode cX5_slackSites 4 = .ok (.iload_n 2, 1) := dchk_at dall_X5_slackSites_20_st06_0 (k := 0) rfl
theorem dX5_slackSites_5 : decode cX5_slackSites 5 = .ok (.aload_n 0, 1) := dchk_at dall_X5_slackSites_20_st06_0 (k := 1) rfl
theorem dX5_slackSites_6 : decode cX5_slackSites 6 = .ok (.invokevirtual 45, 3) := dchk_at dall_X5_slackSites_20_st06_0 (k := 2) rfl
theorem dX5_slackSites_9 : decode cX5_slackSites 9 = .ok (.if_icmp .ge 27, 3) := dchk_at dall_X5_slackSites_20_st06_0 (k := 3) rfl
theorem dX5_slackSites_12 : decode cX5_slackSites 12 = .ok (.iload_n 1, 1) := dchk_at dall_X5_slackSites_20_st06_0 (k := 4) rfl
theorem dX5_slackSites_13 : decode cX5_slackSites 13 = .ok (.aload_n 0, 1) := dchk_at dall_X5_slackSites_20_st06_0 (k := 5) rfl
theorem dX5_slackSites_14 : decode cX5_slackSites 14 = .ok (.iload_n 2, 1) := dchk_at dall_X5_slackSites_20_st06_0 (k := 6) rfl
theorem dX5_slackSites_15 : decode cX5_slackSites 15 = .ok (.invokevirtual 102, 3) := dchk_at dall_X5_slackSites_20_st06_0 (k := 7) rfl
theorem dX5_slackSites_18 : decode cX5_slackSites 18 = .ok (.ifCond .eq 9, 3) := dchk_at dall_X5_slackSites_20_st06_0 (k := 8) rfl
theorem dX5_slackSites_27 : decode cX5_slackSites 27 = .ok (.iconst 0, 1) := dchk_at dall_X5_slackSites_20_st06_0 (k := 9) rfl
theorem dX5_slackSites_28 : decode cX5_slackSites 28 = .ok (.ior, 1) := dchk_at dall_X5_slackSites_20_st06_0 (k := 10) rfl
theorem dX5_slackSites_29 : decode cX5_slackSites 29 = .ok (.istore_n 1, 1) := dchk_at dall_X5_slackSites_20_st06_0 (k := 11) rfl
theorem dX5_slackSites_30 : decode cX5_slackSites 30 = .ok (.iinc 2 1, 3) := dchk_at dall_X5_slackSites_20_st06_0 (k := 12) rfl
theorem dX5_slackSites_33 : decode cX5_slackSites 33 = .ok (.goto (-29), 3) := dchk_at dall_X5_slackSites_20_st06_0 (k := 13) rfl
theorem dX5_slackSites_21 : decode cX5_slackSites 21 = .ok (.iconst 1, 1) := dchk_at dall_X5_slackSites_20_st06_0 (k := 14) rfl
theorem dX5_slackSites_22 : decode cX5_slackSites 22 = .ok (.iload_n 2, 1) := dchk_at dall_X5_slackSites_20_st06_0 (k := 15) rfl
theorem dX5_slackSites_23 : decode cX5_slackSites 23 = .ok (.ishl, 1) := dchk_at dall_X5_slackSites_20_st06_0 (k := 16) rfl
theorem dX5_slackSites_24 : decode cX5_slackSites 24 = .ok (.goto 4, 3) := dchk_at dall_X5_slackSites_20_st06_0 (k := 17) rfl
theorem dX5_slackSites_0 : decode cX5_slackSites 0 = .ok (.iconst 0, 1) := dchk_at dall_X5_slackSites_20_st06_0 (k := 18) rfl
theorem dX5_slackSites_1 : decode cX5_slackSites 1 = .ok (.istore_n 1, 1) := dchk_at dall_X5_slackSites_20_st06_0 (k := 19) rfl
theorem dX5_slackSites_2 : decode cX5_slackSites 2 = .ok (.iconst 0, 1) := dchk_at dall_X5_slackSites_20_st06_0 (k := 20) rfl
theorem dX5_slackSites_3 : decode cX5_slackSites 3 = .ok (.istore_n 2, 1) := dchk_at dall_X5_slackSites_20_st06_0 (k := 21) rfl
theorem dX5_slackSites_36 : decode cX5_slackSites 36 = .ok (.iload_n 1, 1) := dchk_at dall_X5_slackSites_20_st06_0 (k := 22) rfl
theorem dX5_slackSites_37 : decode cX5_slackSites 37 = .ok (.ireturn, 1) := dchk_at dall_X5_slackSites_20_st06_0 (k := 23) rfl
def dl_X5_unmovedSites_20_st06_0 : List (Nat × Instr × Nat) := [(47, .istore_n 3, 1), (48, .iload_n 1, 1), (49, .iload_n 3, 1), (50, .ifCond .eq 9, 3), (59, .iconst 0, 1), (60, .ior, 1), (61, .istore_n 1, 1), (62, .iinc 2 1, 3), (65, .goto (-61), 3), (53, .iconst 1, 1), (54, .iload_n 2, 1), (55, .ishl, 1), (56, .goto 4, 3), (46, .iconst 0, 1), (4, .iload_n 2, 1), (5, .aload_n 0, 1), (6, .invokevirtual 45, 3), (9, .if_icmp .ge 59, 3), (12, .aload_n 0, 1), (13, .iload_n 2, 1), (14, .iconst 0, 1), (15, .invokevirtual 69, 3), (18, .aload_n 0, 1), (19, .iload_n 2, 1), (20, .iconst 2, 1), (21, .invokevirtual 69, 3), (24, .if_icmp .ne 22, 3), (27, .aload_n 0, 1), (28, .iload_n 2, 1), (29, .iconst 1, 1), (30, .invokevirtual 69, 3), (33, .aload_n 0, 1), (34, .iload_n 2, 1), (35, .iconst 3, 1), (36, .invokevirtual 69, 3), (39, .if_icmp .ne 7, 3), (42, .iconst 1, 1), (43, .goto 4, 3), (0, .iconst 0, 1), (1, .istore_n 1, 1), (2, .iconst 0, 1), (3, .istore_n 2, 1), (68, .iload_n 1, 1), (69, .ireturn, 1)]
set_option maxRecDepth 100000 in
theorem dall_X5_unmovedSites_20_st06_0 : dchk cX5_unmovedSites dl_X5_unmovedSites_20_st06_0 = true := by decide +kernel
theorem dX5_unmovedSites_47 : decode cX5_unmovedSites 47 = .ok (.istore_n 3, 1) := dchk_at dall_X5_unmovedSites_20_st06_0 (k := 0) rfl
theorem dX5_unmovedSites_48 : decode cX5_unmovedSites 48 = .ok (.iload_n 1, 1) := dchk_at dall_X5_unmovedSites_20_st06_0 (k := 1) rfl
theorem dX5_unmovedSites_49 : decode cX5_unmovedSites 49 = .ok (.iload_n 3, 1) := dchk_at dall_X5_unmovedSites_20_st06_0 (k := 2) rfl
theorem dX5_unmovedSites_50 : decode cX5_unmovedSites 50 = .ok (.ifCond .eq 9, 3) := dchk_at dall_X5_unmovedSites_20_st06_0 (k := 3) rfl
theorem dX5_unmovedSites_59 : decode cX5_unmovedSites 59 = .ok (.iconst 0, 1) := dchk_at dall_X5_unmovedSites_20_st06_0 (k := 4) rfl
theorem dX5_unmovedSites_60 : decode cX5_unmovedSites 60 = .ok (.ior, 1) := dchk_at dall_X5_unmovedSites_20_st06_0 (k := 5) rfl
theorem dX5_unmovedSites_61 : decode cX5_unmovedSites 61 = .ok (.istore_n 1, 1) := dchk_at dall_X5_unmovedSites_20_st06_0 (k := 6) rfl
theorem dX5_unmovedSites_62 : decode cX5_unmovedSites 62 = .ok (.iinc 2 1, 3) := dchk_at dall_X5_unmovedSites_20_st06_0 (k := 7) rfl
theorem dX5_unmovedSites_65 : decode cX5_unmovedSites 65 = .ok (.goto (-61), 3) := dchk_at dall_X5_unmovedSites_20_st06_0 (k := 8) rfl
theorem dX5_unmovedSites_53 : decode cX5_unmovedSites 53 = .ok (.iconst 1, 1) := dchk_at dall_X5_unmovedSites_20_st06_0 (k := 9) rfl
theorem dX5_unmovedSites_54 : decode cX5_unmovedSites 54 = .ok (.iload_n 2, 1) := dchk_at dall_X5_unmovedSites_20_st06_0 (k := 10) rfl
theorem dX5_unmovedSites_55 : decode cX5_unmovedSites 55 = .ok (.ishl, 1) := dchk_at dall_X5_unmovedSites_20_st06_0 (k := 11) rfl
theorem dX5_unmovedSites_56 : decode cX5_unmovedSites 56 = .ok (.goto 4, 3) := dchk_at dall_X5_unmovedSites_20_st06_0 (k := 12) rfl
theorem dX5_unmovedSites_46 : decode cX5_unmovedSites 46 = .ok (.iconst 0, 1) := dchk_at dall_X5_unmovedSites_20_st06_0 (k := 13) rfl
theorem dX5_unmovedSites_4 : decode cX5_unmovedSites 4 = .ok (.iload_n 2, 1) := dchk_at dall_X5_unmovedSites_20_st06_0 (k := 14) rfl
theorem dX5_unmovedSites_5 : decode cX5_unmovedSites 5 = .ok (.aload_n 0, 1) := dchk_at dall_X5_unmovedSites_20_st06_0 (k := 15) rfl
theorem dX5_unmovedSites_6 : decode cX5_unmovedSites 6 = .ok (.invokevirtual 45, 3) := dchk_at dall_X5_unmovedSites_20_st06_0 (k := 16) rfl
theorem dX5_unmovedSites_9 : decode cX5_unmovedSites 9 = .ok (.if_icmp .ge 59, 3) := dchk_at dall_X5_unmovedSites_20_st06_0 (k := 17) rfl
theorem dX5_unmovedSites_12 : decode cX5_unmovedSites 12 = .ok (.aload_n 0, 1) := dchk_at dall_X5_unmovedSites_20_st06_0 (k := 18) rfl
theorem dX5_unmovedSites_13 : decode cX5_unmovedSites 13 = .ok (.iload_n 2, 1) := dchk_at dall_X5_unmovedSites_20_st06_0 (k := 19) rfl
theorem dX5_unmovedSites_14 : decode cX5_unmovedSites 14 = .ok (.iconst 0, 1) := dchk_at dall_X5_unmovedSites_20_st06_0 (k := 20) rfl
theorem dX5_unmovedSites_15 : decode cX5_unmovedSites 15 = .ok (.invokevirtual 69, 3) := dchk_at dall_X5_unmovedSites_20_st06_0 (k := 21) rfl
theorem dX5_unmovedSites_18 : decode cX5_unmovedSites 18 = .ok (.aload_n 0, 1) := dchk_at dall_X5_unmovedSites_20_st06_0 (k := 22) rfl
theorem dX5_unmovedSites_19 : decode cX5_unmovedSites 19 = .ok (.iload_n 2, 1) := dchk_at dall_X5_unmovedSites_20_st06_0 (k := 23) rfl
theorem dX5_unmovedSites_20 : decode cX5_unmovedSites 20 = .ok (.iconst 2, 1) := dchk_at dall_X5_unmovedSites_20_st06_0 (k := 24) rfl
theorem dX5_unmovedSites_21 : decode cX5_unmovedSites 21 = .ok (.invokevirtual 69, 3) := dchk_at dall_X5_unmovedSites_20_st06_0 (k := 25) rfl
theorem dX5_unmovedSites_24 : decode cX5_unmovedSites 24 = .ok (.if_icmp .ne 22, 3) := dchk_at dall_X5_unmovedSites_20_st06_0 (k := 26) rfl
theorem dX5_unmovedSites_27 : decode cX5_unmovedSites 27 = .ok (.aload_n 0, 1) := dchk_at dall_X5_unmovedSites_20_st06_0 (k := 27) rfl
theorem dX5_unmovedSites_28 : decode cX5_unmovedSites 28 = .ok (.iload_n 2, 1) := dchk_at dall_X5_unmovedSites_20_st06_0 (k := 28) rfl
theorem dX5_unmovedSites_29 : decode cX5_unmovedSites 29 = .ok (.iconst 1, 1) := dchk_at dall_X5_unmovedSites_20_st06_0 (k := 29) rfl
theorem dX5_unmovedSites_30 : decode cX5_unmovedSites 30 = .ok (.invokevirtual 69, 3) := dchk_at dall_X5_unmovedSites_20_st06_0 (k := 30) rfl
theorem dX5_unmovedSites_33 : decode cX5_unmovedSites 33 = .ok (.aload_n 0, 1) := dchk_at dall_X5_unmovedSites_20_st06_0 (k := 31) rfl
theorem dX5_unmovedSites_34 : decode cX5_unmovedSites 34 = .ok (.iload_n 2, 1) := dchk_at dall_X5_unmovedSites_20_st06_0 (k := 32) rfl
theorem dX5_unmovedSites_35 : decode cX5_unmovedSites 35 = .ok (.iconst 3, 1) := dchk_at dall_X5_unmovedSites_20_st06_0 (k := 33) rfl
theorem dX5_unmovedSites_36 : decode cX5_unmovedSites 36 = .ok (.invokevirtual 69, 3) := dchk_at dall_X5_unmovedSites_20_st06_0 (k := 34) rfl
theorem dX5_unmovedSites_39 : decode cX5_unmovedSites 39 = .ok (.if_icmp .ne 7, 3) := dchk_at dall_X5_unmovedSites_20_st06_0 (k := 35) rfl
theorem dX5_unmovedSites_42 : decode cX5_unmovedSites 42 = .ok (.iconst 1, 1) := dchk_at dall_X5_unmovedSites_20_st06_0 (k := 36) rfl
theorem dX5_unmovedSites_43 : decode cX5_unmovedSites 43 = .ok (.goto 4, 3) := dchk_at dall_X5_unmovedSites_20_st06_0 (k := 37) rfl
theorem dX5_unmovedSites_0 : decode cX5_unmovedSites 0 = .ok (.iconst 0, 1) := dchk_at dall_X5_unmovedSites_20_st06_0 (k := 38) rfl
theorem dX5_unmovedSites_1 : decode cX5_unmovedSites 1 = .ok (.istore_n 1, 1) := dchk_at dall_X5_unmovedSites_20_st06_0 (k := 39) rfl
theorem dX5_unmovedSites_2 : decode cX5_unmovedSites 2 = .ok (.iconst 0, 1) := dchk_at dall_X5_unmovedSites_20_st06_0 (k := 40) rfl
theorem dX5_unmovedSites_3 : decode cX5_unmovedSites 3 = .ok (.istore_n 2, 1) := dchk_at dall_X5_unmovedSites_20_st06_0 (k := 41) rfl
theorem dX5_unmovedSites_68 : decode cX5_unmovedSites 68 = .ok (.iload_n 1, 1) := dchk_at dall_X5_unmovedSites_20_st06_0 (k := 42) rfl
theorem dX5_unmovedSites_69 : decode cX5_unmovedSites 69 = .ok (.ireturn, 1) := dchk_at dall_X5_unmovedSites_20_st06_0 (k := 43) rfl
def F_X5_refusal (p1 : Int32) (p2 : Int32) (p3 : Int32) (p4 : Int32) (c_row : Nat → Int32) : Option (Int32) :=
  bd1 (F_X5_stands c_row) (fun r_1 => if r_1 = (0 : Int32) then some (0 : Int32) else if p1 = (0 : Int32) then bd1 (F_X5_moveRefusal p2 p3 p4 c_row) (fun r_6 => some r_6) else if p1 = (1 : Int32) then some (-1 : Int32) else if p1 = (2 : Int32) then bd1 (F_X5_setRefusal p2 (-9999999 : Int32) (9999999 : Int32) (c_row 1)) (fun r_8 => some r_8) else if p1 = (3 : Int32) then bd1 (F_X5_setRefusal p2 (0 : Int32) (3 : Int32) (c_row 0)) (fun r_10 => some r_10) else if p1 = (4 : Int32) then bd1 (F_X5_addRefusal p2 p3 c_row) (fun r_12 => some r_12) else if p1 = (5 : Int32) then if p2 < (1 : Int32) then some (1 : Int32) else if p2 ≤ (9999 : Int32) then some (-1 : Int32) else some (1 : Int32) else if p1 = (6 : Int32) then bd1 (F_X5_freezeRefusal p2 c_row) (fun r_16 => some r_16) else some (-1 : Int32))
abbrev w_X5_refusal (E : EE) (a_ a_row a_partners a_share a_leftOver : Nat) (c_askedCount : Int32) (c_outcome : Int32) (c_row : Nat → Int32) : va_W := [(a_, .inr (6, [.ref a_row, .ref a_partners, .int c_askedCount, .int c_outcome, .ref a_share, .ref a_leftOver])), (a_row, .inl (E.2.1, 81, .inl c_row))]
def v_f_X5_refusal : List Cond := .code yX5_refusal cX5_refusal 5 (some .int) :: ([.constant RX5 112 (-9999999), .constant RX5 113 (9999999), .fieldLink RX5 11 "HushWatch$State" "row" "[I", .methodLink RX5 105 yX5_stands, .instanceMethod yX5_stands, .selects RX5 yX5_stands yX5_stands, .initialized RX5, .methodLink RX5 108 yX5_moveRefusal, .instanceMethod yX5_moveRefusal, .selects RX5 yX5_moveRefusal yX5_moveRefusal, .methodLink RX5 114 yX5_setRefusal, .static yX5_setRefusal, .methodLink RX5 118 yX5_addRefusal, .instanceMethod yX5_addRefusal, .selects RX5 yX5_addRefusal yX5_addRefusal, .methodLink RX5 121 yX5_freezeRefusal, .instanceMethod yX5_freezeRefusal, .selects RX5 yX5_freezeRefusal yX5_freezeRefusal] ++ (v_f_X5_stands ++ (v_f_X5_moveRefusal ++ (wsX50 ++ (v_f_X5_setRefusal ++ (v_f_X5_addRefusal ++ (v_f_X5_freezeRefusal ++ ([]))))))))
theorem gw_f_X5_refusal : v_f_X5_refusal.all goodWord = true := by decide +kernel
theorem i_f_X5_refusal_X5 : ∀ w ∈ wsX50, w ∈ v_f_X5_refusal := fun _ h => List.mem_cons_of_mem _ (List.mem_append_right _ (List.mem_append_right _ (List.mem_append_right _ (List.mem_append_left _ h))))
theorem g_f_X5_refusal_f_X5_stands_105 : GoodIn v_f_X5_refusal (wsV RX5 105 RX5 yX5_stands v_f_X5_stands) := goodIn_app (goodIn_of _ (by decide +kernel)) (goodIn_sub (fun _ h => List.mem_cons_of_mem _ (List.mem_append_right _ (List.mem_append_left _ h))) gw_f_X5_stands)
theorem g_f_X5_refusal_f_X5_moveRefusal_108 : GoodIn v_f_X5_refusal (wsV RX5 108 RX5 yX5_moveRefusal v_f_X5_moveRefusal) := goodIn_app (goodIn_of _ (by decide +kernel)) (goodIn_sub (fun _ h => List.mem_cons_of_mem _ (List.mem_append_right _ (List.mem_append_right _ (List.mem_append_left _ h)))) gw_f_X5_moveRefusal)
theorem g_f_X5_refusal_f_X5_setRefusal_114 : GoodIn v_f_X5_refusal (va_wsS RX5 114 yX5_setRefusal v_f_X5_setRefusal) := goodIn_app (goodIn_of _ (by decide +kernel)) (goodIn_sub (fun _ h => List.mem_cons_of_mem _ (List.mem_append_right _ (List.mem_append_right _ (List.mem_append_right _ (List.mem_append_right _ (List.mem_append_left _ h)))))) gw_f_X5_setRefusal)
theorem g_f_X5_refusal_f_X5_addRefusal_118 : GoodIn v_f_X5_refusal (wsV RX5 118 RX5 yX5_addRefusal v_f_X5_addRefusal) := goodIn_app (goodIn_of _ (by decide +kernel)) (goodIn_sub (fun _ h => List.mem_cons_of_mem _ (List.mem_append_right _ (List.mem_append_right _ (List.mem_append_right _ (List.mem_append_right _ (List.mem_append_right _ (List.mem_append_left _ h))))))) gw_f_X5_addRefusal)
theorem g_f_X5_refusal_f_X5_freezeRefusal_121 : GoodIn v_f_X5_refusal (wsV RX5 121 RX5 yX5_freezeRefusal v_f_X5_freezeRefusal) := goodIn_app (goodIn_of _ (by decide +kernel)) (goodIn_sub (fun _ h => List.mem_cons_of_mem _ (List.mem_append_right _ (List.mem_append_right _ (List.mem_append_right _ (List.mem_append_right _ (List.mem_append_right _ (List.mem_append_right _ (List.mem_append_left _ h)))))))) gw_f_X5_freezeRefusal)
theorem hd_X5_refusal : yX5_refusal.cls = RX5 ∧ yX5_refusal.cls ≠ "java/lang/invoke/MethodHandle" ∧ yX5_refusal.cls ≠ "java/lang/invoke/VarHandle" ∧ (parseMethodDescriptor yX5_refusal.desc).map (fun d => d.parameters.length) = some 4 := by decide +kernel
set_option maxHeartbeats 4000000 in
set_option maxRecDepth 100000 in
theorem f_X5_refusal (l : Launch) (E : EE) {a_ a_row a_partners a_share a_leftOver : Nat} {p1 : Int32} {p2 : Int32} {p3 : Int32} {p4 : Int32} {c_askedCount : Int32} {c_outcome : Int32} {c_row : Nat → Int32} {rr : Int32} (hF : F_X5_refusal p1 p2 p3 p4 c_row = some rr) : Met l yX5_refusal v_f_X5_refusal (({ frames := 3, cells := 0, slots := 0, locals := 68 } : Room)) (va_Pc [.ref a_, .int p1, .int p2, .int p3, .int p4] (pP E (w_X5_refusal E a_ a_row a_partners a_share a_leftOver c_askedCount c_outcome c_row))) (vp_Si (fun q : Int32 => q = rr)) 0 0 (fun _ => False) := by
  refine Met.ofW (cc := cX5_refusal) (maxL := 5) (ret := (some .int)) (by decide) rfl ?_
  intro p e s m args below meth c s₁ B hml hv
  obtain ⟨rfl, ⟨hK, hN⟩, hP⟩ := hv
  have hx := B.exec
  have hb := B.bytes
  have hr := B.returns
  have hts := atoms_spec (ws := v_f_X5_refusal) B.pre
  have hown : s.vm.findClass RX5 = some m.cls := own_of hd_X5_refusal.1 (findClass_of_methodNamed B.named)
  have hlocks : meth.locks = false := B.notSynchronized
  replace hP : va_P E.1 vwCl [(a_, .inr (6, [.ref a_row, .ref a_partners, .int c_askedCount, .int c_outcome, .ref a_share, .ref a_leftOver])), (a_row, .inl (E.2.1, 81, .inl c_row))] s.heap := hP
  have hl := lv_entry ([.ref a_, .int p1, .int p2, .int p3, .int p4]) (n := 5) (Nat.le_of_ble_eq_true rfl)
  rw [lg_entry_eq]
  generalize (lg_sl ([.ref a_, .int p1, .int p2, .int p3, .int p4]) ++ List.replicate (5 - (lg_sl ([.ref a_, .int p1, .int p2, .int p3, .int p4])).length) Slot.unset).toArray = ls at hl ⊢
  have hl : lv_has ls 5 [(0, .ref a_), (1, .int p1), (2, .int p2), (3, .int p3), (4, .int p4)] := hl
  obtain ⟨Q, hQ⟩ : ∃ Q : State → Prop, Q = MQ below (vp_Si (fun q : Int32 => q = rr)) #[Value.ref a_, Value.int p1, Value.int p2, Value.int p3, Value.int p4] s 0 0 (fun _ => False) := ⟨_, rfl⟩
  rw [← hQ]
  change W p l e ({ frames := 3, cells := 0, slots := 0, locals := 68 } : Room) s m #[Value.ref a_, Value.int p1, Value.int p2, Value.int p3, Value.int p4] below meth c s.heap [] 0 0 Q (F0 m 0 ls [])
  unfold F_X5_refusal at hF
  refine lv_aload_n hx hb dX5_refusal_0 rfl (lv_at hl 0 rfl) ?_
  replace hF := bd1_s hF
  obtain ⟨r_1, hc_2, hF⟩ := hF
  have hPc : va_P E.1 vwCl (w_X5_stands E a_ a_row a_partners a_share a_leftOver c_askedCount c_outcome c_row) s.heap := hP.sub (ws' := [(a_, .inr (6, [.ref a_row, .ref a_partners, .int c_askedCount, .int c_outcome, .ref a_share, .ref a_leftOver])), (a_row, .inl (E.2.1, 81, .inl c_row))]) [0, 1] rfl
  have hrc := va_recv hK hPc (ci := 6) (q0 := 0) rfl rfl
  refine pE_z (va_runV (As := []) (rest := [])  ⟨hx, hb, hml, hown, hts⟩ (f_X5_stands l E (a_ := a_) (a_row := a_row) (a_partners := a_partners) (a_share := a_share) (a_leftOver := a_leftOver) (c_askedCount := c_askedCount) (c_outcome := c_outcome) (c_row := c_row) hc_2) (cwV 0 hts g_f_X5_refusal_f_X5_stands_105 rfl rfl rfl hd_X5_stands ⟨Nat.le_of_ble_eq_true rfl, Nat.le_of_ble_eq_true rfl⟩) ⟨pP.blind, hrc, (pP.pre ⟨hK, hN⟩ hPc)⟩ rfl rfl hl.1 rfl (lv_room (Nat.le_of_ble_eq_true rfl)) dX5_refusal_1 ⟨Nat.le_of_ble_eq_true rfl, Nat.le_of_ble_eq_true rfl⟩) (fun hb_3 => ?_)
  refine lv_if_ne (tgt := 9) hx hb dX5_refusal_4 (by decide) (fun c_4 => ?_) (fun c_4 => ?_)
  ·
    replace hF := inn c_4 hF
    refine lv_iload_n hx hb dX5_refusal_9 rfl (lv_at hl 1 rfl) ?_
    rcases Classical.em (p1 = (0 : Int32)) with c_5_0 | c_5_0
    ·
      replace hF := ip c_5_0 hF
      refine lv_tableIn (off := 42) (tgt := 52) hx hb dX5_refusal_10 (by rw [c_5_0]; decide) (by rw [c_5_0]; decide) (by rw [c_5_0]; decide) (by decide) ?_
      refine lv_aload_n hx hb dX5_refusal_52 rfl (lv_at hl 0 rfl) ?_
      refine lv_iload_n hx hb dX5_refusal_53 rfl (lv_at hl 2 rfl) ?_
      refine lv_iload_n hx hb dX5_refusal_54 rfl (lv_at hl 3 rfl) ?_
      refine lv_iload hx hb dX5_refusal_55 (lv_at hl 4 rfl) ?_
      replace hF := bd1_s hF
      obtain ⟨r_6, hc_7, hF⟩ := hF
      have hPc : va_P E.1 vwCl (w_X5_moveRefusal E a_ a_row a_partners a_share a_leftOver c_askedCount c_outcome c_row) s.heap := hP.sub (ws' := [(a_, .inr (6, [.ref a_row, .ref a_partners, .int c_askedCount, .int c_outcome, .ref a_share, .ref a_leftOver])), (a_row, .inl (E.2.1, 81, .inl c_row))]) [0, 1] rfl
      have hrc := va_recv hK hPc (ci := 6) (q0 := 0) rfl rfl
      refine pE_i (va_runV (As := [.int p2, .int p3, .int p4]) (rest := [])  ⟨hx, hb, hml, hown, hts⟩ (f_X5_moveRefusal l E (a_ := a_) (a_row := a_row) (a_partners := a_partners) (a_share := a_share) (a_leftOver := a_leftOver) (p1 := p2) (p2 := p3) (p3 := p4) (c_askedCount := c_askedCount) (c_outcome := c_outcome) (c_row := c_row) hc_7) (cwV 3 hts g_f_X5_refusal_f_X5_moveRefusal_108 rfl rfl rfl hd_X5_moveRefusal ⟨Nat.le_of_ble_eq_true rfl, Nat.le_of_ble_eq_true rfl⟩) ⟨pP.blind, hrc, (pP.pre ⟨hK, hN⟩ hPc)⟩ rfl rfl hl.1 rfl (lv_room (Nat.le_of_ble_eq_true rfl)) dX5_refusal_57 ⟨Nat.le_of_ble_eq_true rfl, Nat.le_of_ble_eq_true rfl⟩) ?_
      rw [hQ]
      obtain e9_0 := inj1 hF
      exact W.iret (v := r_6) hx hb hr (fun tt ht hW => ⟨_, rfl, e9_0, ht⟩) (fun _ h => by cases h) dX5_refusal_60
    replace hF := inn c_5_0 hF
    rcases Classical.em (p1 = (1 : Int32)) with c_5_1 | c_5_1
    ·
      replace hF := ip c_5_1 hF
      refine lv_tableIn (off := 110) (tgt := 120) hx hb dX5_refusal_10 (by rw [c_5_1]; decide) (by rw [c_5_1]; decide) (by rw [c_5_1]; decide) (by decide) ?_
      refine lv_iconst (v := -1) hx hb dX5_refusal_120 (by decide) ?_
      rw [hQ]
      obtain e9_0 := inj1 hF
      exact W.iret (v := (-1 : Int32)) hx hb hr (fun tt ht hW => ⟨_, rfl, e9_0, ht⟩) (fun _ h => by cases h) dX5_refusal_121
    replace hF := inn c_5_1 hF
    rcases Classical.em (p1 = (2 : Int32)) with c_5_2 | c_5_2
    ·
      replace hF := ip c_5_2 hF
      refine lv_tableIn (off := 51) (tgt := 61) hx hb dX5_refusal_10 (by rw [c_5_2]; decide) (by rw [c_5_2]; decide) (by rw [c_5_2]; decide) (by decide) ?_
      refine lv_iload_n hx hb dX5_refusal_61 rfl (lv_at hl 2 rfl) ?_
      refine lv_ldc (v := -9999999) hx hb hown (hts (.constant RX5 112 (-9999999)) (List.mem_of_getElem? (i := 1) rfl)) dX5_refusal_62 ?_
      refine lv_ldc (v := 9999999) hx hb hown (hts (.constant RX5 113 (9999999)) (List.mem_of_getElem? (i := 2) rfl)) dX5_refusal_64 ?_
      refine lv_aload_n hx hb dX5_refusal_66 rfl (lv_at hl 0 rfl) ?_
      refine gt_X5_0 (v := .ref a_row) hx hb hts i_f_X5_refusal_X5 hown hK hP 0 rfl (hts (.fieldLink RX5 11 "HushWatch$State" "row" "[I") (List.mem_of_getElem? (i := 3) rfl)) rfl dX5_refusal_67 ?_
      refine lv_iconst (v := 1) hx hb dX5_refusal_70 (by decide) ?_
      refine va_iald hx hb hK hP 1 0 rfl rfl (vin rfl) dX5_refusal_71 ?_
      refine W.eq (g2 := F0 m 72 ls [.int (c_row 1), .int (9999999 : Int32), .int (-9999999 : Int32), .int p2]) rfl ?_
      replace hF := bd1_s hF
      obtain ⟨r_8, hc_9, hF⟩ := hF
      have hPc : va_P E.1 vwCl [] s.heap := fun k q h => by simp at h
      refine pE_i (va_runS (As := [.int p2, .int (-9999999 : Int32), .int (9999999 : Int32), .int (c_row 1)]) (rest := [])  ⟨hx, hb, hml, hown, hts⟩ (f_X5_setRefusal l E (p0 := p2) (p1 := (-9999999 : Int32)) (p2 := (9999999 : Int32)) (p3 := c_row 1) hc_9) (va_cwS 4 hts g_f_X5_refusal_f_X5_setRefusal_114 rfl rfl rfl hd_X5_setRefusal.2 ⟨Nat.le_of_ble_eq_true rfl, Nat.le_of_ble_eq_true rfl⟩) ⟨pP.blind, (pP.pre ⟨hK, hN⟩ hPc)⟩ rfl rfl hl.1 rfl (lv_room (Nat.le_of_ble_eq_true rfl)) dX5_refusal_72 ⟨Nat.le_of_ble_eq_true rfl, Nat.le_of_ble_eq_true rfl⟩) ?_
      rw [hQ]
      obtain e9_0 := inj1 hF
      exact W.iret (v := r_8) hx hb hr (fun tt ht hW => ⟨_, rfl, e9_0, ht⟩) (fun _ h => by cases h) dX5_refusal_75
    replace hF := inn c_5_2 hF
    rcases Classical.em (p1 = (3 : Int32)) with c_5_3 | c_5_3
    ·
      replace hF := ip c_5_3 hF
      refine lv_tableIn (off := 66) (tgt := 76) hx hb dX5_refusal_10 (by rw [c_5_3]; decide) (by rw [c_5_3]; decide) (by rw [c_5_3]; decide) (by decide) ?_
      refine lv_iload_n hx hb dX5_refusal_76 rfl (lv_at hl 2 rfl) ?_
      refine lv_iconst (v := 0) hx hb dX5_refusal_77 (by decide) ?_
      refine lv_iconst (v := 3) hx hb dX5_refusal_78 (by decide) ?_
      refine lv_aload_n hx hb dX5_refusal_79 rfl (lv_at hl 0 rfl) ?_
      refine gt_X5_0 (v := .ref a_row) hx hb hts i_f_X5_refusal_X5 hown hK hP 0 rfl (hts (.fieldLink RX5 11 "HushWatch$State" "row" "[I") (List.mem_of_getElem? (i := 3) rfl)) rfl dX5_refusal_80 ?_
      refine lv_iconst (v := 0) hx hb dX5_refusal_83 (by decide) ?_
      refine va_iald hx hb hK hP 1 0 rfl rfl (vin rfl) dX5_refusal_84 ?_
      refine W.eq (g2 := F0 m 85 ls [.int (c_row 0), .int (3 : Int32), .int (0 : Int32), .int p2]) rfl ?_
      replace hF := bd1_s hF
      obtain ⟨r_10, hc_11, hF⟩ := hF
      have hPc : va_P E.1 vwCl [] s.heap := fun k q h => by simp at h
      refine pE_i (va_runS (As := [.int p2, .int (0 : Int32), .int (3 : Int32), .int (c_row 0)]) (rest := [])  ⟨hx, hb, hml, hown, hts⟩ (f_X5_setRefusal l E (p0 := p2) (p1 := (0 : Int32)) (p2 := (3 : Int32)) (p3 := c_row 0) hc_11) (va_cwS 4 hts g_f_X5_refusal_f_X5_setRefusal_114 rfl rfl rfl hd_X5_setRefusal.2 ⟨Nat.le_of_ble_eq_true rfl, Nat.le_of_ble_eq_true rfl⟩) ⟨pP.blind, (pP.pre ⟨hK, hN⟩ hPc)⟩ rfl rfl hl.1 rfl (lv_room (Nat.le_of_ble_eq_true rfl)) dX5_refusal_85 ⟨Nat.le_of_ble_eq_true rfl, Nat.le_of_ble_eq_true rfl⟩) ?_
      rw [hQ]
      obtain e9_0 := inj1 hF
      exact W.iret (v := r_10) hx hb hr (fun tt ht hW => ⟨_, rfl, e9_0, ht⟩) (fun _ h => by cases h) dX5_refusal_88
    replace hF := inn c_5_3 hF
    rcases Classical.em (p1 = (4 : Int32)) with c_5_4 | c_5_4
    ·
      replace hF := ip c_5_4 hF
      refine lv_tableIn (off := 79) (tgt := 89) hx hb dX5_refusal_10 (by rw [c_5_4]; decide) (by rw [c_5_4]; decide) (by rw [c_5_4]; decide) (by decide) ?_
      refine lv_aload_n hx hb dX5_refusal_89 rfl (lv_at hl 0 rfl) ?_
      refine lv_iload_n hx hb dX5_refusal_90 rfl (lv_at hl 2 rfl) ?_
      refine lv_iload_n hx hb dX5_refusal_91 rfl (lv_at hl 3 rfl) ?_
      replace hF := bd1_s hF
      obtain ⟨r_12, hc_13, hF⟩ := hF
      have hPc : va_P E.1 vwCl (w_X5_addRefusal E a_ a_row a_partners a_share a_leftOver c_askedCount c_outcome c_row) s.heap := hP.sub (ws' := [(a_, .inr (6, [.ref a_row, .ref a_partners, .int c_askedCount, .int c_outcome, .ref a_share, .ref a_leftOver])), (a_row, .inl (E.2.1, 81, .inl c_row))]) [0, 1] rfl
      have hrc := va_recv hK hPc (ci := 6) (q0 := 0) rfl rfl
      refine pE_i (va_runV (As := [.int p2, .int p3]) (rest := [])  ⟨hx, hb, hml, hown, hts⟩ (f_X5_addRefusal l E (a_ := a_) (a_row := a_row) (a_partners := a_partners) (a_share := a_share) (a_leftOver := a_leftOver) (p1 := p2) (p2 := p3) (c_askedCount := c_askedCount) (c_outcome := c_outcome) (c_row := c_row) hc_13) (cwV 2 hts g_f_X5_refusal_f_X5_addRefusal_118 rfl rfl rfl hd_X5_addRefusal ⟨Nat.le_of_ble_eq_true rfl, Nat.le_of_ble_eq_true rfl⟩) ⟨pP.blind, hrc, (pP.pre ⟨hK, hN⟩ hPc)⟩ rfl rfl hl.1 rfl (lv_room (Nat.le_of_ble_eq_true rfl)) dX5_refusal_92 ⟨Nat.le_of_ble_eq_true rfl, Nat.le_of_ble_eq_true rfl⟩) ?_
      rw [hQ]
      obtain e9_0 := inj1 hF
      exact W.iret (v := r_12) hx hb hr (fun tt ht hW => ⟨_, rfl, e9_0, ht⟩) (fun _ h => by cases h) dX5_refusal_95
    replace hF := inn c_5_4 hF
    rcases Classical.em (p1 = (5 : Int32)) with c_5_5 | c_5_5
    ·
      replace hF := ip c_5_5 hF
      refine lv_tableIn (off := 86) (tgt := 96) hx hb dX5_refusal_10 (by rw [c_5_5]; decide) (by rw [c_5_5]; decide) (by rw [c_5_5]; decide) (by decide) ?_
      refine lv_iload_n hx hb dX5_refusal_96 rfl (lv_at hl 2 rfl) ?_
      refine lv_iconst (v := 1) hx hb dX5_refusal_97 (by decide) ?_
      refine lv_icmp_lt (tgt := 108) hx hb dX5_refusal_98 (by decide) (fun c_14 => ?_) (fun c_14 => ?_)
      ·
        replace hF := ip c_14 hF
        refine lv_iconst (v := 1) hx hb dX5_refusal_108 (by decide) ?_
        refine lv_goto (tgt := 113) hx hb dX5_refusal_109 (by decide) ?_
        rw [hQ]
        obtain e9_0 := inj1 hF
        exact W.iret (v := (1 : Int32)) hx hb hr (fun tt ht hW => ⟨_, rfl, e9_0, ht⟩) (fun _ h => by cases h) dX5_refusal_113
      ·
        replace hF := inn c_14 hF
        refine lv_iload_n hx hb dX5_refusal_101 rfl (lv_at hl 2 rfl) ?_
        refine lv_sipush (v := 9999) hx hb dX5_refusal_102 (by decide) ?_
        refine lv_icmp_le (tgt := 112) hx hb dX5_refusal_105 (by decide) (fun c_15 => ?_) (fun c_15 => ?_)
        ·
          replace hF := ip c_15 hF
          refine lv_iconst (v := -1) hx hb dX5_refusal_112 (by decide) ?_
          rw [hQ]
          obtain e9_0 := inj1 hF
          exact W.iret (v := (-1 : Int32)) hx hb hr (fun tt ht hW => ⟨_, rfl, e9_0, ht⟩) (fun _ h => by cases h) dX5_refusal_113
        ·
          replace hF := inn c_15 hF
          refine lv_iconst (v := 1) hx hb dX5_refusal_108 (by decide) ?_
          refine lv_goto (tgt := 113) hx hb dX5_refusal_109 (by decide) ?_
          rw [hQ]
          obtain e9_0 := inj1 hF
          exact W.iret (v := (1 : Int32)) hx hb hr (fun tt ht hW => ⟨_, rfl, e9_0, ht⟩) (fun _ h => by cases h) dX5_refusal_113
    replace hF := inn c_5_5 hF
    rcases Classical.em (p1 = (6 : Int32)) with c_5_6 | c_5_6
    ·
      replace hF := ip c_5_6 hF
      refine lv_tableIn (off := 104) (tgt := 114) hx hb dX5_refusal_10 (by rw [c_5_6]; decide) (by rw [c_5_6]; decide) (by rw [c_5_6]; decide) (by decide) ?_
      refine lv_aload_n hx hb dX5_refusal_114 rfl (lv_at hl 0 rfl) ?_
      refine lv_iload_n hx hb dX5_refusal_115 rfl (lv_at hl 2 rfl) ?_
      replace hF := bd1_s hF
      obtain ⟨r_16, hc_17, hF⟩ := hF
      have hPc : va_P E.1 vwCl (w_X5_freezeRefusal E a_ a_row a_partners a_share a_leftOver c_askedCount c_outcome c_row) s.heap := hP.sub (ws' := [(a_, .inr (6, [.ref a_row, .ref a_partners, .int c_askedCount, .int c_outcome, .ref a_share, .ref a_leftOver])), (a_row, .inl (E.2.1, 81, .inl c_row))]) [0, 1] rfl
      have hrc := va_recv hK hPc (ci := 6) (q0 := 0) rfl rfl
      refine pE_i (va_runV (As := [.int p2]) (rest := [])  ⟨hx, hb, hml, hown, hts⟩ (f_X5_freezeRefusal l E (a_ := a_) (a_row := a_row) (a_partners := a_partners) (a_share := a_share) (a_leftOver := a_leftOver) (p1 := p2) (c_askedCount := c_askedCount) (c_outcome := c_outcome) (c_row := c_row) hc_17) (cwV 1 hts g_f_X5_refusal_f_X5_freezeRefusal_121 rfl rfl rfl hd_X5_freezeRefusal ⟨Nat.le_of_ble_eq_true rfl, Nat.le_of_ble_eq_true rfl⟩) ⟨pP.blind, hrc, (pP.pre ⟨hK, hN⟩ hPc)⟩ rfl rfl hl.1 rfl (lv_room (Nat.le_of_ble_eq_true rfl)) dX5_refusal_116 ⟨Nat.le_of_ble_eq_true rfl, Nat.le_of_ble_eq_true rfl⟩) ?_
      rw [hQ]
      obtain e9_0 := inj1 hF
      exact W.iret (v := r_16) hx hb hr (fun tt ht hW => ⟨_, rfl, e9_0, ht⟩) (fun _ h => by cases h) dX5_refusal_119
    replace hF := inn c_5_6 hF
    refine lv_tableOut (tgt := 120) hx hb dX5_refusal_10 (by have t0 : (0 : Int32).toInt = 0 := (by decide); have t1 : (1 : Int32).toInt = 1 := (by decide); have t2 : (2 : Int32).toInt = 2 := (by decide); have t3 : (3 : Int32).toInt = 3 := (by decide); have t4 : (4 : Int32).toInt = 4 := (by decide); have t5 : (5 : Int32).toInt = 5 := (by decide); have t6 : (6 : Int32).toInt = 6 := (by decide); simp only [← Int32.toInt_inj, t0, t1, t2, t3, t4, t5, t6] at c_5_0 c_5_1 c_5_2 c_5_3 c_5_4 c_5_5 c_5_6; omega) (by decide) ?_
    refine lv_iconst (v := -1) hx hb dX5_refusal_120 (by decide) ?_
    rw [hQ]
    obtain e9_0 := inj1 hF
    exact W.iret (v := (-1 : Int32)) hx hb hr (fun tt ht hW => ⟨_, rfl, e9_0, ht⟩) (fun _ h => by cases h) dX5_refusal_121
  ·
    replace hF := ip c_4 hF
    refine lv_iconst (v := 0) hx hb dX5_refusal_7 (by decide) ?_
    rw [hQ]
    obtain e9_0 := inj1 hF
    exact W.iret (v := (0 : Int32)) hx hb hr (fun tt ht hW => ⟨_, rfl, e9_0, ht⟩) (fun _ h => by cases h) dX5_refusal_8

def F_X5_slackLength (p1 : Int32) (c_row : Nat → Int32) : Option (Int32) :=
  bd1 (F_X5_of p1 (4 : Int32) c_row) (fun r_1 => bd1 (F_X5_of p1 (5 : Int32) c_row) (fun r_3 => some ((absF r_1) + (absF r_3))))
abbrev w_X5_slackLength (E : EE) (a_ a_row a_partners a_share a_leftOver : Nat) (c_askedCount : Int32) (c_outcome : Int32) (c_row : Nat → Int32) : va_W := [(a_, .inr (6, [.ref a_row, .ref a_partners, .int c_askedCount, .int c_outcome, .ref a_share, .ref a_leftOver])), (a_row, .inl (E.2.1, 81, .inl c_row))]
def v_f_X5_slackLength : List Cond := .code yX5_slackLength cX5_slackLength 2 (some .int) :: ([.methodLink RX5 94 Lib.Math.abs.name, .static Lib.Math.abs.name, .initialized "java/lang/Math", .code Lib.Math.abs.name Lib.Math.abs.code 1 (some .int), .methodLink RX5 69 yX5_of, .instanceMethod yX5_of, .selects RX5 yX5_of yX5_of, .initialized RX5] ++ (v_f_X5_of ++ ([])))
theorem gw_f_X5_slackLength : v_f_X5_slackLength.all goodWord = true := by decide +kernel
theorem g_f_X5_slackLength_f_X5_of_69 : GoodIn v_f_X5_slackLength (wsV RX5 69 RX5 yX5_of v_f_X5_of) := goodIn_app (goodIn_of _ (by decide +kernel)) (goodIn_sub (fun _ h => List.mem_cons_of_mem _ (List.mem_append_right _ (List.mem_append_left _ h))) gw_f_X5_of)
theorem hd_X5_slackLength : yX5_slackLength.cls = RX5 ∧ yX5_slackLength.cls ≠ "java/lang/invoke/MethodHandle" ∧ yX5_slackLength.cls ≠ "java/lang/invoke/VarHandle" ∧ (parseMethodDescriptor yX5_slackLength.desc).map (fun d => d.parameters.length) = some 1 := by decide +kernel
set_option maxHeartbeats 4000000 in
set_option maxRecDepth 100000 in
theorem f_X5_slackLength (l : Launch) (E : EE) {a_ a_row a_partners a_share a_leftOver : Nat} {p1 : Int32} {c_askedCount : Int32} {c_outcome : Int32} {c_row : Nat → Int32} {rr : Int32} (hF : F_X5_slackLength p1 c_row = some rr) : Met l yX5_slackLength v_f_X5_slackLength (({ frames := 1, cells := 0, slots := 0, locals := 22 } : Room)) (va_Pc [.ref a_, .int p1] (pP E (w_X5_slackLength E a_ a_row a_partners a_share a_leftOver c_askedCount c_outcome c_row))) (vp_Si (fun q : Int32 => q = rr)) 0 0 (fun _ => False) := by
  refine Met.ofW (cc := cX5_slackLength) (maxL := 2) (ret := (some .int)) (by decide) rfl ?_
  intro p e s m args below meth c s₁ B hml hv
  obtain ⟨rfl, ⟨hK, hN⟩, hP⟩ := hv
  have hx := B.exec
  have hb := B.bytes
  have hr := B.returns
  have hts := atoms_spec (ws := v_f_X5_slackLength) B.pre
  have hown : s.vm.findClass RX5 = some m.cls := own_of hd_X5_slackLength.1 (findClass_of_methodNamed B.named)
  have hlocks : meth.locks = false := B.notSynchronized
  replace hP : va_P E.1 vwCl [(a_, .inr (6, [.ref a_row, .ref a_partners, .int c_askedCount, .int c_outcome, .ref a_share, .ref a_leftOver])), (a_row, .inl (E.2.1, 81, .inl c_row))] s.heap := hP
  have hl := lv_entry ([.ref a_, .int p1]) (n := 2) (Nat.le_of_ble_eq_true rfl)
  rw [lg_entry_eq]
  generalize (lg_sl ([.ref a_, .int p1]) ++ List.replicate (2 - (lg_sl ([.ref a_, .int p1])).length) Slot.unset).toArray = ls at hl ⊢
  have hl : lv_has ls 2 [(0, .ref a_), (1, .int p1)] := hl
  obtain ⟨Q, hQ⟩ : ∃ Q : State → Prop, Q = MQ below (vp_Si (fun q : Int32 => q = rr)) #[Value.ref a_, Value.int p1] s 0 0 (fun _ => False) := ⟨_, rfl⟩
  rw [← hQ]
  change W p l e ({ frames := 1, cells := 0, slots := 0, locals := 22 } : Room) s m #[Value.ref a_, Value.int p1] below meth c s.heap [] 0 0 Q (F0 m 0 ls [])
  unfold F_X5_slackLength at hF
  refine lv_aload_n hx hb dX5_slackLength_0 rfl (lv_at hl 0 rfl) ?_
  refine lv_iload_n hx hb dX5_slackLength_1 rfl (lv_at hl 1 rfl) ?_
  refine lv_iconst (v := 4) hx hb dX5_slackLength_2 (by decide) ?_
  replace hF := bd1_s hF
  obtain ⟨r_1, hc_2, hF⟩ := hF
  have hPc : va_P E.1 vwCl (w_X5_of E a_ a_row a_partners a_share a_leftOver c_askedCount c_outcome c_row) s.heap := hP.sub (ws' := [(a_, .inr (6, [.ref a_row, .ref a_partners, .int c_askedCount, .int c_outcome, .ref a_share, .ref a_leftOver])), (a_row, .inl (E.2.1, 81, .inl c_row))]) [0, 1] rfl
  have hrc := va_recv hK hPc (ci := 6) (q0 := 0) rfl rfl
  refine pE_i (va_runV (As := [.int p1, .int (4 : Int32)]) (rest := [])  ⟨hx, hb, hml, hown, hts⟩ (f_X5_of l E (a_ := a_) (a_row := a_row) (a_partners := a_partners) (a_share := a_share) (a_leftOver := a_leftOver) (p1 := p1) (p2 := (4 : Int32)) (c_askedCount := c_askedCount) (c_outcome := c_outcome) (c_row := c_row) hc_2) (cwV 2 hts g_f_X5_slackLength_f_X5_of_69 rfl rfl rfl hd_X5_of ⟨Nat.le_of_ble_eq_true rfl, Nat.le_of_ble_eq_true rfl⟩) ⟨pP.blind, hrc, (pP.pre ⟨hK, hN⟩ hPc)⟩ rfl rfl hl.1 rfl (lv_room (Nat.le_of_ble_eq_true rfl)) dX5_slackLength_3 ⟨Nat.le_of_ble_eq_true rfl, Nat.le_of_ble_eq_true rfl⟩) ?_
  refine va_mabs hx hb (hml.trans hl.1.symm) hown (hts (.methodLink RX5 94 Lib.Math.abs.name) (List.mem_of_getElem? (i := 1) rfl)) (hts (.static Lib.Math.abs.name) (List.mem_of_getElem? (i := 2) rfl)) (hts (.initialized "java/lang/Math") (List.mem_of_getElem? (i := 3) rfl)) (hts (.code Lib.Math.abs.name Lib.Math.abs.code 1 (some .int)) (List.mem_of_getElem? (i := 4) rfl)) (Nat.le_of_ble_eq_true rfl) (Nat.le_of_ble_eq_true rfl) (Nat.le_of_ble_eq_true rfl) (Nat.le_of_ble_eq_true rfl) dX5_slackLength_6 ?_
  refine W.eq (g2 := F0 m 9 ls [.int (absF r_1)]) rfl ?_
  refine lv_aload_n hx hb dX5_slackLength_9 rfl (lv_at hl 0 rfl) ?_
  refine lv_iload_n hx hb dX5_slackLength_10 rfl (lv_at hl 1 rfl) ?_
  refine lv_iconst (v := 5) hx hb dX5_slackLength_11 (by decide) ?_
  replace hF := bd1_s hF
  obtain ⟨r_3, hc_4, hF⟩ := hF
  have hPc : va_P E.1 vwCl (w_X5_of E a_ a_row a_partners a_share a_leftOver c_askedCount c_outcome c_row) s.heap := hP.sub (ws' := [(a_, .inr (6, [.ref a_row, .ref a_partners, .int c_askedCount, .int c_outcome, .ref a_share, .ref a_leftOver])), (a_row, .inl (E.2.1, 81, .inl c_row))]) [0, 1] rfl
  have hrc := va_recv hK hPc (ci := 6) (q0 := 0) rfl rfl
  refine pE_i (va_runV (As := [.int p1, .int (5 : Int32)]) (rest := [.int (absF r_1)])  ⟨hx, hb, hml, hown, hts⟩ (f_X5_of l E (a_ := a_) (a_row := a_row) (a_partners := a_partners) (a_share := a_share) (a_leftOver := a_leftOver) (p1 := p1) (p2 := (5 : Int32)) (c_askedCount := c_askedCount) (c_outcome := c_outcome) (c_row := c_row) hc_4) (cwV 2 hts g_f_X5_slackLength_f_X5_of_69 rfl rfl rfl hd_X5_of ⟨Nat.le_of_ble_eq_true rfl, Nat.le_of_ble_eq_true rfl⟩) ⟨pP.blind, hrc, (pP.pre ⟨hK, hN⟩ hPc)⟩ rfl rfl hl.1 rfl (lv_room (Nat.le_of_ble_eq_true rfl)) dX5_slackLength_12 ⟨Nat.le_of_ble_eq_true rfl, Nat.le_of_ble_eq_true rfl⟩) ?_
  refine va_mabs hx hb (hml.trans hl.1.symm) hown (hts (.methodLink RX5 94 Lib.Math.abs.name) (List.mem_of_getElem? (i := 1) rfl)) (hts (.static Lib.Math.abs.name) (List.mem_of_getElem? (i := 2) rfl)) (hts (.initialized "java/lang/Math") (List.mem_of_getElem? (i := 3) rfl)) (hts (.code Lib.Math.abs.name Lib.Math.abs.code 1 (some .int)) (List.mem_of_getElem? (i := 4) rfl)) (Nat.le_of_ble_eq_true rfl) (Nat.le_of_ble_eq_true rfl) (Nat.le_of_ble_eq_true rfl) (Nat.le_of_ble_eq_true rfl) dX5_slackLength_15 ?_
  refine W.eq (g2 := F0 m 18 ls [.int (absF r_3), .int (absF r_1)]) rfl ?_
  refine lv_iadd hx hb dX5_slackLength_18 ?_
  rw [hQ]
  obtain e9_0 := inj1 hF
  exact W.iret (v := (absF r_1) + (absF r_3)) hx hb hr (fun tt ht hW => ⟨_, rfl, e9_0, ht⟩) (fun _ h => by cases h) dX5_slackLength_19

def B_X5_slackSites_4 (c_row : Nat → Int32) (x1 : Int32) (x2 : Int32) : Option ((Int32 × Int32) ⊕ (Int32)) :=
  bd1 (F_X5_sites c_row) (fun r_1 => if r_1 ≤ x2 then some (.inr x1) else bd1 (F_X5_slackLength x2 c_row) (fun r_4 => if r_4 = (0 : Int32) then some (.inl (x1 ||| (0 : Int32), x2 + (1 : Int32))) else some (.inl (x1 ||| ((1 : Int32) <<< (x2 &&& (31 : Int32))), x2 + (1 : Int32)))))
def F_X5_slackSites (K : Nat) (c_row : Nat → Int32) : Option (Int32) :=
  bd1 (lpF (fun u9 : Int32 × Int32 => B_X5_slackSites_4 c_row u9.1 u9.2) K ((0 : Int32), (0 : Int32))) (fun x1_7 => some x1_7)
abbrev w_X5_slackSites (E : EE) (a_ a_row a_partners a_share a_leftOver : Nat) (c_askedCount : Int32) (c_outcome : Int32) (c_row : Nat → Int32) : va_W := [(a_, .inr (6, [.ref a_row, .ref a_partners, .int c_askedCount, .int c_outcome, .ref a_share, .ref a_leftOver])), (a_row, .inl (E.2.1, 81, .inl c_row))]
def v_f_X5_slackSites : List Cond := .code yX5_slackSites cX5_slackSites 3 (some .int) :: ([.methodLink RX5 45 yX5_sites, .instanceMethod yX5_sites, .selects RX5 yX5_sites yX5_sites, .initialized RX5, .methodLink RX5 102 yX5_slackLength, .instanceMethod yX5_slackLength, .selects RX5 yX5_slackLength yX5_slackLength] ++ (v_f_X5_sites ++ (v_f_X5_slackLength ++ ([]))))
theorem gw_f_X5_slackSites : v_f_X5_slackSites.all goodWord = true := by decide +kernel
theorem g_f_X5_slackSites_f_X5_sites_45 : GoodIn v_f_X5_slackSites (wsV RX5 45 RX5 yX5_sites v_f_X5_sites) := goodIn_app (goodIn_of _ (by decide +kernel)) (goodIn_sub (fun _ h => List.mem_cons_of_mem _ (List.mem_append_right _ (List.mem_append_left _ h))) gw_f_X5_sites)
theorem g_f_X5_slackSites_f_X5_slackLength_102 : GoodIn v_f_X5_slackSites (wsV RX5 102 RX5 yX5_slackLength v_f_X5_slackLength) := goodIn_app (goodIn_of _ (by decide +kernel)) (goodIn_sub (fun _ h => List.mem_cons_of_mem _ (List.mem_append_right _ (List.mem_append_right _ (List.mem_append_left _ h)))) gw_f_X5_slackLength)
theorem hd_X5_slackSites : yX5_slackSites.cls = RX5 ∧ yX5_slackSites.cls ≠ "java/lang/invoke/MethodHandle" ∧ yX5_slackSites.cls ≠ "java/lang/invoke/VarHandle" ∧ (parseMethodDescriptor yX5_slackSites.desc).map (fun d => d.parameters.length) = some 0 := by decide +kernel
set_option maxHeartbeats 4000000 in
set_option maxRecDepth 100000 in
theorem wb_X5_slackSites_4 {p : Program} (l : Launch) {e : Env} {s : State} {m : MethodId} {below : List Frame} {meth : Method} {c : Code} {Q : State → Prop} (E : EE) (K : Nat) {a_ a_row a_partners a_share a_leftOver : Nat} {c_askedCount : Int32} {c_outcome : Int32} {c_row : Nat → Int32} {x1 : Int32} {x2 : Int32} (hx : p.tables.exec = Jvm.exec) (hb : c.code = cX5_slackSites) (hml : c.maxLocals = 3) (hown : s.vm.findClass RX5 = some m.cls) (hts : ∀ w ∈ v_f_X5_slackSites, w.before #[Value.ref a_] s = true) (hK : va_K E.1 vwCl (TY E) s) (hN : NX s) {xx : (Int32 × Int32) ⊕ (Int32)} (hC : ∀ (x1 : Int32), ∀ (x2 : Int32), xx = .inl (x1, x2) → ∀ (ls : Array Slot), lv_has ls 3 [(0, .ref a_), (1, .int x1), (2, .int x2)] → W p l e ({ frames := 2, cells := 0, slots := 0, locals := 43 } : Room) s m #[Value.ref a_] below meth c s.heap [] 0 0 Q (F0 m 4 ls [])) (hE : ∀ (x1 : Int32), xx = .inr x1 → ((∀ (ls : Array Slot), lv_has ls 3 [(1, .int x1)] → W p l e ({ frames := 2, cells := 0, slots := 0, locals := 43 } : Room) s m #[Value.ref a_] below meth c s.heap [] 0 0 Q (F0 m 36 ls [])))) (hF : B_X5_slackSites_4 c_row x1 x2 = some xx) (hP : va_P E.1 vwCl (w_X5_slackSites E a_ a_row a_partners a_share a_leftOver c_askedCount c_outcome c_row) s.heap) : ∀ (ls : Array Slot), lv_has ls 3 [(0, .ref a_), (1, .int x1), (2, .int x2)] → W p l e ({ frames := 2, cells := 0, slots := 0, locals := 43 } : Room) s m #[Value.ref a_] below meth c s.heap [] 0 0 Q (F0 m 4 ls []) := by
  unfold B_X5_slackSites_4 at hF
  replace hP : va_P E.1 vwCl [(a_, .inr (6, [.ref a_row, .ref a_partners, .int c_askedCount, .int c_outcome, .ref a_share, .ref a_leftOver])), (a_row, .inl (E.2.1, 81, .inl c_row))] s.heap := hP
  intro ls hl
  refine lv_iload_n hx hb dX5_slackSites_4 rfl (lv_at hl 2 rfl) ?_
  refine lv_aload_n hx hb dX5_slackSites_5 rfl (lv_at hl 0 rfl) ?_
  replace hF := bd1_s hF
  obtain ⟨r_1, hc_2, hF⟩ := hF
  have hPc : va_P E.1 vwCl (w_X5_sites E a_ a_row a_partners a_share a_leftOver c_askedCount c_outcome c_row) s.heap := hP.sub (ws' := [(a_, .inr (6, [.ref a_row, .ref a_partners, .int c_askedCount, .int c_outcome, .ref a_share, .ref a_leftOver])), (a_row, .inl (E.2.1, 81, .inl c_row))]) [0, 1] rfl
  have hrc := va_recv hK hPc (ci := 6) (q0 := 0) rfl rfl
  refine pE_i (va_runV (As := []) (rest := [.int x2])  ⟨hx, hb, hml, hown, hts⟩ (f_X5_sites l E (a_ := a_) (a_row := a_row) (a_partners := a_partners) (a_share := a_share) (a_leftOver := a_leftOver) (c_askedCount := c_askedCount) (c_outcome := c_outcome) (c_row := c_row) hc_2) (cwV 0 hts g_f_X5_slackSites_f_X5_sites_45 rfl rfl rfl hd_X5_sites ⟨Nat.le_of_ble_eq_true rfl, Nat.le_of_ble_eq_true rfl⟩) ⟨pP.blind, hrc, (pP.pre ⟨hK, hN⟩ hPc)⟩ rfl rfl hl.1 rfl (lv_room (Nat.le_of_ble_eq_true rfl)) dX5_slackSites_6 ⟨Nat.le_of_ble_eq_true rfl, Nat.le_of_ble_eq_true rfl⟩) ?_
  refine lv_icmp_ge (tgt := 36) hx hb dX5_slackSites_9 (by decide) (fun c_3 => ?_) (fun c_3 => ?_)
  ·
    replace hF := ip c_3 hF
    cases hF
    exact hE x1 rfl ls (lv_sub hl [1] rfl)
  ·
    replace hF := inn c_3 hF
    refine lv_iload_n hx hb dX5_slackSites_12 rfl (lv_at hl 1 rfl) ?_
    refine lv_aload_n hx hb dX5_slackSites_13 rfl (lv_at hl 0 rfl) ?_
    refine lv_iload_n hx hb dX5_slackSites_14 rfl (lv_at hl 2 rfl) ?_
    replace hF := bd1_s hF
    obtain ⟨r_4, hc_5, hF⟩ := hF
    have hPc : va_P E.1 vwCl (w_X5_slackLength E a_ a_row a_partners a_share a_leftOver c_askedCount c_outcome c_row) s.heap := hP.sub (ws' := [(a_, .inr (6, [.ref a_row, .ref a_partners, .int c_askedCount, .int c_outcome, .ref a_share, .ref a_leftOver])), (a_row, .inl (E.2.1, 81, .inl c_row))]) [0, 1] rfl
    have hrc := va_recv hK hPc (ci := 6) (q0 := 0) rfl rfl
    refine pE_i (va_runV (As := [.int x2]) (rest := [.int x1])  ⟨hx, hb, hml, hown, hts⟩ (f_X5_slackLength l E (a_ := a_) (a_row := a_row) (a_partners := a_partners) (a_share := a_share) (a_leftOver := a_leftOver) (p1 := x2) (c_askedCount := c_askedCount) (c_outcome := c_outcome) (c_row := c_row) hc_5) (cwV 1 hts g_f_X5_slackSites_f_X5_slackLength_102 rfl rfl rfl hd_X5_slackLength ⟨Nat.le_of_ble_eq_true rfl, Nat.le_of_ble_eq_true rfl⟩) ⟨pP.blind, hrc, (pP.pre ⟨hK, hN⟩ hPc)⟩ rfl rfl hl.1 rfl (lv_room (Nat.le_of_ble_eq_true rfl)) dX5_slackSites_15 ⟨Nat.le_of_ble_eq_true rfl, Nat.le_of_ble_eq_true rfl⟩) ?_
    refine lv_if_eq (tgt := 27) hx hb dX5_slackSites_18 (by decide) (fun c_6 => ?_) (fun c_6 => ?_)
    ·
      replace hF := ip c_6 hF
      refine lv_iconst (v := 0) hx hb dX5_slackSites_27 (by decide) ?_
      refine lv_ior hx hb dX5_slackSites_28 ?_
      refine lv_istore_n (lv' := [(1, .int (x1 ||| (0 : Int32))), (0, .ref a_), (2, .int x2)]) hx hb dX5_slackSites_29 rfl hl (by decide) rfl (fun ls hl => ?_)
      refine lv_iinc (v := x2 + (1 : Int32)) (lv' := [(2, .int (x2 + (1 : Int32))), (1, .int (x1 ||| (0 : Int32))), (0, .ref a_)]) hx hb dX5_slackSites_30 hl (k := 2) rfl (rfl) (by decide) rfl (fun ls hl => ?_)
      refine lv_goto (tgt := 4) hx hb dX5_slackSites_33 (by decide) ?_
      cases hF
      exact hC (x1 ||| (0 : Int32)) (x2 + (1 : Int32)) rfl ls (lv_sub hl [2, 1, 0] rfl)
    ·
      replace hF := inn c_6 hF
      refine lv_iconst (v := 1) hx hb dX5_slackSites_21 (by decide) ?_
      refine lv_iload_n hx hb dX5_slackSites_22 rfl (lv_at hl 2 rfl) ?_
      refine lv_ishl hx hb dX5_slackSites_23 ?_
      refine lv_goto (tgt := 28) hx hb dX5_slackSites_24 (by decide) ?_
      refine lv_ior hx hb dX5_slackSites_28 ?_
      refine lv_istore_n (lv' := [(1, .int (x1 ||| ((1 : Int32) <<< (x2 &&& (31 : Int32))))), (0, .ref a_), (2, .int x2)]) hx hb dX5_slackSites_29 rfl hl (by decide) rfl (fun ls hl => ?_)
      refine lv_iinc (v := x2 + (1 : Int32)) (lv' := [(2, .int (x2 + (1 : Int32))), (1, .int (x1 ||| ((1 : Int32) <<< (x2 &&& (31 : Int32))))), (0, .ref a_)]) hx hb dX5_slackSites_30 hl (k := 2) rfl (rfl) (by decide) rfl (fun ls hl => ?_)
      refine lv_goto (tgt := 4) hx hb dX5_slackSites_33 (by decide) ?_
      cases hF
      exact hC (x1 ||| ((1 : Int32) <<< (x2 &&& (31 : Int32)))) (x2 + (1 : Int32)) rfl ls (lv_sub hl [2, 1, 0] rfl)

set_option maxHeartbeats 4000000 in
set_option maxRecDepth 100000 in
theorem lw_X5_slackSites_4 {p : Program} (l : Launch) {e : Env} {s : State} {m : MethodId} {below : List Frame} {meth : Method} {c : Code} {Q : State → Prop} (E : EE) (K : Nat) {a_ a_row a_partners a_share a_leftOver : Nat} {c_askedCount : Int32} {c_outcome : Int32} {c_row : Nat → Int32} (hx : p.tables.exec = Jvm.exec) (hb : c.code = cX5_slackSites) (hml : c.maxLocals = 3) (hown : s.vm.findClass RX5 = some m.cls) (hts : ∀ w ∈ v_f_X5_slackSites, w.before #[Value.ref a_] s = true) (hK : va_K E.1 vwCl (TY E) s) (hN : NX s) (hP : va_P E.1 vwCl (w_X5_slackSites E a_ a_row a_partners a_share a_leftOver c_askedCount c_outcome c_row) s.heap) (j9 : Nat) (x1 : Int32) (x2 : Int32) (x1' : Int32) (hL : lpF (fun u9 : Int32 × Int32 => B_X5_slackSites_4 c_row u9.1 u9.2) j9 (x1, x2) = some x1') (hX : (∀ (ls : Array Slot), lv_has ls 3 [(1, .int x1')] → W p l e ({ frames := 2, cells := 0, slots := 0, locals := 43 } : Room) s m #[Value.ref a_] below meth c s.heap [] 0 0 Q (F0 m 36 ls []))) : ∀ (ls : Array Slot), lv_has ls 3 [(0, .ref a_), (1, .int x1), (2, .int x2)] → W p l e ({ frames := 2, cells := 0, slots := 0, locals := 43 } : Room) s m #[Value.ref a_] below meth c s.heap [] 0 0 Q (F0 m 4 ls []) := by
  exact lp_rule (P := (fun u9 : Int32 × Int32 => ∀ (ls : Array Slot), lv_has ls 3 [(0, .ref a_), (1, .int u9.1), (2, .int u9.2)] → W p l e ({ frames := 2, cells := 0, slots := 0, locals := 43 } : Room) s m #[Value.ref a_] below meth c s.heap [] 0 0 Q (F0 m 4 ls []))) (R := (fun r9 : Int32 => (∀ (ls : Array Slot), lv_has ls 3 [(1, .int r9)] → W p l e ({ frames := 2, cells := 0, slots := 0, locals := 43 } : Room) s m #[Value.ref a_] below meth c s.heap [] 0 0 Q (F0 m 36 ls [])))) (fun u9 xx hF hC hE => wb_X5_slackSites_4 l E K (c_askedCount := c_askedCount) (c_outcome := c_outcome) (c_row := c_row) (x1 := u9.1) (x2 := u9.2) hx hb hml hown hts hK hN (fun x1 x2 q9 => hC _ q9) (fun x1 q9 => hE _ q9) hF hP) j9 (x1, x2) x1' hL hX

set_option maxHeartbeats 4000000 in
set_option maxRecDepth 100000 in
theorem f_X5_slackSites (l : Launch) (E : EE) (K : Nat) {a_ a_row a_partners a_share a_leftOver : Nat} {c_askedCount : Int32} {c_outcome : Int32} {c_row : Nat → Int32} {rr : Int32} (hF : F_X5_slackSites K c_row = some rr) : Met l yX5_slackSites v_f_X5_slackSites (({ frames := 2, cells := 0, slots := 0, locals := 43 } : Room)) (va_Pc [.ref a_] (pP E (w_X5_slackSites E a_ a_row a_partners a_share a_leftOver c_askedCount c_outcome c_row))) (vp_Si (fun q : Int32 => q = rr)) 0 0 (fun _ => False) := by
  refine Met.ofW (cc := cX5_slackSites) (maxL := 3) (ret := (some .int)) (by decide) rfl ?_
  intro p e s m args below meth c s₁ B hml hv
  obtain ⟨rfl, ⟨hK, hN⟩, hP⟩ := hv
  have hx := B.exec
  have hb := B.bytes
  have hr := B.returns
  have hts := atoms_spec (ws := v_f_X5_slackSites) B.pre
  have hown : s.vm.findClass RX5 = some m.cls := own_of hd_X5_slackSites.1 (findClass_of_methodNamed B.named)
  have hlocks : meth.locks = false := B.notSynchronized
  replace hP : va_P E.1 vwCl [(a_, .inr (6, [.ref a_row, .ref a_partners, .int c_askedCount, .int c_outcome, .ref a_share, .ref a_leftOver])), (a_row, .inl (E.2.1, 81, .inl c_row))] s.heap := hP
  have hl := lv_entry ([.ref a_]) (n := 3) (Nat.le_of_ble_eq_true rfl)
  rw [lg_entry_eq]
  generalize (lg_sl ([.ref a_]) ++ List.replicate (3 - (lg_sl ([.ref a_])).length) Slot.unset).toArray = ls at hl ⊢
  have hl : lv_has ls 3 [(0, .ref a_)] := hl
  obtain ⟨Q, hQ⟩ : ∃ Q : State → Prop, Q = MQ below (vp_Si (fun q : Int32 => q = rr)) #[Value.ref a_] s 0 0 (fun _ => False) := ⟨_, rfl⟩
  rw [← hQ]
  change W p l e ({ frames := 2, cells := 0, slots := 0, locals := 43 } : Room) s m #[Value.ref a_] below meth c s.heap [] 0 0 Q (F0 m 0 ls [])
  unfold F_X5_slackSites at hF
  refine lv_iconst (v := 0) hx hb dX5_slackSites_0 (by decide) ?_
  refine lv_istore_n (lv' := [(1, .int (0 : Int32)), (0, .ref a_)]) hx hb dX5_slackSites_1 rfl hl (by decide) rfl (fun ls hl => ?_)
  refine lv_iconst (v := 0) hx hb dX5_slackSites_2 (by decide) ?_
  refine lv_istore_n (lv' := [(2, .int (0 : Int32)), (1, .int (0 : Int32)), (0, .ref a_)]) hx hb dX5_slackSites_3 rfl hl (by decide) rfl (fun ls hl => ?_)
  replace hF := bd1_s hF
  obtain ⟨x1_7, hL_8, hF⟩ := hF
  refine lw_X5_slackSites_4 l E K (c_askedCount := c_askedCount) (c_outcome := c_outcome) (c_row := c_row) hx hb hml hown hts hK hN hP K (0 : Int32) (0 : Int32) x1_7 hL_8 ?_ ls (lv_sub hl [2, 1, 0] rfl)
  ·
    intro ls hl
    refine lv_iload_n hx hb dX5_slackSites_36 rfl (lv_at hl 0 rfl) ?_
    rw [hQ]
    obtain e9_0 := inj1 hF
    exact W.iret (v := x1_7) hx hb hr (fun tt ht hW => ⟨_, rfl, e9_0, ht⟩) (fun _ h => by cases h) dX5_slackSites_37

def J_X5_unmovedSites_47_r5 (k0 : Int32) (x1 : Int32) (x2 : Int32) : Option ((Int32 × Int32) ⊕ (Int32)) :=
  if k0 = (0 : Int32) then some (.inl (x1 ||| (0 : Int32), x2 + (1 : Int32))) else some (.inl (x1 ||| ((1 : Int32) <<< (x2 &&& (31 : Int32))), x2 + (1 : Int32)))
def J_X5_unmovedSites_46_r5 (x1 : Int32) (x2 : Int32) : Option ((Int32 × Int32) ⊕ (Int32)) :=
  J_X5_unmovedSites_47_r5 (0 : Int32) x1 x2
def B_X5_unmovedSites_4 (c_row : Nat → Int32) (x1 : Int32) (x2 : Int32) : Option ((Int32 × Int32) ⊕ (Int32)) :=
  bd1 (F_X5_sites c_row) (fun r_1 => if r_1 ≤ x2 then some (.inr x1) else bd1 (F_X5_of x2 (0 : Int32) c_row) (fun r_4 => bd1 (F_X5_of x2 (2 : Int32) c_row) (fun r_6 => if r_4 = r_6 then bd1 (F_X5_of x2 (1 : Int32) c_row) (fun r_10 => bd1 (F_X5_of x2 (3 : Int32) c_row) (fun r_12 => if r_10 = r_12 then J_X5_unmovedSites_47_r5 (1 : Int32) x1 x2 else J_X5_unmovedSites_46_r5 x1 x2)) else J_X5_unmovedSites_46_r5 x1 x2)))
def F_X5_unmovedSites (K : Nat) (c_row : Nat → Int32) : Option (Int32) :=
  bd1 (lpF (fun u9 : Int32 × Int32 => B_X5_unmovedSites_4 c_row u9.1 u9.2) K ((0 : Int32), (0 : Int32))) (fun x1_15 => some x1_15)
abbrev w_X5_unmovedSites (E : EE) (a_ a_row a_partners a_share a_leftOver : Nat) (c_askedCount : Int32) (c_outcome : Int32) (c_row : Nat → Int32) : va_W := [(a_, .inr (6, [.ref a_row, .ref a_partners, .int c_askedCount, .int c_outcome, .ref a_share, .ref a_leftOver])), (a_row, .inl (E.2.1, 81, .inl c_row))]
def v_f_X5_unmovedSites : List Cond := .code yX5_unmovedSites cX5_unmovedSites 4 (some .int) :: ([.methodLink RX5 45 yX5_sites, .instanceMethod yX5_sites, .selects RX5 yX5_sites yX5_sites, .initialized RX5, .methodLink RX5 69 yX5_of, .instanceMethod yX5_of, .selects RX5 yX5_of yX5_of] ++ (v_f_X5_sites ++ (v_f_X5_of ++ ([]))))
theorem gw_f_X5_unmovedSites : v_f_X5_unmovedSites.all goodWord = true := by decide +kernel
theorem g_f_X5_unmovedSites_f_X5_sites_45 : GoodIn v_f_X5_unmovedSites (wsV RX5 45 RX5 yX5_sites v_f_X5_sites) := goodIn_app (goodIn_of _ (by decide +kernel)) (goodIn_sub (fun _ h => List.mem_cons_of_mem _ (List.mem_append_right _ (List.mem_append_left _ h))) gw_f_X5_sites)
theorem g_f_X5_unmovedSites_f_X5_of_69 : GoodIn v_f_X5_unmovedSites (wsV RX5 69 RX5 yX5_of v_f_X5_of) := goodIn_app (goodIn_of _ (by decide +kernel)) (goodIn_sub (fun _ h => List.mem_cons_of_mem _ (List.mem_append_right _ (List.mem_append_right _ (List.mem_append_left _ h)))) gw_f_X5_of)
theorem hd_X5_unmovedSites : yX5_unmovedSites.cls = RX5 ∧ yX5_unmovedSites.cls ≠ "java/lang/invoke/MethodHandle" ∧ yX5_unmovedSites.cls ≠ "java/lang/invoke/VarHandle" ∧ (parseMethodDescriptor yX5_unmovedSites.desc).map (fun d => d.parameters.length) = some 0 := by decide +kernel
set_option maxHeartbeats 4000000 in
set_option maxRecDepth 100000 in
theorem j_X5_unmovedSites_47_r5 {p : Program} (l : Launch) {e : Env} {s : State} {m : MethodId} {below : List Frame} {meth : Method} {c : Code} {Q : State → Prop} (E : EE) (K : Nat) {a_ a_row a_partners a_share a_leftOver : Nat} {c_askedCount : Int32} {c_outcome : Int32} {c_row : Nat → Int32} {k0 : Int32} {x1 : Int32} {x2 : Int32} (hx : p.tables.exec = Jvm.exec) (hb : c.code = cX5_unmovedSites) (hml : c.maxLocals = 4) (hown : s.vm.findClass RX5 = some m.cls) (hts : ∀ w ∈ v_f_X5_unmovedSites, w.before #[Value.ref a_] s = true) (hK : va_K E.1 vwCl (TY E) s) (hN : NX s) {xx : (Int32 × Int32) ⊕ (Int32)} (hC : ∀ (x1 : Int32), ∀ (x2 : Int32), xx = .inl (x1, x2) → ∀ (ls : Array Slot), lv_has ls 4 [(0, .ref a_), (1, .int x1), (2, .int x2)] → W p l e ({ frames := 1, cells := 0, slots := 0, locals := 22 } : Room) s m #[Value.ref a_] below meth c s.heap [] 0 0 Q (F0 m 4 ls [])) (hE : ∀ (x1 : Int32), xx = .inr x1 → ((∀ (ls : Array Slot), lv_has ls 4 [(1, .int x1)] → W p l e ({ frames := 1, cells := 0, slots := 0, locals := 22 } : Room) s m #[Value.ref a_] below meth c s.heap [] 0 0 Q (F0 m 68 ls [])))) (hF : J_X5_unmovedSites_47_r5 k0 x1 x2 = some xx) (hP : va_P E.1 vwCl (w_X5_unmovedSites E a_ a_row a_partners a_share a_leftOver c_askedCount c_outcome c_row) s.heap) : ∀ (ls : Array Slot), lv_has ls 4 [(0, .ref a_), (1, .int x1), (2, .int x2)] → W p l e ({ frames := 1, cells := 0, slots := 0, locals := 22 } : Room) s m #[Value.ref a_] below meth c s.heap [] 0 0 Q (F0 m 47 ls [.int k0]) := by
  unfold J_X5_unmovedSites_47_r5 at hF
  replace hP : va_P E.1 vwCl [(a_, .inr (6, [.ref a_row, .ref a_partners, .int c_askedCount, .int c_outcome, .ref a_share, .ref a_leftOver])), (a_row, .inl (E.2.1, 81, .inl c_row))] s.heap := hP
  intro ls hl
  refine lv_istore_n (lv' := [(3, .int k0), (0, .ref a_), (1, .int x1), (2, .int x2)]) hx hb dX5_unmovedSites_47 rfl hl (by decide) rfl (fun ls hl => ?_)
  refine lv_iload_n hx hb dX5_unmovedSites_48 rfl (lv_at hl 2 rfl) ?_
  refine lv_iload_n hx hb dX5_unmovedSites_49 rfl (lv_at hl 0 rfl) ?_
  refine lv_if_eq (tgt := 59) hx hb dX5_unmovedSites_50 (by decide) (fun c_9 => ?_) (fun c_9 => ?_)
  ·
    replace hF := ip c_9 hF
    refine lv_iconst (v := 0) hx hb dX5_unmovedSites_59 (by decide) ?_
    refine lv_ior hx hb dX5_unmovedSites_60 ?_
    refine lv_istore_n (lv' := [(1, .int (x1 ||| (0 : Int32))), (3, .int k0), (0, .ref a_), (2, .int x2)]) hx hb dX5_unmovedSites_61 rfl hl (by decide) rfl (fun ls hl => ?_)
    refine lv_iinc (v := x2 + (1 : Int32)) (lv' := [(2, .int (x2 + (1 : Int32))), (1, .int (x1 ||| (0 : Int32))), (3, .int k0), (0, .ref a_)]) hx hb dX5_unmovedSites_62 hl (k := 3) rfl (rfl) (by decide) rfl (fun ls hl => ?_)
    refine lv_goto (tgt := 4) hx hb dX5_unmovedSites_65 (by decide) ?_
    cases hF
    exact hC (x1 ||| (0 : Int32)) (x2 + (1 : Int32)) rfl ls (lv_sub hl [3, 1, 0] rfl)
  ·
    replace hF := inn c_9 hF
    refine lv_iconst (v := 1) hx hb dX5_unmovedSites_53 (by decide) ?_
    refine lv_iload_n hx hb dX5_unmovedSites_54 rfl (lv_at hl 3 rfl) ?_
    refine lv_ishl hx hb dX5_unmovedSites_55 ?_
    refine lv_goto (tgt := 60) hx hb dX5_unmovedSites_56 (by decide) ?_
    refine lv_ior hx hb dX5_unmovedSites_60 ?_
    refine lv_istore_n (lv' := [(1, .int (x1 ||| ((1 : Int32) <<< (x2 &&& (31 : Int32))))), (3, .int k0), (0, .ref a_), (2, .int x2)]) hx hb dX5_unmovedSites_61 rfl hl (by decide) rfl (fun ls hl => ?_)
    refine lv_iinc (v := x2 + (1 : Int32)) (lv' := [(2, .int (x2 + (1 : Int32))), (1, .int (x1 ||| ((1 : Int32) <<< (x2 &&& (31 : Int32))))), (3, .int k0), (0, .ref a_)]) hx hb dX5_unmovedSites_62 hl (k := 3) rfl (rfl) (by decide) rfl (fun ls hl => ?_)
    refine lv_goto (tgt := 4) hx hb dX5_unmovedSites_65 (by decide) ?_
    cases hF
    exact hC (x1 ||| ((1 : Int32) <<< (x2 &&& (31 : Int32)))) (x2 + (1 : Int32)) rfl ls (lv_sub hl [3, 1, 0] rfl)

set_option maxHeartbeats 4000000 in
set_option maxRecDepth 100000 in
theorem j_X5_unmovedSites_46_r5 {p : Program} (l : Launch) {e : Env} {s : State} {m : MethodId} {below : List Frame} {meth : Method} {c : Code} {Q : State → Prop} (E : EE) (K : Nat) {a_ a_row a_partners a_share a_leftOver : Nat} {c_askedCount : Int32} {c_outcome : Int32} {c_row : Nat → Int32} {x1 : Int32} {x2 : Int32} (hx : p.tables.exec = Jvm.exec) (hb : c.code = cX5_unmovedSites) (hml : c.maxLocals = 4) (hown : s.vm.findClass RX5 = some m.cls) (hts : ∀ w ∈ v_f_X5_unmovedSites, w.before #[Value.ref a_] s = true) (hK : va_K E.1 vwCl (TY E) s) (hN : NX s) {xx : (Int32 × Int32) ⊕ (Int32)} (hC : ∀ (x1 : Int32), ∀ (x2 : Int32), xx = .inl (x1, x2) → ∀ (ls : Array Slot), lv_has ls 4 [(0, .ref a_), (1, .int x1), (2, .int x2)] → W p l e ({ frames := 1, cells := 0, slots := 0, locals := 22 } : Room) s m #[Value.ref a_] below meth c s.heap [] 0 0 Q (F0 m 4 ls [])) (hE : ∀ (x1 : Int32), xx = .inr x1 → ((∀ (ls : Array Slot), lv_has ls 4 [(1, .int x1)] → W p l e ({ frames := 1, cells := 0, slots := 0, locals := 22 } : Room) s m #[Value.ref a_] below meth c s.heap [] 0 0 Q (F0 m 68 ls [])))) (hF : J_X5_unmovedSites_46_r5 x1 x2 = some xx) (hP : va_P E.1 vwCl (w_X5_unmovedSites E a_ a_row a_partners a_share a_leftOver c_askedCount c_outcome c_row) s.heap) : ∀ (ls : Array Slot), lv_has ls 4 [(0, .ref a_), (1, .int x1), (2, .int x2)] → W p l e ({ frames := 1, cells := 0, slots := 0, locals := 22 } : Room) s m #[Value.ref a_] below meth c s.heap [] 0 0 Q (F0 m 46 ls []) := by
  unfold J_X5_unmovedSites_46_r5 at hF
  replace hP : va_P E.1 vwCl [(a_, .inr (6, [.ref a_row, .ref a_partners, .int c_askedCount, .int c_outcome, .ref a_share, .ref a_leftOver])), (a_row, .inl (E.2.1, 81, .inl c_row))] s.heap := hP
  intro ls hl
  refine lv_iconst (v := 0) hx hb dX5_unmovedSites_46 (by decide) ?_
  exact j_X5_unmovedSites_47_r5 l E K (c_askedCount := c_askedCount) (c_outcome := c_outcome) (c_row := c_row) (k0 := (0 : Int32)) (x1 := x1) (x2 := x2) hx hb hml hown hts hK hN hC hE hF hP ls (lv_sub hl [0, 1, 2] rfl)

set_option maxHeartbeats 4000000 in
set_option maxRecDepth 100000 in
theorem wb_X5_unmovedSites_4 {p : Program} (l : Launch) {e : Env} {s : State} {m : MethodId} {below : List Frame} {meth : Method} {c : Code} {Q : State → Prop} (E : EE) (K : Nat) {a_ a_row a_partners a_share a_leftOver : Nat} {c_askedCount : Int32} {c_outcome : Int32} {c_row : Nat → Int32} {x1 : Int32} {x2 : Int32} (hx : p.tables.exec = Jvm.exec) (hb : c.code = cX5_unmovedSites) (hml : c.maxLocals = 4) (hown : s.vm.findClass RX5 = some m.cls) (hts : ∀ w ∈ v_f_X5_unmovedSites, w.before #[Value.ref a_] s = true) (hK : va_K E.1 vwCl (TY E) s) (hN : NX s) {xx : (Int32 × Int32) ⊕ (Int32)} (hC : ∀ (x1 : Int32), ∀ (x2 : Int32), xx = .inl (x1, x2) → ∀ (ls : Array Slot), lv_has ls 4 [(0, .ref a_), (1, .int x1), (2, .int x2)] → W p l e ({ frames := 1, cells := 0, slots := 0, locals := 22 } : Room) s m #[Value.ref a_] below meth c s.heap [] 0 0 Q (F0 m 4 ls [])) (hE : ∀ (x1 : Int32), xx = .inr x1 → ((∀ (ls : Array Slot), lv_has ls 4 [(1, .int x1)] → W p l e ({ frames := 1, cells := 0, slots := 0, locals := 22 } : Room) s m #[Value.ref a_] below meth c s.heap [] 0 0 Q (F0 m 68 ls [])))) (hF : B_X5_unmovedSites_4 c_row x1 x2 = some xx) (hP : va_P E.1 vwCl (w_X5_unmovedSites E a_ a_row a_partners a_share a_leftOver c_askedCount c_outcome c_row) s.heap) : ∀ (ls : Array Slot), lv_has ls 4 [(0, .ref a_), (1, .int x1), (2, .int x2)] → W p l e ({ frames := 1, cells := 0, slots := 0, locals := 22 } : Room) s m #[Value.ref a_] below meth c s.heap [] 0 0 Q (F0 m 4 ls []) := by
  unfold B_X5_unmovedSites_4 at hF
  replace hP : va_P E.1 vwCl [(a_, .inr (6, [.ref a_row, .ref a_partners, .int c_askedCount, .int c_outcome, .ref a_share, .ref a_leftOver])), (a_row, .inl (E.2.1, 81, .inl c_row))] s.heap := hP
  intro ls hl
  refine lv_iload_n hx hb dX5_unmovedSites_4 rfl (lv_at hl 2 rfl) ?_
  refine lv_aload_n hx hb dX5_unmovedSites_5 rfl (lv_at hl 0 rfl) ?_
  replace hF := bd1_s hF
  obtain ⟨r_1, hc_2, hF⟩ := hF
  have hPc : va_P E.1 vwCl (w_X5_sites E a_ a_row a_partners a_share a_leftOver c_askedCount c_outcome c_row) s.heap := hP.sub (ws' := [(a_, .inr (6, [.ref a_row, .ref a_partners, .int c_askedCount, .int c_outcome, .ref a_share, .ref a_leftOver])), (a_row, .inl (E.2.1, 81, .inl c_row))]) [0, 1] rfl
  have hrc := va_recv hK hPc (ci := 6) (q0 := 0) rfl rfl
  refine pE_i (va_runV (As := []) (rest := [.int x2])  ⟨hx, hb, hml, hown, hts⟩ (f_X5_sites l E (a_ := a_) (a_row := a_row) (a_partners := a_partners) (a_share := a_share) (a_leftOver := a_leftOver) (c_askedCount := c_askedCount) (c_outcome := c_outcome) (c_row := c_row) hc_2) (cwV 0 hts g_f_X5_unmovedSites_f_X5_sites_45 rfl rfl rfl hd_X5_sites ⟨Nat.le_of_ble_eq_true rfl, Nat.le_of_ble_eq_true rfl⟩) ⟨pP.blind, hrc, (pP.pre ⟨hK, hN⟩ hPc)⟩ rfl rfl hl.1 rfl (lv_room (Nat.le_of_ble_eq_true rfl)) dX5_unmovedSites_6 ⟨Nat.le_of_ble_eq_true rfl, Nat.le_of_ble_eq_true rfl⟩) ?_
  refine lv_icmp_ge (tgt := 68) hx hb dX5_unmovedSites_9 (by decide) (fun c_3 => ?_) (fun c_3 => ?_)
  ·
    replace hF := ip c_3 hF
    cases hF
    exact hE x1 rfl ls (lv_sub hl [1] rfl)
  ·
    replace hF := inn c_3 hF
    refine lv_aload_n hx hb dX5_unmovedSites_12 rfl (lv_at hl 0 rfl) ?_
    refine lv_iload_n hx hb dX5_unmovedSites_13 rfl (lv_at hl 2 rfl) ?_
    refine lv_iconst (v := 0) hx hb dX5_unmovedSites_14 (by decide) ?_
    replace hF := bd1_s hF
    obtain ⟨r_4, hc_5, hF⟩ := hF
    have hPc : va_P E.1 vwCl (w_X5_of E a_ a_row a_partners a_share a_leftOver c_askedCount c_outcome c_row) s.heap := hP.sub (ws' := [(a_, .inr (6, [.ref a_row, .ref a_partners, .int c_askedCount, .int c_outcome, .ref a_share, .ref a_leftOver])), (a_row, .inl (E.2.1, 81, .inl c_row))]) [0, 1] rfl
    have hrc := va_recv hK hPc (ci := 6) (q0 := 0) rfl rfl
    refine pE_i (va_runV (As := [.int x2, .int (0 : Int32)]) (rest := [])  ⟨hx, hb, hml, hown, hts⟩ (f_X5_of l E (a_ := a_) (a_row := a_row) (a_partners := a_partners) (a_share := a_share) (a_leftOver := a_leftOver) (p1 := x2) (p2 := (0 : Int32)) (c_askedCount := c_askedCount) (c_outcome := c_outcome) (c_row := c_row) hc_5) (cwV 2 hts g_f_X5_unmovedSites_f_X5_of_69 rfl rfl rfl hd_X5_of ⟨Nat.le_of_ble_eq_true rfl, Nat.le_of_ble_eq_true rfl⟩) ⟨pP.blind, hrc, (pP.pre ⟨hK, hN⟩ hPc)⟩ rfl rfl hl.1 rfl (lv_room (Nat.le_of_ble_eq_true rfl)) dX5_unmovedSites_15 ⟨Nat.le_of_ble_eq_true rfl, Nat.le_of_ble_eq_true rfl⟩) ?_
    refine lv_aload_n hx hb dX5_unmovedSites_18 rfl (lv_at hl 0 rfl) ?_
    refine lv_iload_n hx hb dX5_unmovedSites_19 rfl (lv_at hl 2 rfl) ?_
    refine lv_iconst (v := 2) hx hb dX5_unmovedSites_20 (by decide) ?_
    replace hF := bd1_s hF
    obtain ⟨r_6, hc_7, hF⟩ := hF
    have hPc : va_P E.1 vwCl (w_X5_of E a_ a_row a_partners a_share a_leftOver c_askedCount c_outcome c_row) s.heap := hP.sub (ws' := [(a_, .inr (6, [.ref a_row, .ref a_partners, .int c_askedCount, .int c_outcome, .ref a_share, .ref a_leftOver])), (a_row, .inl (E.2.1, 81, .inl c_row))]) [0, 1] rfl
    have hrc := va_recv hK hPc (ci := 6) (q0 := 0) rfl rfl
    refine pE_i (va_runV (As := [.int x2, .int (2 : Int32)]) (rest := [.int r_4])  ⟨hx, hb, hml, hown, hts⟩ (f_X5_of l E (a_ := a_) (a_row := a_row) (a_partners := a_partners) (a_share := a_share) (a_leftOver := a_leftOver) (p1 := x2) (p2 := (2 : Int32)) (c_askedCount := c_askedCount) (c_outcome := c_outcome) (c_row := c_row) hc_7) (cwV 2 hts g_f_X5_unmovedSites_f_X5_of_69 rfl rfl rfl hd_X5_of ⟨Nat.le_of_ble_eq_true rfl, Nat.le_of_ble_eq_true rfl⟩) ⟨pP.blind, hrc, (pP.pre ⟨hK, hN⟩ hPc)⟩ rfl rfl hl.1 rfl (lv_room (Nat.le_of_ble_eq_true rfl)) dX5_unmovedSites_21 ⟨Nat.le_of_ble_eq_true rfl, Nat.le_of_ble_eq_true rfl⟩) ?_
    refine lv_icmp_ne (tgt := 46) hx hb dX5_unmovedSites_24 (by decide) (fun c_8 => ?_) (fun c_8 => ?_)
    ·
      replace hF := inn c_8 hF
      exact j_X5_unmovedSites_46_r5 l E K (c_askedCount := c_askedCount) (c_outcome := c_outcome) (c_row := c_row) (x1 := x1) (x2 := x2) hx hb hml hown hts hK hN hC hE hF hP ls (lv_sub hl [0, 1, 2] rfl)
    ·
      replace hF := ip c_8 hF
      refine lv_aload_n hx hb dX5_unmovedSites_27 rfl (lv_at hl 0 rfl) ?_
      refine lv_iload_n hx hb dX5_unmovedSites_28 rfl (lv_at hl 2 rfl) ?_
      refine lv_iconst (v := 1) hx hb dX5_unmovedSites_29 (by decide) ?_
      replace hF := bd1_s hF
      obtain ⟨r_10, hc_11, hF⟩ := hF
      have hPc : va_P E.1 vwCl (w_X5_of E a_ a_row a_partners a_share a_leftOver c_askedCount c_outcome c_row) s.heap := hP.sub (ws' := [(a_, .inr (6, [.ref a_row, .ref a_partners, .int c_askedCount, .int c_outcome, .ref a_share, .ref a_leftOver])), (a_row, .inl (E.2.1, 81, .inl c_row))]) [0, 1] rfl
      have hrc := va_recv hK hPc (ci := 6) (q0 := 0) rfl rfl
      refine pE_i (va_runV (As := [.int x2, .int (1 : Int32)]) (rest := [])  ⟨hx, hb, hml, hown, hts⟩ (f_X5_of l E (a_ := a_) (a_row := a_row) (a_partners := a_partners) (a_share := a_share) (a_leftOver := a_leftOver) (p1 := x2) (p2 := (1 : Int32)) (c_askedCount := c_askedCount) (c_outcome := c_outcome) (c_row := c_row) hc_11) (cwV 2 hts g_f_X5_unmovedSites_f_X5_of_69 rfl rfl rfl hd_X5_of ⟨Nat.le_of_ble_eq_true rfl, Nat.le_of_ble_eq_true rfl⟩) ⟨pP.blind, hrc, (pP.pre ⟨hK, hN⟩ hPc)⟩ rfl rfl hl.1 rfl (lv_room (Nat.le_of_ble_eq_true rfl)) dX5_unmovedSites_30 ⟨Nat.le_of_ble_eq_true rfl, Nat.le_of_ble_eq_true rfl⟩) ?_
      refine lv_aload_n hx hb dX5_unmovedSites_33 rfl (lv_at hl 0 rfl) ?_
      refine lv_iload_n hx hb dX5_unmovedSites_34 rfl (lv_at hl 2 rfl) ?_
      refine lv_iconst (v := 3) hx hb dX5_unmovedSites_35 (by decide) ?_
      replace hF := bd1_s hF
      obtain ⟨r_12, hc_13, hF⟩ := hF
      have hPc : va_P E.1 vwCl (w_X5_of E a_ a_row a_partners a_share a_leftOver c_askedCount c_outcome c_row) s.heap := hP.sub (ws' := [(a_, .inr (6, [.ref a_row, .ref a_partners, .int c_askedCount, .int c_outcome, .ref a_share, .ref a_leftOver])), (a_row, .inl (E.2.1, 81, .inl c_row))]) [0, 1] rfl
      have hrc := va_recv hK hPc (ci := 6) (q0 := 0) rfl rfl
      refine pE_i (va_runV (As := [.int x2, .int (3 : Int32)]) (rest := [.int r_10])  ⟨hx, hb, hml, hown, hts⟩ (f_X5_of l E (a_ := a_) (a_row := a_row) (a_partners := a_partners) (a_share := a_share) (a_leftOver := a_leftOver) (p1 := x2) (p2 := (3 : Int32)) (c_askedCount := c_askedCount) (c_outcome := c_outcome) (c_row := c_row) hc_13) (cwV 2 hts g_f_X5_unmovedSites_f_X5_of_69 rfl rfl rfl hd_X5_of ⟨Nat.le_of_ble_eq_true rfl, Nat.le_of_ble_eq_true rfl⟩) ⟨pP.blind, hrc, (pP.pre ⟨hK, hN⟩ hPc)⟩ rfl rfl hl.1 rfl (lv_room (Nat.le_of_ble_eq_true rfl)) dX5_unmovedSites_36 ⟨Nat.le_of_ble_eq_true rfl, Nat.le_of_ble_eq_true rfl⟩) ?_
      refine lv_icmp_ne (tgt := 46) hx hb dX5_unmovedSites_39 (by decide) (fun c_14 => ?_) (fun c_14 => ?_)
      ·
        replace hF := inn c_14 hF
        exact j_X5_unmovedSites_46_r5 l E K (c_askedCount := c_askedCount) (c_outcome := c_outcome) (c_row := c_row) (x1 := x1) (x2 := x2) hx hb hml hown hts hK hN hC hE hF hP ls (lv_sub hl [0, 1, 2] rfl)
      ·
        replace hF := ip c_14 hF
        refine lv_iconst (v := 1) hx hb dX5_unmovedSites_42 (by decide) ?_
        refine lv_goto (tgt := 47) hx hb dX5_unmovedSites_43 (by decide) ?_
        exact j_X5_unmovedSites_47_r5 l E K (c_askedCount := c_askedCount) (c_outcome := c_outcome) (c_row := c_row) (k0 := (1 : Int32)) (x1 := x1) (x2 := x2) hx hb hml hown hts hK hN hC hE hF hP ls (lv_sub hl [0, 1, 2] rfl)

set_option maxHeartbeats 4000000 in
set_option maxRecDepth 100000 in
theorem lw_X5_unmovedSites_4 {p : Program} (l : Launch) {e : Env} {s : State} {m : MethodId} {below : List Frame} {meth : Method} {c : Code} {Q : State → Prop} (E : EE) (K : Nat) {a_ a_row a_partners a_share a_leftOver : Nat} {c_askedCount : Int32} {c_outcome : Int32} {c_row : Nat → Int32} (hx : p.tables.exec = Jvm.exec) (hb : c.code = cX5_unmovedSites) (hml : c.maxLocals = 4) (hown : s.vm.findClass RX5 = some m.cls) (hts : ∀ w ∈ v_f_X5_unmovedSites, w.before #[Value.ref a_] s = true) (hK : va_K E.1 vwCl (TY E) s) (hN : NX s) (hP : va_P E.1 vwCl (w_X5_unmovedSites E a_ a_row a_partners a_share a_leftOver c_askedCount c_outcome c_row) s.heap) (j9 : Nat) (x1 : Int32) (x2 : Int32) (x1' : Int32) (hL : lpF (fun u9 : Int32 × Int32 => B_X5_unmovedSites_4 c_row u9.1 u9.2) j9 (x1, x2) = some x1') (hX : (∀ (ls : Array Slot), lv_has ls 4 [(1, .int x1')] → W p l e ({ frames := 1, cells := 0, slots := 0, locals := 22 } : Room) s m #[Value.ref a_] below meth c s.heap [] 0 0 Q (F0 m 68 ls []))) : ∀ (ls : Array Slot), lv_has ls 4 [(0, .ref a_), (1, .int x1), (2, .int x2)] → W p l e ({ frames := 1, cells := 0, slots := 0, locals := 22 } : Room) s m #[Value.ref a_] below meth c s.heap [] 0 0 Q (F0 m 4 ls []) := by
  exact lp_rule (P := (fun u9 : Int32 × Int32 => ∀ (ls : Array Slot), lv_has ls 4 [(0, .ref a_), (1, .int u9.1), (2, .int u9.2)] → W p l e ({ frames := 1, cells := 0, slots := 0, locals := 22 } : Room) s m #[Value.ref a_] below meth c s.heap [] 0 0 Q (F0 m 4 ls []))) (R := (fun r9 : Int32 => (∀ (ls : Array Slot), lv_has ls 4 [(1, .int r9)] → W p l e ({ frames := 1, cells := 0, slots := 0, locals := 22 } : Room) s m #[Value.ref a_] below meth c s.heap [] 0 0 Q (F0 m 68 ls [])))) (fun u9 xx hF hC hE => wb_X5_unmovedSites_4 l E K (c_askedCount := c_askedCount) (c_outcome := c_outcome) (c_row := c_row) (x1 := u9.1) (x2 := u9.2) hx hb hml hown hts hK hN (fun x1 x2 q9 => hC _ q9) (fun x1 q9 => hE _ q9) hF hP) j9 (x1, x2) x1' hL hX

set_option maxHeartbeats 4000000 in
set_option maxRecDepth 100000 in
theorem f_X5_unmovedSites (l : Launch) (E : EE) (K : Nat) {a_ a_row a_partners a_share a_leftOver : Nat} {c_askedCount : Int32} {c_outcome : Int32} {c_row : Nat → Int32} {rr : Int32} (hF : F_X5_unmovedSites K c_row = some rr) : Met l yX5_unmovedSites v_f_X5_unmovedSites (({ frames := 1, cells := 0, slots := 0, locals := 22 } : Room)) (va_Pc [.ref a_] (pP E (w_X5_unmovedSites E a_ a_row a_partners a_share a_leftOver c_askedCount c_outcome c_row))) (vp_Si (fun q : Int32 => q = rr)) 0 0 (fun _ => False) := by
  refine Met.ofW (cc := cX5_unmovedSites) (maxL := 4) (ret := (some .int)) (by decide) rfl ?_
  intro p e s m args below meth c s₁ B hml hv
  obtain ⟨rfl, ⟨hK, hN⟩, hP⟩ := hv
  have hx := B.exec
  have hb := B.bytes
  have hr := B.returns
  have hts := atoms_spec (ws := v_f_X5_unmovedSites) B.pre
  have hown : s.vm.findClass RX5 = some m.cls := own_of hd_X5_unmovedSites.1 (findClass_of_methodNamed B.named)
  have hlocks : meth.locks = false := B.notSynchronized
  replace hP : va_P E.1 vwCl [(a_, .inr (6, [.ref a_row, .ref a_partners, .int c_askedCount, .int c_outcome, .ref a_share, .ref a_leftOver])), (a_row, .inl (E.2.1, 81, .inl c_row))] s.heap := hP
  have hl := lv_entry ([.ref a_]) (n := 4) (Nat.le_of_ble_eq_true rfl)
  rw [lg_entry_eq]
  generalize (lg_sl ([.ref a_]) ++ List.replicate (4 - (lg_sl ([.ref a_])).length) Slot.unset).toArray = ls at hl ⊢
  have hl : lv_has ls 4 [(0, .ref a_)] := hl
  obtain ⟨Q, hQ⟩ : ∃ Q : State → Prop, Q = MQ below (vp_Si (fun q : Int32 => q = rr)) #[Value.ref a_] s 0 0 (fun _ => False) := ⟨_, rfl⟩
  rw [← hQ]
  change W p l e ({ frames := 1, cells := 0, slots := 0, locals := 22 } : Room) s m #[Value.ref a_] below meth c s.heap [] 0 0 Q (F0 m 0 ls [])
  unfold F_X5_unmovedSites at hF
  refine lv_iconst (v := 0) hx hb dX5_unmovedSites_0 (by decide) ?_
  refine lv_istore_n (lv' := [(1, .int (0 : Int32)), (0, .ref a_)]) hx hb dX5_unmovedSites_1 rfl hl (by decide) rfl (fun ls hl => ?_)
  refine lv_iconst (v := 0) hx hb dX5_unmovedSites_2 (by decide) ?_
  refine lv_istore_n (lv' := [(2, .int (0 : Int32)), (1, .int (0 : Int32)), (0, .ref a_)]) hx hb dX5_unmovedSites_3 rfl hl (by decide) rfl (fun ls hl => ?_)
  replace hF := bd1_s hF
  obtain ⟨x1_15, hL_16, hF⟩ := hF
  refine lw_X5_unmovedSites_4 l E K (c_askedCount := c_askedCount) (c_outcome := c_outcome) (c_row := c_row) hx hb hml hown hts hK hN hP K (0 : Int32) (0 : Int32) x1_15 hL_16 ?_ ls (lv_sub hl [2, 1, 0] rfl)
  ·
    intro ls hl
    refine lv_iload_n hx hb dX5_unmovedSites_68 rfl (lv_at hl 0 rfl) ?_
    rw [hQ]
    obtain e9_0 := inj1 hF
    exact W.iret (v := x1_15) hx hb hr (fun tt ht hW => ⟨_, rfl, e9_0, ht⟩) (fun _ h => by cases h) dX5_unmovedSites_69
end
