def dl_X5_aloneToGoal_20_st01_0 : List (Nat × Instr × Nat) := [(50, .iload 10, 2), (52, .sipush 9999, 3), (55, .if_icmp .ge 81, 3), (58, .iload 9, 2), (60, .ifCond .le 76, 3), (63, .aload_n 0, 1), (64, .getfield 11, 3), (67, .iconst 3, 1), (68, .iaload, 1), (69, .iload 6, 2), (71, .isub, 1), (72, .istore 11, 2), (74, .iload 11, 2), (76, .iload 9, 2), (78, .imul, 1), (79, .iload 5, 2), (81, .isub, 1), (82, .istore 12, 2), (84, .iload 7, 2), (86, .iload 12, 2), (88, .iadd, 1), (89, .istore 7, 2), (91, .iload 4, 2), (93, .iload 12, 2), (95, .iadd, 1), (96, .istore 4, 2), (98, .iload 8, 2), (100, .iload 11, 2), (102, .iconst 2, 1), (103, .aload_n 0, 1), (104, .getfield 11, 3), (107, .iconst 3, 1), (108, .iaload, 1), (109, .imul, 1), (110, .iadd, 1), (111, .iadd, 1), (112, .istore 8, 2), (114, .iload 4, 2), (116, .istore_n 3, 1), (117, .iconst 0, 1), (118, .istore 5, 2), (120, .iconst 0, 1), (121, .istore 6, 2), (123, .aload_n 0, 1), (124, .iload_n 3, 1), (125, .invokevirtual 182, 3), (128, .istore 9, 2), (130, .iinc 10 1, 3), (133, .goto (-83), 3), (136, .aload_n 0, 1)]
set_option maxRecDepth 100000 in
theorem dall_X5_aloneToGoal_20_st01_0 : dchk cX5_aloneToGoal dl_X5_aloneToGoal_20_st01_0 = true := by decide +kernel
theorem dX5_aloneToGoal_50 : decode cX5_aloneToGoal 50 = .ok (.iload 10, 2) := dchk_at dall_X5_aloneToGoal_20_st01_0 (k := 0) rfl
theorem dX5_aloneToGoal_52 : decode cX5_aloneToGoal 52 = .ok (.sipush 9999, 3) := dchk_at dall_X5_aloneToGoal_20_st01_0 (k := 1) rfl
theorem dX5_aloneToGoal_55 : decode cX5_aloneToGoal 55 = .ok (.if_icmp .ge 81, 3) := dchk_at dall_X5_aloneToGoal_20_st01_0 (k := 2) rfl
theorem dX5_aloneToGoal_58 : decode cX5_aloneToGoal 58 = .ok (.iload 9, 2) := dchk_at dall_X5_aloneToGoal_20_st01_0 (k := 3) rfl
theorem dX5_aloneToGoal_60 : decode cX5_aloneToGoal 60 = .ok (.ifCond .le 76, 3) := dchk_at dall_X5_aloneToGoal_20_st01_0 (k := 4) rfl
theorem dX5_aloneToGoal_63 : decode cX5_aloneToGoal 63 = .ok (.aload_n 0, 1) := dchk_at dall_X5_aloneToGoal_20_st01_0 (k := 5) rfl
theorem dX5_aloneToGoal_64 : decode cX5_aloneToGoal 64 = .ok (.getfield 11, 3) := dchk_at dall_X5_aloneToGoal_20_st01_0 (k := 6) rfl
theorem dX5_aloneToGoal_67 : decode cX5_aloneToGoal 67 = .ok (.iconst 3, 1) := dchk_at dall_X5_aloneToGoal_20_st01_0 (k := 7) rfl
theorem dX5_aloneToGoal_68 : decode cX5_aloneToGoal 68 = .ok (.iaload, 1) := dchk_at dall_X5_aloneToGoal_20_st01_0 (k := 8) rfl
theorem dX5_aloneToGoal_69 : decode cX5_aloneToGoal 69 = .ok (.iload 6, 2) := dchk_at dall_X5_aloneToGoal_20_st01_0 (k := 9) rfl
theorem dX5_aloneToGoal_71 : decode cX5_aloneToGoal 71 = .ok (.isub, 1) := dchk_at dall_X5_aloneToGoal_20_st01_0 (k := 10) rfl
theorem dX5_aloneToGoal_72 : decode cX5_aloneToGoal 72 = .ok (.istore 11, 2) := dchk_at dall_X5_aloneToGoal_20_st01_0 (k := 11) rfl
theorem dX5_aloneToGoal_74 : decode cX5_aloneToGoal 74 = .ok (.iload 11, 2) := dchk_at dall_X5_aloneToGoal_20_st01_0 (k := 12) rfl
theorem dX5_aloneToGoal_76 : decode cX5_aloneToGoal 76 = .ok (.iload 9, 2) := dchk_at dall_X5_aloneToGoal_20_st01_0 (k := 13) rfl
theorem dX5_aloneToGoal_78 : decode cX5_aloneToGoal 78 = .ok (.imul, 1) := dchk_at dall_X5_aloneToGoal_20_st01_0 (k := 14) rfl
theorem dX5_aloneToGoal_79 : decode cX5_aloneToGoal 79 = .ok (.iload 5, 2) := dchk_at dall_X5_aloneToGoal_20_st01_0 (k := 15) rfl
theorem dX5_aloneToGoal_81 : decode cX5_aloneToGoal 81 = .ok (.isub, 1) := dchk_at dall_X5_aloneToGoal_20_st01_0 (k := 16) rfl
theorem dX5_aloneToGoal_82 : decode cX5_aloneToGoal 82 = .ok (.istore 12, 2) := dchk_at dall_X5_aloneToGoal_20_st01_0 (k := 17) rfl
theorem dX5_aloneToGoal_84 : decode cX5_aloneToGoal 84 = .ok (.iload 7, 2) := dchk_at dall_X5_aloneToGoal_20_st01_0 (k := 18) rfl
theorem dX5_aloneToGoal_86 : decode cX5_aloneToGoal 86 = .ok (.iload 12, 2) := dchk_at dall_X5_aloneToGoal_20_st01_0 (k := 19) rfl
theorem dX5_aloneToGoal_88 : decode cX5_aloneToGoal 88 = .ok (.iadd, 1) := dchk_at dall_X5_aloneToGoal_20_st01_0 (k := 20) rfl
theorem dX5_aloneToGoal_89 : decode cX5_aloneToGoal 89 = .ok (.istore 7, 2) := dchk_at dall_X5_aloneToGoal_20_st01_0 (k := 21) rfl
theorem dX5_aloneToGoal_91 : decode cX5_aloneToGoal 91 = .ok (.iload 4, 2) := dchk_at dall_X5_aloneToGoal_20_st01_0 (k := 22) rfl
theorem dX5_aloneToGoal_93 : decode cX5_aloneToGoal 93 = .ok (.iload 12, 2) := dchk_at dall_X5_aloneToGoal_20_st01_0 (k := 23) rfl
theorem dX5_aloneToGoal_95 : decode cX5_aloneToGoal 95 = .ok (.iadd, 1) := dchk_at dall_X5_aloneToGoal_20_st01_0 (k := 24) rfl
theorem dX5_aloneToGoal_96 : decode cX5_aloneToGoal 96 = .ok (.istore 4, 2) := dchk_at dall_X5_aloneToGoal_20_st01_0 (k := 25) rfl
theorem dX5_aloneToGoal_98 : decode cX5_aloneToGoal 98 = .ok (.iload 8, 2) := dchk_at dall_X5_aloneToGoal_20_st01_0 (k := 26) rfl
theorem dX5_aloneToGoal_100 : decode cX5_aloneToGoal 100 = .ok (.iload 11, 2) := dchk_at dall_X5_aloneToGoal_20_st01_0 (k := 27) rfl
theorem dX5_aloneToGoal_102 : decode cX5_aloneToGoal 102 = .ok (.iconst 2, 1) := dchk_at dall_X5_aloneToGoal_20_st01_0 (k := 28) rfl
theorem dX5_aloneToGoal_103 : decode cX5_aloneToGoal 103 = .ok (.aload_n 0, 1) := dchk_at dall_X5_aloneToGoal_20_st01_0 (k := 29) rfl
theorem dX5_aloneToGoal_104 : decode cX5_aloneToGoal 104 = .ok (.getfield 11, 3) := dchk_at dall_X5_aloneToGoal_20_st01_0 (k := 30) rfl
theorem dX5_aloneToGoal_107 : decode cX5_aloneToGoal 107 = .ok (.iconst 3, 1) := dchk_at dall_X5_aloneToGoal_20_st01_0 (k := 31) rfl
theorem dX5_aloneToGoal_108 : decode cX5_aloneToGoal 108 = .ok (.iaload, 1) := dchk_at dall_X5_aloneToGoal_20_st01_0 (k := 32) rfl
theorem dX5_aloneToGoal_109 : decode cX5_aloneToGoal 109 = .ok (.imul, 1) := dchk_at dall_X5_aloneToGoal_20_st01_0 (k := 33) rfl
theorem dX5_aloneToGoal_110 : decode cX5_aloneToGoal 110 = .ok (.iadd, 1) := dchk_at dall_X5_aloneToGoal_20_st01_0 (k := 34) rfl
theorem dX5_aloneToGoal_111 : decode cX5_aloneToGoal 111 = .ok (.iadd, 1) := dchk_at dall_X5_aloneToGoal_20_st01_0 (k := 35) rfl
theorem dX5_aloneToGoal_112 : decode cX5_aloneToGoal 112 = .ok (.istore 8, 2) := dchk_at dall_X5_aloneToGoal_20_st01_0 (k := 36) rfl
theorem dX5_aloneToGoal_114 : decode cX5_aloneToGoal 114 = .ok (.iload 4, 2) := dchk_at dall_X5_aloneToGoal_20_st01_0 (k := 37) rfl
theorem dX5_aloneToGoal_116 : decode cX5_aloneToGoal 116 = .ok (.istore_n 3, 1) := dchk_at dall_X5_aloneToGoal_20_st01_0 (k := 38) rfl
theorem dX5_aloneToGoal_117 : decode cX5_aloneToGoal 117 = .ok (.iconst 0, 1) := dchk_at dall_X5_aloneToGoal_20_st01_0 (k := 39) rfl
theorem dX5_aloneToGoal_118 : decode cX5_aloneToGoal 118 = .ok (.istore 5, 2) := dchk_at dall_X5_aloneToGoal_20_st01_0 (k := 40) rfl
theorem dX5_aloneToGoal_120 : decode cX5_aloneToGoal 120 = .ok (.iconst 0, 1) := dchk_at dall_X5_aloneToGoal_20_st01_0 (k := 41) rfl
theorem dX5_aloneToGoal_121 : decode cX5_aloneToGoal 121 = .ok (.istore 6, 2) := dchk_at dall_X5_aloneToGoal_20_st01_0 (k := 42) rfl
theorem dX5_aloneToGoal_123 : decode cX5_aloneToGoal 123 = .ok (.aload_n 0, 1) := dchk_at dall_X5_aloneToGoal_20_st01_0 (k := 43) rfl
theorem dX5_aloneToGoal_124 : decode cX5_aloneToGoal 124 = .ok (.iload_n 3, 1) := dchk_at dall_X5_aloneToGoal_20_st01_0 (k := 44) rfl
theorem dX5_aloneToGoal_125 : decode cX5_aloneToGoal 125 = .ok (.invokevirtual 182, 3) := dchk_at dall_X5_aloneToGoal_20_st01_0 (k := 45) rfl
theorem dX5_aloneToGoal_128 : decode cX5_aloneToGoal 128 = .ok (.istore 9, 2) := dchk_at dall_X5_aloneToGoal_20_st01_0 (k := 46) rfl
theorem dX5_aloneToGoal_130 : decode cX5_aloneToGoal 130 = .ok (.iinc 10 1, 3) := dchk_at dall_X5_aloneToGoal_20_st01_0 (k := 47) rfl
theorem dX5_aloneToGoal_133 : decode cX5_aloneToGoal 133 = .ok (.goto (-83), 3) := dchk_at dall_X5_aloneToGoal_20_st01_0 (k := 48) rfl
theorem dX5_aloneToGoal_136 : decode cX5_aloneToGoal 136 = .ok (.aload_n 0, 1) := dchk_at dall_X5_aloneToGoal_20_st01_0 (k := 49) rfl
def dl_X5_aloneToGoal_20_st01_1 : List (Nat × Instr × Nat) := [(137, .getfield 11, 3), (140, .iconst 2, 1), (141, .iaload, 1), (142, .iload_n 3, 1), (143, .isub, 1), (144, .iconst 0, 1), (145, .invokestatic 191, 3), (148, .istore 10, 2), (150, .iload_n 2, 1), (151, .ifCond .eq 8, 3), (159, .iload 7, 2), (161, .iload 10, 2), (163, .iadd, 1), (164, .ireturn, 1), (154, .iload 8, 2), (156, .goto 5, 3), (0, .aload_n 0, 1), (1, .getfield 11, 3), (4, .bipush 8, 2), (6, .iaload, 1), (7, .istore_n 3, 1), (8, .aload_n 0, 1), (9, .bipush 6, 2), (11, .invokevirtual 188, 3), (14, .istore 4, 2), (16, .aload_n 0, 1), (17, .iload_n 1, 1), (18, .bipush 7, 2), (20, .invokevirtual 69, 3), (23, .istore 5, 2), (25, .aload_n 0, 1), (26, .getfield 11, 3), (29, .bipush 9, 2), (31, .iaload, 1), (32, .istore 6, 2), (34, .iconst 0, 1), (35, .istore 7, 2), (37, .iconst 0, 1), (38, .istore 8, 2), (40, .aload_n 0, 1), (41, .iload_n 3, 1), (42, .invokevirtual 182, 3), (45, .istore 9, 2), (47, .iconst 0, 1), (48, .istore 10, 2)]
set_option maxRecDepth 100000 in
theorem dall_X5_aloneToGoal_20_st01_1 : dchk cX5_aloneToGoal dl_X5_aloneToGoal_20_st01_1 = true := by decide +kernel
theorem dX5_aloneToGoal_137 : decode cX5_aloneToGoal 137 = .ok (.getfield 11, 3) := dchk_at dall_X5_aloneToGoal_20_st01_1 (k := 0) rfl
theorem dX5_aloneToGoal_140 : decode cX5_aloneToGoal 140 = .ok (.iconst 2, 1) := dchk_at dall_X5_aloneToGoal_20_st01_1 (k := 1) rfl
theorem dX5_aloneToGoal_141 : decode cX5_aloneToGoal 141 = .ok (.iaload, 1) := dchk_at dall_X5_aloneToGoal_20_st01_1 (k := 2) rfl
theorem dX5_aloneToGoal_142 : decode cX5_aloneToGoal 142 = .ok (.iload_n 3, 1) := dchk_at dall_X5_aloneToGoal_20_st01_1 (k := 3) rfl
theorem dX5_aloneToGoal_143 : decode cX5_aloneToGoal 143 = .ok (.isub, 1) := dchk_at dall_X5_aloneToGoal_20_st01_1 (k := 4) rfl
theorem dX5_aloneToGoal_144 : decode cX5_aloneToGoal 144 = .ok (.iconst 0, 1) := dchk_at dall_X5_aloneToGoal_20_st01_1 (k := 5) rfl
theorem dX5_aloneToGoal_145 : decode cX5_aloneToGoal 145 = .ok (.invokestatic 191, 3) := dchk_at dall_X5_aloneToGoal_20_st01_1 (k := 6) rfl
theorem dX5_aloneToGoal_148 : decode cX5_aloneToGoal 148 = .ok (.istore 10, 2) := dchk_at dall_X5_aloneToGoal_20_st01_1 (k := 7) rfl
theorem dX5_aloneToGoal_150 : decode cX5_aloneToGoal 150 = .ok (.iload_n 2, 1) := dchk_at dall_X5_aloneToGoal_20_st01_1 (k := 8) rfl
theorem dX5_aloneToGoal_151 : decode cX5_aloneToGoal 151 = .ok (.ifCond .eq 8, 3) := dchk_at dall_X5_aloneToGoal_20_st01_1 (k := 9) rfl
theorem dX5_aloneToGoal_159 : decode cX5_aloneToGoal 159 = .ok (.iload 7, 2) := dchk_at dall_X5_aloneToGoal_20_st01_1 (k := 10) rfl
theorem dX5_aloneToGoal_161 : decode cX5_aloneToGoal 161 = .ok (.iload 10, 2) := dchk_at dall_X5_aloneToGoal_20_st01_1 (k := 11) rfl
theorem dX5_aloneToGoal_163 : decode cX5_aloneToGoal 163 = .ok (.iadd, 1) := dchk_at dall_X5_aloneToGoal_20_st01_1 (k := 12) rfl
theorem dX5_aloneToGoal_164 : decode cX5_aloneToGoal 164 = .ok (.ireturn, 1) := dchk_at dall_X5_aloneToGoal_20_st01_1 (k := 13) rfl
theorem dX5_aloneToGoal_154 : decode cX5_aloneToGoal 154 = .ok (.iload 8, 2) := dchk_at dall_X5_aloneToGoal_20_st01_1 (k := 14) rfl
theorem dX5_aloneToGoal_156 : decode cX5_aloneToGoal 156 = .ok (.goto 5, 3) := dchk_at dall_X5_aloneToGoal_20_st01_1 (k := 15) rfl
theorem dX5_aloneToGoal_0 : decode cX5_aloneToGoal 0 = .ok (.aload_n 0, 1) := dchk_at dall_X5_aloneToGoal_20_st01_1 (k := 16) rfl
theorem dX5_aloneToGoal_1 : decode cX5_aloneToGoal 1 = .ok (.getfield 11, 3) := dchk_at dall_X5_aloneToGoal_20_st01_1 (k := 17) rfl
theorem dX5_aloneToGoal_4 : decode cX5_aloneToGoal 4 = .ok (.bipush 8, 2) := dchk_at dall_X5_aloneToGoal_20_st01_1 (k := 18) rfl
theorem dX5_aloneToGoal_6 : decode cX5_aloneToGoal 6 = .ok (.iaload, 1) := dchk_at dall_X5_aloneToGoal_20_st01_1 (k := 19) rfl
theorem dX5_aloneToGoal_7 : decode cX5_aloneToGoal 7 = .ok (.istore_n 3, 1) := dchk_at dall_X5_aloneToGoal_20_st01_1 (k := 20) rfl
theorem dX5_aloneToGoal_8 : decode cX5_aloneToGoal 8 = .ok (.aload_n 0, 1) := dchk_at dall_X5_aloneToGoal_20_st01_1 (k := 21) rfl
theorem dX5_aloneToGoal_9 : decode cX5_aloneToGoal 9 = .ok (.bipush 6, 2) := dchk_at dall_X5_aloneToGoal_20_st01_1 (k := 22) rfl
theorem dX5_aloneToGoal_11 : decode cX5_aloneToGoal 11 = .ok (.invokevirtual 188, 3) := dchk_at dall_X5_aloneToGoal_20_st01_1 (k := 23) rfl
theorem dX5_aloneToGoal_14 : decode cX5_aloneToGoal 14 = .ok (.istore 4, 2) := dchk_at dall_X5_aloneToGoal_20_st01_1 (k := 24) rfl
theorem dX5_aloneToGoal_16 : decode cX5_aloneToGoal 16 = .ok (.aload_n 0, 1) := dchk_at dall_X5_aloneToGoal_20_st01_1 (k := 25) rfl
theorem dX5_aloneToGoal_17 : decode cX5_aloneToGoal 17 = .ok (.iload_n 1, 1) := dchk_at dall_X5_aloneToGoal_20_st01_1 (k := 26) rfl
theorem dX5_aloneToGoal_18 : decode cX5_aloneToGoal 18 = .ok (.bipush 7, 2) := dchk_at dall_X5_aloneToGoal_20_st01_1 (k := 27) rfl
theorem dX5_aloneToGoal_20 : decode cX5_aloneToGoal 20 = .ok (.invokevirtual 69, 3) := dchk_at dall_X5_aloneToGoal_20_st01_1 (k := 28) rfl
theorem dX5_aloneToGoal_23 : decode cX5_aloneToGoal 23 = .ok (.istore 5, 2) := dchk_at dall_X5_aloneToGoal_20_st01_1 (k := 29) rfl
theorem dX5_aloneToGoal_25 : decode cX5_aloneToGoal 25 = .ok (.aload_n 0, 1) := dchk_at dall_X5_aloneToGoal_20_st01_1 (k := 30) rfl
theorem dX5_aloneToGoal_26 : decode cX5_aloneToGoal 26 = .ok (.getfield 11, 3) := dchk_at dall_X5_aloneToGoal_20_st01_1 (k := 31) rfl
theorem dX5_aloneToGoal_29 : decode cX5_aloneToGoal 29 = .ok (.bipush 9, 2) := dchk_at dall_X5_aloneToGoal_20_st01_1 (k := 32) rfl
theorem dX5_aloneToGoal_31 : decode cX5_aloneToGoal 31 = .ok (.iaload, 1) := dchk_at dall_X5_aloneToGoal_20_st01_1 (k := 33) rfl
theorem dX5_aloneToGoal_32 : decode cX5_aloneToGoal 32 = .ok (.istore 6, 2) := dchk_at dall_X5_aloneToGoal_20_st01_1 (k := 34) rfl
theorem dX5_aloneToGoal_34 : decode cX5_aloneToGoal 34 = .ok (.iconst 0, 1) := dchk_at dall_X5_aloneToGoal_20_st01_1 (k := 35) rfl
theorem dX5_aloneToGoal_35 : decode cX5_aloneToGoal 35 = .ok (.istore 7, 2) := dchk_at dall_X5_aloneToGoal_20_st01_1 (k := 36) rfl
theorem dX5_aloneToGoal_37 : decode cX5_aloneToGoal 37 = .ok (.iconst 0, 1) := dchk_at dall_X5_aloneToGoal_20_st01_1 (k := 37) rfl
theorem dX5_aloneToGoal_38 : decode cX5_aloneToGoal 38 = .ok (.istore 8, 2) := dchk_at dall_X5_aloneToGoal_20_st01_1 (k := 38) rfl
theorem dX5_aloneToGoal_40 : decode cX5_aloneToGoal 40 = .ok (.aload_n 0, 1) := dchk_at dall_X5_aloneToGoal_20_st01_1 (k := 39) rfl
theorem dX5_aloneToGoal_41 : decode cX5_aloneToGoal 41 = .ok (.iload_n 3, 1) := dchk_at dall_X5_aloneToGoal_20_st01_1 (k := 40) rfl
theorem dX5_aloneToGoal_42 : decode cX5_aloneToGoal 42 = .ok (.invokevirtual 182, 3) := dchk_at dall_X5_aloneToGoal_20_st01_1 (k := 41) rfl
theorem dX5_aloneToGoal_45 : decode cX5_aloneToGoal 45 = .ok (.istore 9, 2) := dchk_at dall_X5_aloneToGoal_20_st01_1 (k := 42) rfl
theorem dX5_aloneToGoal_47 : decode cX5_aloneToGoal 47 = .ok (.iconst 0, 1) := dchk_at dall_X5_aloneToGoal_20_st01_1 (k := 43) rfl
theorem dX5_aloneToGoal_48 : decode cX5_aloneToGoal 48 = .ok (.istore 10, 2) := dchk_at dall_X5_aloneToGoal_20_st01_1 (k := 44) rfl
def dl_X5_shareOf_20_st01_0 : List (Nat × Instr × Nat) := [(0, .iload_n 2, 1), (1, .ifCond .lt 8, 3), (9, .iconst 0, 1), (10, .ireturn, 1), (4, .iload_n 2, 1), (5, .iconst 1, 1), (6, .if_icmp .le 5, 3), (11, .iload_n 1, 1), (12, .aload_n 0, 1), (13, .getfield 28, 3), (16, .iload_n 2, 1), (17, .iaload, 1), (18, .if_icmp .ge 14, 3), (32, .aload_n 0, 1), (33, .getfield 25, 3), (36, .iload_n 2, 1), (37, .iaload, 1), (38, .ireturn, 1), (21, .aload_n 0, 1), (22, .getfield 25, 3), (25, .iload_n 2, 1), (26, .iaload, 1), (27, .iconst 1, 1), (28, .iadd, 1), (29, .goto 9, 3)]
set_option maxRecDepth 100000 in
theorem dall_X5_shareOf_20_st01_0 : dchk cX5_shareOf dl_X5_shareOf_20_st01_0 = true := by decide +kernel
theorem dX5_shareOf_0 : decode cX5_shareOf 0 = .ok (.iload_n 2, 1) := dchk_at dall_X5_shareOf_20_st01_0 (k := 0) rfl
theorem dX5_shareOf_1 : decode cX5_shareOf 1 = .ok (.ifCond .lt 8, 3) := dchk_at dall_X5_shareOf_20_st01_0 (k := 1) rfl
theorem dX5_shareOf_9 : decode cX5_shareOf 9 = .ok (.iconst 0, 1) := dchk_at dall_X5_shareOf_20_st01_0 (k := 2) rfl
theorem dX5_shareOf_10 : decode cX5_shareOf 10 = .ok (.ireturn, 1) := dchk_at dall_X5_shareOf_20_st01_0 (k := 3) rfl
theorem dX5_shareOf_4 : decode cX5_shareOf 4 = .ok (.iload_n 2, 1) := dchk_at dall_X5_shareOf_20_st01_0 (k := 4) rfl
theorem dX5_shareOf_5 : decode cX5_shareOf 5 = .ok (.iconst 1, 1) := dchk_at dall_X5_shareOf_20_st01_0 (k := 5) rfl
theorem dX5_shareOf_6 : decode cX5_shareOf 6 = .ok (.if_icmp .le 5, 3) := dchk_at dall_X5_shareOf_20_st01_0 (k := 6) rfl
theorem dX5_shareOf_11 : decode cX5_shareOf 11 = .ok (.iload_n 1, 1) := dchk_at dall_X5_shareOf_20_st01_0 (k := 7) rfl
theorem dX5_shareOf_12 : decode cX5_shareOf 12 = .ok (.aload_n 0, 1) := dchk_at dall_X5_shareOf_20_st01_0 (k := 8) rfl
theorem dX5_shareOf_13 : decode cX5_shareOf 13 = .ok (.getfield 28, 3) := dchk_at dall_X5_shareOf_20_st01_0 (k := 9) rfl
theorem dX5_shareOf_16 : decode cX5_shareOf 16 = .ok (.iload_n 2, 1) := dchk_at dall_X5_shareOf_20_st01_0 (k := 10) rfl
theorem dX5_shareOf_17 : decode cX5_shareOf 17 = .ok (.iaload, 1) := dchk_at dall_X5_shareOf_20_st01_0 (k := 11) rfl
theorem dX5_shareOf_18 : decode cX5_shareOf 18 = .ok (.if_icmp .ge 14, 3) := dchk_at dall_X5_shareOf_20_st01_0 (k := 12) rfl
theorem dX5_shareOf_32 : decode cX5_shareOf 32 = .ok (.aload_n 0, 1) := dchk_at dall_X5_shareOf_20_st01_0 (k := 13) rfl
theorem dX5_shareOf_33 : decode cX5_shareOf 33 = .ok (.getfield 25, 3) := dchk_at dall_X5_shareOf_20_st01_0 (k := 14) rfl
theorem dX5_shareOf_36 : decode cX5_shareOf 36 = .ok (.iload_n 2, 1) := dchk_at dall_X5_shareOf_20_st01_0 (k := 15) rfl
theorem dX5_shareOf_37 : decode cX5_shareOf 37 = .ok (.iaload, 1) := dchk_at dall_X5_shareOf_20_st01_0 (k := 16) rfl
theorem dX5_shareOf_38 : decode cX5_shareOf 38 = .ok (.ireturn, 1) := dchk_at dall_X5_shareOf_20_st01_0 (k := 17) rfl
theorem dX5_shareOf_21 : decode cX5_shareOf 21 = .ok (.aload_n 0, 1) := dchk_at dall_X5_shareOf_20_st01_0 (k := 18) rfl
theorem dX5_shareOf_22 : decode cX5_shareOf 22 = .ok (.getfield 25, 3) := dchk_at dall_X5_shareOf_20_st01_0 (k := 19) rfl
theorem dX5_shareOf_25 : decode cX5_shareOf 25 = .ok (.iload_n 2, 1) := dchk_at dall_X5_shareOf_20_st01_0 (k := 20) rfl
theorem dX5_shareOf_26 : decode cX5_shareOf 26 = .ok (.iaload, 1) := dchk_at dall_X5_shareOf_20_st01_0 (k := 21) rfl
theorem dX5_shareOf_27 : decode cX5_shareOf 27 = .ok (.iconst 1, 1) := dchk_at dall_X5_shareOf_20_st01_0 (k := 22) rfl
theorem dX5_shareOf_28 : decode cX5_shareOf 28 = .ok (.iadd, 1) := dchk_at dall_X5_shareOf_20_st01_0 (k := 23) rfl
theorem dX5_shareOf_29 : decode cX5_shareOf 29 = .ok (.goto 9, 3) := dchk_at dall_X5_shareOf_20_st01_0 (k := 24) rfl
def dl_X5_drift_20_st01_0 : List (Nat × Instr × Nat) := [(0, .iload_n 1, 1), (1, .ifCond .lt 18, 3), (19, .iconst 0, 1), (20, .ireturn, 1), (4, .iload_n 1, 1), (5, .bipush 8, 2), (7, .if_icmp .ge 12, 3), (10, .iload_n 2, 1), (11, .ifCond .lt 8, 3), (14, .iload_n 2, 1), (15, .iconst 1, 1), (16, .if_icmp .le 5, 3), (21, .bipush 17, 2), (23, .iload_n 1, 1), (24, .bipush 8, 2), (26, .imul, 1), (27, .iadd, 1), (28, .iload_n 2, 1), (29, .iadd, 1), (30, .istore_n 3, 1), (31, .aload_n 0, 1), (32, .getfield 11, 3), (35, .iload_n 3, 1), (36, .iconst 0, 1), (37, .iadd, 1), (38, .iaload, 1), (39, .aload_n 0, 1), (40, .getfield 11, 3), (43, .iload_n 3, 1), (44, .iconst 2, 1), (45, .iadd, 1), (46, .iaload, 1), (47, .isub, 1), (48, .aload_n 0, 1), (49, .getfield 11, 3), (52, .iload_n 3, 1), (53, .iconst 4, 1), (54, .iadd, 1), (55, .iaload, 1), (56, .iadd, 1), (57, .ireturn, 1)]
set_option maxRecDepth 100000 in
theorem dall_X5_drift_20_st01_0 : dchk cX5_drift dl_X5_drift_20_st01_0 = true := by decide +kernel
theorem dX5_drift_0 : decode cX5_drift 0 = .ok (.iload_n 1, 1) := dchk_at dall_X5_drift_20_st01_0 (k := 0) rfl
theorem dX5_drift_1 : decode cX5_drift 1 = .ok (.ifCond .lt 18, 3) := dchk_at dall_X5_drift_20_st01_0 (k := 1) rfl
theorem dX5_drift_19 : decode cX5_drift 19 = .ok (.iconst 0, 1) := dchk_at dall_X5_drift_20_st01_0 (k := 2) rfl
theorem dX5_drift_20 : decode cX5_drift 20 = .ok (.ireturn, 1) := dchk_at dall_X5_drift_20_st01_0 (k := 3) rfl
theorem dX5_drift_4 : decode cX5_drift 4 = .ok (.iload_n 1, 1) := dchk_at dall_X5_drift_20_st01_0 (k := 4) rfl
theorem dX5_drift_5 : decode cX5_drift 5 = .ok (.bipush 8, 2) := dchk_at dall_X5_drift_20_st01_0 (k := 5) rfl
theorem dX5_drift_7 : decode cX5_drift 7 = .ok (.if_icmp .ge 12, 3) := dchk_at dall_X5_drift_20_st01_0 (k := 6) rfl
theorem dX5_drift_10 : decode cX5_drift 10 = .ok (.iload_n 2, 1) := dchk_at dall_X5_drift_20_st01_0 (k := 7) rfl
theorem dX5_drift_11 : decode cX5_drift 11 = .ok (.ifCond .lt 8, 3) := dchk_at dall_X5_drift_20_st01_0 (k := 8) rfl
theorem dX5_drift_14 : decode cX5_drift 14 = .ok (.iload_n 2, 1) := dchk_at dall_X5_drift_20_st01_0 (k := 9) rfl
theorem dX5_drift_15 : decode cX5_drift 15 = .ok (.iconst 1, 1) := dchk_at dall_X5_drift_20_st01_0 (k := 10) rfl
theorem dX5_drift_16 : decode cX5_drift 16 = .ok (.if_icmp .le 5, 3) := dchk_at dall_X5_drift_20_st01_0 (k := 11) rfl
theorem dX5_drift_21 : decode cX5_drift 21 = .ok (.bipush 17, 2) := dchk_at dall_X5_drift_20_st01_0 (k := 12) rfl
theorem dX5_drift_23 : decode cX5_drift 23 = .ok (.iload_n 1, 1) := dchk_at dall_X5_drift_20_st01_0 (k := 13) rfl
theorem dX5_drift_24 : decode cX5_drift 24 = .ok (.bipush 8, 2) := dchk_at dall_X5_drift_20_st01_0 (k := 14) rfl
theorem dX5_drift_26 : decode cX5_drift 26 = .ok (.imul, 1) := dchk_at dall_X5_drift_20_st01_0 (k := 15) rfl
theorem dX5_drift_27 : decode cX5_drift 27 = .ok (.iadd, 1) := dchk_at dall_X5_drift_20_st01_0 (k := 16) rfl
theorem dX5_drift_28 : decode cX5_drift 28 = .ok (.iload_n 2, 1) := dchk_at dall_X5_drift_20_st01_0 (k := 17) rfl
theorem dX5_drift_29 : decode cX5_drift 29 = .ok (.iadd, 1) := dchk_at dall_X5_drift_20_st01_0 (k := 18) rfl
theorem dX5_drift_30 : decode cX5_drift 30 = .ok (.istore_n 3, 1) := dchk_at dall_X5_drift_20_st01_0 (k := 19) rfl
theorem dX5_drift_31 : decode cX5_drift 31 = .ok (.aload_n 0, 1) := dchk_at dall_X5_drift_20_st01_0 (k := 20) rfl
theorem dX5_drift_32 : decode cX5_drift 32 = .ok (.getfield 11, 3) := dchk_at dall_X5_drift_20_st01_0 (k := 21) rfl
theorem dX5_drift_35 : decode cX5_drift 35 = .ok (.iload_n 3, 1) := dchk_at dall_X5_drift_20_st01_0 (k := 22) rfl
theorem dX5_drift_36 : decode cX5_drift 36 = .ok (.iconst 0, 1) := dchk_at dall_X5_drift_20_st01_0 (k := 23) rfl
theorem dX5_drift_37 : decode cX5_drift 37 = .ok (.iadd, 1) := dchk_at dall_X5_drift_20_st01_0 (k := 24) rfl
theorem dX5_drift_38 : decode cX5_drift 38 = .ok (.iaload, 1) := dchk_at dall_X5_drift_20_st01_0 (k := 25) rfl
theorem dX5_drift_39 : decode cX5_drift 39 = .ok (.aload_n 0, 1) := dchk_at dall_X5_drift_20_st01_0 (k := 26) rfl
theorem dX5_drift_40 : decode cX5_drift 40 = .ok (.getfield 11, 3) := dchk_at dall_X5_drift_20_st01_0 (k := 27) rfl
theorem dX5_drift_43 : decode cX5_drift 43 = .ok (.iload_n 3, 1) := dchk_at dall_X5_drift_20_st01_0 (k := 28) rfl
theorem dX5_drift_44 : decode cX5_drift 44 = .ok (.iconst 2, 1) := dchk_at dall_X5_drift_20_st01_0 (k := 29) rfl
theorem dX5_drift_45 : decode cX5_drift 45 = .ok (.iadd, 1) := dchk_at dall_X5_drift_20_st01_0 (k := 30) rfl
theorem dX5_drift_46 : decode cX5_drift 46 = .ok (.iaload, 1) := dchk_at dall_X5_drift_20_st01_0 (k := 31) rfl
theorem dX5_drift_47 : decode cX5_drift 47 = .ok (.isub, 1) := dchk_at dall_X5_drift_20_st01_0 (k := 32) rfl
theorem dX5_drift_48 : decode cX5_drift 48 = .ok (.aload_n 0, 1) := dchk_at dall_X5_drift_20_st01_0 (k := 33) rfl
theorem dX5_drift_49 : decode cX5_drift 49 = .ok (.getfield 11, 3) := dchk_at dall_X5_drift_20_st01_0 (k := 34) rfl
theorem dX5_drift_52 : decode cX5_drift 52 = .ok (.iload_n 3, 1) := dchk_at dall_X5_drift_20_st01_0 (k := 35) rfl
theorem dX5_drift_53 : decode cX5_drift 53 = .ok (.iconst 4, 1) := dchk_at dall_X5_drift_20_st01_0 (k := 36) rfl
theorem dX5_drift_54 : decode cX5_drift 54 = .ok (.iadd, 1) := dchk_at dall_X5_drift_20_st01_0 (k := 37) rfl
theorem dX5_drift_55 : decode cX5_drift 55 = .ok (.iaload, 1) := dchk_at dall_X5_drift_20_st01_0 (k := 38) rfl
theorem dX5_drift_56 : decode cX5_drift 56 = .ok (.iadd, 1) := dchk_at dall_X5_drift_20_st01_0 (k := 39) rfl
theorem dX5_drift_57 : decode cX5_drift 57 = .ok (.ireturn, 1) := dchk_at dall_X5_drift_20_st01_0 (k := 40) rfl
def dl_X5_balance_20_st01_0 : List (Nat × Instr × Nat) := [(42, .iload 4, 2), (44, .iconst 2, 1), (45, .if_icmp .ge 47, 3), (48, .aload_n 0, 1), (49, .iload_n 2, 1), (50, .iload 4, 2), (52, .invokevirtual 168, 3), (55, .aload_n 0, 1), (56, .iload_n 3, 1), (57, .iload 4, 2), (59, .invokevirtual 72, 3), (62, .isub, 1), (63, .istore 5, 2), (65, .aload_n 0, 1), (66, .iload_n 3, 1), (67, .iconst 4, 1), (68, .iload 4, 2), (70, .iadd, 1), (71, .aload_n 0, 1), (72, .iload_n 3, 1), (73, .iconst 4, 1), (74, .iload 4, 2), (76, .iadd, 1), (77, .invokevirtual 69, 3), (80, .iload 5, 2), (82, .iadd, 1), (83, .invokevirtual 52, 3), (86, .iinc 4 1, 3), (89, .goto (-47), 3), (20, .iload_n 3, 1), (21, .aload_n 0, 1), (22, .invokevirtual 45, 3), (25, .if_icmp .ge 76, 3), (28, .iload_n 1, 1), (29, .iload_n 3, 1), (30, .ishr, 1), (31, .iconst 1, 1), (32, .iand, 1), (33, .ifCond .ne 6, 3), (39, .iconst 0, 1), (40, .istore 4, 2), (92, .iinc 2 1, 3), (95, .iinc 3 1, 3), (98, .goto (-78), 3), (36, .goto 59, 3), (0, .aload_n 0, 1), (1, .getfield 11, 3), (4, .bipush 13, 2), (6, .dup2, 1), (7, .iaload, 1)]
set_option maxRecDepth 100000 in
theorem dall_X5_balance_20_st01_0 : dchk cX5_balance dl_X5_balance_20_st01_0 = true := by decide +kernel
theorem dX5_balance_42 : decode cX5_balance 42 = .ok (.iload 4, 2) := dchk_at dall_X5_balance_20_st01_0 (k := 0) rfl
theorem dX5_balance_44 : decode cX5_balance 44 = .ok (.iconst 2, 1) := dchk_at dall_X5_balance_20_st01_0 (k := 1) rfl
theorem dX5_balance_45 : decode cX5_balance 45 = .ok (.if_icmp .ge 47, 3) := dchk_at dall_X5_balance_20_st01_0 (k := 2) rfl
theorem dX5_balance_48 : decode cX5_balance 48 = .ok (.aload_n 0, 1) := dchk_at dall_X5_balance_20_st01_0 (k := 3) rfl
theorem dX5_balance_49 : decode cX5_balance 49 = .ok (.iload_n 2, 1) := dchk_at dall_X5_balance_20_st01_0 (k := 4) rfl
theorem dX5_balance_50 : decode cX5_balance 50 = .ok (.iload 4, 2) := dchk_at dall_X5_balance_20_st01_0 (k := 5) rfl
theorem dX5_balance_52 : decode cX5_balance 52 = .ok (.invokevirtual 168, 3) := dchk_at dall_X5_balance_20_st01_0 (k := 6) rfl
theorem dX5_balance_55 : decode cX5_balance 55 = .ok (.aload_n 0, 1) := dchk_at dall_X5_balance_20_st01_0 (k := 7) rfl
theorem dX5_balance_56 : decode cX5_balance 56 = .ok (.iload_n 3, 1) := dchk_at dall_X5_balance_20_st01_0 (k := 8) rfl
theorem dX5_balance_57 : decode cX5_balance 57 = .ok (.iload 4, 2) := dchk_at dall_X5_balance_20_st01_0 (k := 9) rfl
theorem dX5_balance_59 : decode cX5_balance 59 = .ok (.invokevirtual 72, 3) := dchk_at dall_X5_balance_20_st01_0 (k := 10) rfl
theorem dX5_balance_62 : decode cX5_balance 62 = .ok (.isub, 1) := dchk_at dall_X5_balance_20_st01_0 (k := 11) rfl
theorem dX5_balance_63 : decode cX5_balance 63 = .ok (.istore 5, 2) := dchk_at dall_X5_balance_20_st01_0 (k := 12) rfl
theorem dX5_balance_65 : decode cX5_balance 65 = .ok (.aload_n 0, 1) := dchk_at dall_X5_balance_20_st01_0 (k := 13) rfl
theorem dX5_balance_66 : decode cX5_balance 66 = .ok (.iload_n 3, 1) := dchk_at dall_X5_balance_20_st01_0 (k := 14) rfl
theorem dX5_balance_67 : decode cX5_balance 67 = .ok (.iconst 4, 1) := dchk_at dall_X5_balance_20_st01_0 (k := 15) rfl
theorem dX5_balance_68 : decode cX5_balance 68 = .ok (.iload 4, 2) := dchk_at dall_X5_balance_20_st01_0 (k := 16) rfl
theorem dX5_balance_70 : decode cX5_balance 70 = .ok (.iadd, 1) := dchk_at dall_X5_balance_20_st01_0 (k := 17) rfl
theorem dX5_balance_71 : decode cX5_balance 71 = .ok (.aload_n 0, 1) := dchk_at dall_X5_balance_20_st01_0 (k := 18) rfl
theorem dX5_balance_72 : decode cX5_balance 72 = .ok (.iload_n 3, 1) := dchk_at dall_X5_balance_20_st01_0 (k := 19) rfl
theorem dX5_balance_73 : decode cX5_balance 73 = .ok (.iconst 4, 1) := dchk_at dall_X5_balance_20_st01_0 (k := 20) rfl
theorem dX5_balance_74 : decode cX5_balance 74 = .ok (.iload 4, 2) := dchk_at dall_X5_balance_20_st01_0 (k := 21) rfl
theorem dX5_balance_76 : decode cX5_balance 76 = .ok (.iadd, 1) := dchk_at dall_X5_balance_20_st01_0 (k := 22) rfl
theorem dX5_balance_77 : decode cX5_balance 77 = .ok (.invokevirtual 69, 3) := dchk_at dall_X5_balance_20_st01_0 (k := 23) rfl
theorem dX5_balance_80 : decode cX5_balance 80 = .ok (.iload 5, 2) := dchk_at dall_X5_balance_20_st01_0 (k := 24) rfl
theorem dX5_balance_82 : decode cX5_balance 82 = .ok (.iadd, 1) := dchk_at dall_X5_balance_20_st01_0 (k := 25) rfl
theorem dX5_balance_83 : decode cX5_balance 83 = .ok (.invokevirtual 52, 3) := dchk_at dall_X5_balance_20_st01_0 (k := 26) rfl
theorem dX5_balance_86 : decode cX5_balance 86 = .ok (.iinc 4 1, 3) := dchk_at dall_X5_balance_20_st01_0 (k := 27) rfl
theorem dX5_balance_89 : decode cX5_balance 89 = .ok (.goto (-47), 3) := dchk_at dall_X5_balance_20_st01_0 (k := 28) rfl
theorem dX5_balance_20 : decode cX5_balance 20 = .ok (.iload_n 3, 1) := dchk_at dall_X5_balance_20_st01_0 (k := 29) rfl
theorem dX5_balance_21 : decode cX5_balance 21 = .ok (.aload_n 0, 1) := dchk_at dall_X5_balance_20_st01_0 (k := 30) rfl
theorem dX5_balance_22 : decode cX5_balance 22 = .ok (.invokevirtual 45, 3) := dchk_at dall_X5_balance_20_st01_0 (k := 31) rfl
theorem dX5_balance_25 : decode cX5_balance 25 = .ok (.if_icmp .ge 76, 3) := dchk_at dall_X5_balance_20_st01_0 (k := 32) rfl
theorem dX5_balance_28 : decode cX5_balance 28 = .ok (.iload_n 1, 1) := dchk_at dall_X5_balance_20_st01_0 (k := 33) rfl
theorem dX5_balance_29 : decode cX5_balance 29 = .ok (.iload_n 3, 1) := dchk_at dall_X5_balance_20_st01_0 (k := 34) rfl
theorem dX5_balance_30 : decode cX5_balance 30 = .ok (.ishr, 1) := dchk_at dall_X5_balance_20_st01_0 (k := 35) rfl
theorem dX5_balance_31 : decode cX5_balance 31 = .ok (.iconst 1, 1) := dchk_at dall_X5_balance_20_st01_0 (k := 36) rfl
theorem dX5_balance_32 : decode cX5_balance 32 = .ok (.iand, 1) := dchk_at dall_X5_balance_20_st01_0 (k := 37) rfl
theorem dX5_balance_33 : decode cX5_balance 33 = .ok (.ifCond .ne 6, 3) := dchk_at dall_X5_balance_20_st01_0 (k := 38) rfl
theorem dX5_balance_39 : decode cX5_balance 39 = .ok (.iconst 0, 1) := dchk_at dall_X5_balance_20_st01_0 (k := 39) rfl
theorem dX5_balance_40 : decode cX5_balance 40 = .ok (.istore 4, 2) := dchk_at dall_X5_balance_20_st01_0 (k := 40) rfl
theorem dX5_balance_92 : decode cX5_balance 92 = .ok (.iinc 2 1, 3) := dchk_at dall_X5_balance_20_st01_0 (k := 41) rfl
theorem dX5_balance_95 : decode cX5_balance 95 = .ok (.iinc 3 1, 3) := dchk_at dall_X5_balance_20_st01_0 (k := 42) rfl
theorem dX5_balance_98 : decode cX5_balance 98 = .ok (.goto (-78), 3) := dchk_at dall_X5_balance_20_st01_0 (k := 43) rfl
theorem dX5_balance_36 : decode cX5_balance 36 = .ok (.goto 59, 3) := dchk_at dall_X5_balance_20_st01_0 (k := 44) rfl
theorem dX5_balance_0 : decode cX5_balance 0 = .ok (.aload_n 0, 1) := dchk_at dall_X5_balance_20_st01_0 (k := 45) rfl
theorem dX5_balance_1 : decode cX5_balance 1 = .ok (.getfield 11, 3) := dchk_at dall_X5_balance_20_st01_0 (k := 46) rfl
theorem dX5_balance_4 : decode cX5_balance 4 = .ok (.bipush 13, 2) := dchk_at dall_X5_balance_20_st01_0 (k := 47) rfl
theorem dX5_balance_6 : decode cX5_balance 6 = .ok (.dup2, 1) := dchk_at dall_X5_balance_20_st01_0 (k := 48) rfl
theorem dX5_balance_7 : decode cX5_balance 7 = .ok (.iaload, 1) := dchk_at dall_X5_balance_20_st01_0 (k := 49) rfl
def dl_X5_balance_20_st01_1 : List (Nat × Instr × Nat) := [(8, .iconst 1, 1), (9, .iadd, 1), (10, .iastore, 1), (11, .aload_n 0, 1), (12, .iconst 1, 1), (13, .putfield 22, 3), (16, .iconst 0, 1), (17, .istore_n 2, 1), (18, .iconst 0, 1), (19, .istore_n 3, 1), (101, .iconst 1, 1), (102, .iconst 2, 1), (103, .aload_n 0, 1), (104, .getfield 18, 3), (107, .imul, 1), (108, .iadd, 1), (109, .iload_n 2, 1), (110, .iadd, 1), (111, .ireturn, 1)]
set_option maxRecDepth 100000 in
theorem dall_X5_balance_20_st01_1 : dchk cX5_balance dl_X5_balance_20_st01_1 = true := by decide +kernel
theorem dX5_balance_8 : decode cX5_balance 8 = .ok (.iconst 1, 1) := dchk_at dall_X5_balance_20_st01_1 (k := 0) rfl
theorem dX5_balance_9 : decode cX5_balance 9 = .ok (.iadd, 1) := dchk_at dall_X5_balance_20_st01_1 (k := 1) rfl
theorem dX5_balance_10 : decode cX5_balance 10 = .ok (.iastore, 1) := dchk_at dall_X5_balance_20_st01_1 (k := 2) rfl
theorem dX5_balance_11 : decode cX5_balance 11 = .ok (.aload_n 0, 1) := dchk_at dall_X5_balance_20_st01_1 (k := 3) rfl
theorem dX5_balance_12 : decode cX5_balance 12 = .ok (.iconst 1, 1) := dchk_at dall_X5_balance_20_st01_1 (k := 4) rfl
theorem dX5_balance_13 : decode cX5_balance 13 = .ok (.putfield 22, 3) := dchk_at dall_X5_balance_20_st01_1 (k := 5) rfl
theorem dX5_balance_16 : decode cX5_balance 16 = .ok (.iconst 0, 1) := dchk_at dall_X5_balance_20_st01_1 (k := 6) rfl
theorem dX5_balance_17 : decode cX5_balance 17 = .ok (.istore_n 2, 1) := dchk_at dall_X5_balance_20_st01_1 (k := 7) rfl
theorem dX5_balance_18 : decode cX5_balance 18 = .ok (.iconst 0, 1) := dchk_at dall_X5_balance_20_st01_1 (k := 8) rfl
theorem dX5_balance_19 : decode cX5_balance 19 = .ok (.istore_n 3, 1) := dchk_at dall_X5_balance_20_st01_1 (k := 9) rfl
theorem dX5_balance_101 : decode cX5_balance 101 = .ok (.iconst 1, 1) := dchk_at dall_X5_balance_20_st01_1 (k := 10) rfl
theorem dX5_balance_102 : decode cX5_balance 102 = .ok (.iconst 2, 1) := dchk_at dall_X5_balance_20_st01_1 (k := 11) rfl
theorem dX5_balance_103 : decode cX5_balance 103 = .ok (.aload_n 0, 1) := dchk_at dall_X5_balance_20_st01_1 (k := 12) rfl
theorem dX5_balance_104 : decode cX5_balance 104 = .ok (.getfield 18, 3) := dchk_at dall_X5_balance_20_st01_1 (k := 13) rfl
theorem dX5_balance_107 : decode cX5_balance 107 = .ok (.imul, 1) := dchk_at dall_X5_balance_20_st01_1 (k := 14) rfl
theorem dX5_balance_108 : decode cX5_balance 108 = .ok (.iadd, 1) := dchk_at dall_X5_balance_20_st01_1 (k := 15) rfl
theorem dX5_balance_109 : decode cX5_balance 109 = .ok (.iload_n 2, 1) := dchk_at dall_X5_balance_20_st01_1 (k := 16) rfl
theorem dX5_balance_110 : decode cX5_balance 110 = .ok (.iadd, 1) := dchk_at dall_X5_balance_20_st01_1 (k := 17) rfl
theorem dX5_balance_111 : decode cX5_balance 111 = .ok (.ireturn, 1) := dchk_at dall_X5_balance_20_st01_1 (k := 18) rfl
def dl_X5_hearPlaces_20_st01_0 : List (Nat × Instr × Nat) := [(16, .iload_n 1, 1), (17, .aload_n 0, 1), (18, .invokevirtual 45, 3), (21, .if_icmp .ge 77, 3), (24, .aload_n 0, 1), (25, .iload_n 1, 1), (26, .iconst 2, 1), (27, .aload_n 0, 1), (28, .iload_n 1, 1), (29, .iconst 0, 1), (30, .invokevirtual 69, 3), (33, .invokevirtual 52, 3), (36, .aload_n 0, 1), (37, .iload_n 1, 1), (38, .iconst 3, 1), (39, .aload_n 0, 1), (40, .iload_n 1, 1), (41, .iconst 1, 1), (42, .invokevirtual 69, 3), (45, .invokevirtual 52, 3), (48, .aload_n 0, 1), (49, .iload_n 1, 1), (50, .iconst 4, 1), (51, .iconst 0, 1), (52, .invokevirtual 52, 3), (55, .aload_n 0, 1), (56, .iload_n 1, 1), (57, .iconst 5, 1), (58, .iconst 0, 1), (59, .invokevirtual 52, 3), (62, .aload_n 0, 1), (63, .getfield 11, 3), (66, .iconst 4, 1), (67, .dup2, 1), (68, .iaload, 1), (69, .aload_n 0, 1), (70, .iload_n 1, 1), (71, .iconst 0, 1), (72, .invokevirtual 69, 3), (75, .iadd, 1), (76, .iastore, 1), (77, .aload_n 0, 1), (78, .getfield 11, 3), (81, .iconst 5, 1), (82, .dup2, 1), (83, .iaload, 1), (84, .aload_n 0, 1), (85, .iload_n 1, 1), (86, .iconst 1, 1), (87, .invokevirtual 69, 3)]
set_option maxRecDepth 100000 in
theorem dall_X5_hearPlaces_20_st01_0 : dchk cX5_hearPlaces dl_X5_hearPlaces_20_st01_0 = true := by decide +kernel
theorem dX5_hearPlaces_16 : decode cX5_hearPlaces 16 = .ok (.iload_n 1, 1) := dchk_at dall_X5_hearPlaces_20_st01_0 (k := 0) rfl
theorem dX5_hearPlaces_17 : decode cX5_hearPlaces 17 = .ok (.aload_n 0, 1) := dchk_at dall_X5_hearPlaces_20_st01_0 (k := 1) rfl
theorem dX5_hearPlaces_18 : decode cX5_hearPlaces 18 = .ok (.invokevirtual 45, 3) := dchk_at dall_X5_hearPlaces_20_st01_0 (k := 2) rfl
theorem dX5_hearPlaces_21 : decode cX5_hearPlaces 21 = .ok (.if_icmp .ge 77, 3) := dchk_at dall_X5_hearPlaces_20_st01_0 (k := 3) rfl
theorem dX5_hearPlaces_24 : decode cX5_hearPlaces 24 = .ok (.aload_n 0, 1) := dchk_at dall_X5_hearPlaces_20_st01_0 (k := 4) rfl
theorem dX5_hearPlaces_25 : decode cX5_hearPlaces 25 = .ok (.iload_n 1, 1) := dchk_at dall_X5_hearPlaces_20_st01_0 (k := 5) rfl
theorem dX5_hearPlaces_26 : decode cX5_hearPlaces 26 = .ok (.iconst 2, 1) := dchk_at dall_X5_hearPlaces_20_st01_0 (k := 6) rfl
theorem dX5_hearPlaces_27 : decode cX5_hearPlaces 27 = .ok (.aload_n 0, 1) := dchk_at dall_X5_hearPlaces_20_st01_0 (k := 7) rfl
theorem dX5_hearPlaces_28 : decode cX5_hearPlaces 28 = .ok (.iload_n 1, 1) := dchk_at dall_X5_hearPlaces_20_st01_0 (k := 8) rfl
theorem dX5_hearPlaces_29 : decode cX5_hearPlaces 29 = .ok (.iconst 0, 1) := dchk_at dall_X5_hearPlaces_20_st01_0 (k := 9) rfl
theorem dX5_hearPlaces_30 : decode cX5_hearPlaces 30 = .ok (.invokevirtual 69, 3) := dchk_at dall_X5_hearPlaces_20_st01_0 (k := 10) rfl
theorem dX5_hearPlaces_33 : decode cX5_hearPlaces 33 = .ok (.invokevirtual 52, 3) := dchk_at dall_X5_hearPlaces_20_st01_0 (k := 11) rfl
theorem dX5_hearPlaces_36 : decode cX5_hearPlaces 36 = .ok (.aload_n 0, 1) := dchk_at dall_X5_hearPlaces_20_st01_0 (k := 12) rfl
theorem dX5_hearPlaces_37 : decode cX5_hearPlaces 37 = .ok (.iload_n 1, 1) := dchk_at dall_X5_hearPlaces_20_st01_0 (k := 13) rfl
theorem dX5_hearPlaces_38 : decode cX5_hearPlaces 38 = .ok (.iconst 3, 1) := dchk_at dall_X5_hearPlaces_20_st01_0 (k := 14) rfl
theorem dX5_hearPlaces_39 : decode cX5_hearPlaces 39 = .ok (.aload_n 0, 1) := dchk_at dall_X5_hearPlaces_20_st01_0 (k := 15) rfl
theorem dX5_hearPlaces_40 : decode cX5_hearPlaces 40 = .ok (.iload_n 1, 1) := dchk_at dall_X5_hearPlaces_20_st01_0 (k := 16) rfl
theorem dX5_hearPlaces_41 : decode cX5_hearPlaces 41 = .ok (.iconst 1, 1) := dchk_at dall_X5_hearPlaces_20_st01_0 (k := 17) rfl
theorem dX5_hearPlaces_42 : decode cX5_hearPlaces 42 = .ok (.invokevirtual 69, 3) := dchk_at dall_X5_hearPlaces_20_st01_0 (k := 18) rfl
theorem dX5_hearPlaces_45 : decode cX5_hearPlaces 45 = .ok (.invokevirtual 52, 3) := dchk_at dall_X5_hearPlaces_20_st01_0 (k := 19) rfl
theorem dX5_hearPlaces_48 : decode cX5_hearPlaces 48 = .ok (.aload_n 0, 1) := dchk_at dall_X5_hearPlaces_20_st01_0 (k := 20) rfl
theorem dX5_hearPlaces_49 : decode cX5_hearPlaces 49 = .ok (.iload_n 1, 1) := dchk_at dall_X5_hearPlaces_20_st01_0 (k := 21) rfl
theorem dX5_hearPlaces_50 : decode cX5_hearPlaces 50 = .ok (.iconst 4, 1) := dchk_at dall_X5_hearPlaces_20_st01_0 (k := 22) rfl
theorem dX5_hearPlaces_51 : decode cX5_hearPlaces 51 = .ok (.iconst 0, 1) := dchk_at dall_X5_hearPlaces_20_st01_0 (k := 23) rfl
theorem dX5_hearPlaces_52 : decode cX5_hearPlaces 52 = .ok (.invokevirtual 52, 3) := dchk_at dall_X5_hearPlaces_20_st01_0 (k := 24) rfl
theorem dX5_hearPlaces_55 : decode cX5_hearPlaces 55 = .ok (.aload_n 0, 1) := dchk_at dall_X5_hearPlaces_20_st01_0 (k := 25) rfl
theorem dX5_hearPlaces_56 : decode cX5_hearPlaces 56 = .ok (.iload_n 1, 1) := dchk_at dall_X5_hearPlaces_20_st01_0 (k := 26) rfl
theorem dX5_hearPlaces_57 : decode cX5_hearPlaces 57 = .ok (.iconst 5, 1) := dchk_at dall_X5_hearPlaces_20_st01_0 (k := 27) rfl
theorem dX5_hearPlaces_58 : decode cX5_hearPlaces 58 = .ok (.iconst 0, 1) := dchk_at dall_X5_hearPlaces_20_st01_0 (k := 28) rfl
theorem dX5_hearPlaces_59 : decode cX5_hearPlaces 59 = .ok (.invokevirtual 52, 3) := dchk_at dall_X5_hearPlaces_20_st01_0 (k := 29) rfl
theorem dX5_hearPlaces_62 : decode cX5_hearPlaces 62 = .ok (.aload_n 0, 1) := dchk_at dall_X5_hearPlaces_20_st01_0 (k := 30) rfl
theorem dX5_hearPlaces_63 : decode cX5_hearPlaces 63 = .ok (.getfield 11, 3) := dchk_at dall_X5_hearPlaces_20_st01_0 (k := 31) rfl
theorem dX5_hearPlaces_66 : decode cX5_hearPlaces 66 = .ok (.iconst 4, 1) := dchk_at dall_X5_hearPlaces_20_st01_0 (k := 32) rfl
theorem dX5_hearPlaces_67 : decode cX5_hearPlaces 67 = .ok (.dup2, 1) := dchk_at dall_X5_hearPlaces_20_st01_0 (k := 33) rfl
theorem dX5_hearPlaces_68 : decode cX5_hearPlaces 68 = .ok (.iaload, 1) := dchk_at dall_X5_hearPlaces_20_st01_0 (k := 34) rfl
theorem dX5_hearPlaces_69 : decode cX5_hearPlaces 69 = .ok (.aload_n 0, 1) := dchk_at dall_X5_hearPlaces_20_st01_0 (k := 35) rfl
theorem dX5_hearPlaces_70 : decode cX5_hearPlaces 70 = .ok (.iload_n 1, 1) := dchk_at dall_X5_hearPlaces_20_st01_0 (k := 36) rfl
theorem dX5_hearPlaces_71 : decode cX5_hearPlaces 71 = .ok (.iconst 0, 1) := dchk_at dall_X5_hearPlaces_20_st01_0 (k := 37) rfl
theorem dX5_hearPlaces_72 : decode cX5_hearPlaces 72 = .ok (.invokevirtual 69, 3) := dchk_at dall_X5_hearPlaces_20_st01_0 (k := 38) rfl
theorem dX5_hearPlaces_75 : decode cX5_hearPlaces 75 = .ok (.iadd, 1) := dchk_at dall_X5_hearPlaces_20_st01_0 (k := 39) rfl
theorem dX5_hearPlaces_76 : decode cX5_hearPlaces 76 = .ok (.iastore, 1) := dchk_at dall_X5_hearPlaces_20_st01_0 (k := 40) rfl
theorem dX5_hearPlaces_77 : decode cX5_hearPlaces 77 = .ok (.aload_n 0, 1) := dchk_at dall_X5_hearPlaces_20_st01_0 (k := 41) rfl
theorem dX5_hearPlaces_78 : decode cX5_hearPlaces 78 = .ok (.getfield 11, 3) := dchk_at dall_X5_hearPlaces_20_st01_0 (k := 42) rfl
theorem dX5_hearPlaces_81 : decode cX5_hearPlaces 81 = .ok (.iconst 5, 1) := dchk_at dall_X5_hearPlaces_20_st01_0 (k := 43) rfl
theorem dX5_hearPlaces_82 : decode cX5_hearPlaces 82 = .ok (.dup2, 1) := dchk_at dall_X5_hearPlaces_20_st01_0 (k := 44) rfl
theorem dX5_hearPlaces_83 : decode cX5_hearPlaces 83 = .ok (.iaload, 1) := dchk_at dall_X5_hearPlaces_20_st01_0 (k := 45) rfl
theorem dX5_hearPlaces_84 : decode cX5_hearPlaces 84 = .ok (.aload_n 0, 1) := dchk_at dall_X5_hearPlaces_20_st01_0 (k := 46) rfl
theorem dX5_hearPlaces_85 : decode cX5_hearPlaces 85 = .ok (.iload_n 1, 1) := dchk_at dall_X5_hearPlaces_20_st01_0 (k := 47) rfl
theorem dX5_hearPlaces_86 : decode cX5_hearPlaces 86 = .ok (.iconst 1, 1) := dchk_at dall_X5_hearPlaces_20_st01_0 (k := 48) rfl
theorem dX5_hearPlaces_87 : decode cX5_hearPlaces 87 = .ok (.invokevirtual 69, 3) := dchk_at dall_X5_hearPlaces_20_st01_0 (k := 49) rfl
def dl_X5_hearPlaces_20_st01_1 : List (Nat × Instr × Nat) := [(90, .iadd, 1), (91, .iastore, 1), (92, .iinc 1 1, 3), (95, .goto (-79), 3), (0, .aload_n 0, 1), (1, .getfield 11, 3), (4, .iconst 4, 1), (5, .iconst 0, 1), (6, .iastore, 1), (7, .aload_n 0, 1), (8, .getfield 11, 3), (11, .iconst 5, 1), (12, .iconst 0, 1), (13, .iastore, 1), (14, .iconst 0, 1), (15, .istore_n 1, 1), (98, .return_, 1)]
set_option maxRecDepth 100000 in
theorem dall_X5_hearPlaces_20_st01_1 : dchk cX5_hearPlaces dl_X5_hearPlaces_20_st01_1 = true := by decide +kernel
theorem dX5_hearPlaces_90 : decode cX5_hearPlaces 90 = .ok (.iadd, 1) := dchk_at dall_X5_hearPlaces_20_st01_1 (k := 0) rfl
theorem dX5_hearPlaces_91 : decode cX5_hearPlaces 91 = .ok (.iastore, 1) := dchk_at dall_X5_hearPlaces_20_st01_1 (k := 1) rfl
theorem dX5_hearPlaces_92 : decode cX5_hearPlaces 92 = .ok (.iinc 1 1, 3) := dchk_at dall_X5_hearPlaces_20_st01_1 (k := 2) rfl
theorem dX5_hearPlaces_95 : decode cX5_hearPlaces 95 = .ok (.goto (-79), 3) := dchk_at dall_X5_hearPlaces_20_st01_1 (k := 3) rfl
theorem dX5_hearPlaces_0 : decode cX5_hearPlaces 0 = .ok (.aload_n 0, 1) := dchk_at dall_X5_hearPlaces_20_st01_1 (k := 4) rfl
theorem dX5_hearPlaces_1 : decode cX5_hearPlaces 1 = .ok (.getfield 11, 3) := dchk_at dall_X5_hearPlaces_20_st01_1 (k := 5) rfl
theorem dX5_hearPlaces_4 : decode cX5_hearPlaces 4 = .ok (.iconst 4, 1) := dchk_at dall_X5_hearPlaces_20_st01_1 (k := 6) rfl
theorem dX5_hearPlaces_5 : decode cX5_hearPlaces 5 = .ok (.iconst 0, 1) := dchk_at dall_X5_hearPlaces_20_st01_1 (k := 7) rfl
theorem dX5_hearPlaces_6 : decode cX5_hearPlaces 6 = .ok (.iastore, 1) := dchk_at dall_X5_hearPlaces_20_st01_1 (k := 8) rfl
theorem dX5_hearPlaces_7 : decode cX5_hearPlaces 7 = .ok (.aload_n 0, 1) := dchk_at dall_X5_hearPlaces_20_st01_1 (k := 9) rfl
theorem dX5_hearPlaces_8 : decode cX5_hearPlaces 8 = .ok (.getfield 11, 3) := dchk_at dall_X5_hearPlaces_20_st01_1 (k := 10) rfl
theorem dX5_hearPlaces_11 : decode cX5_hearPlaces 11 = .ok (.iconst 5, 1) := dchk_at dall_X5_hearPlaces_20_st01_1 (k := 11) rfl
theorem dX5_hearPlaces_12 : decode cX5_hearPlaces 12 = .ok (.iconst 0, 1) := dchk_at dall_X5_hearPlaces_20_st01_1 (k := 12) rfl
theorem dX5_hearPlaces_13 : decode cX5_hearPlaces 13 = .ok (.iastore, 1) := dchk_at dall_X5_hearPlaces_20_st01_1 (k := 13) rfl
theorem dX5_hearPlaces_14 : decode cX5_hearPlaces 14 = .ok (.iconst 0, 1) := dchk_at dall_X5_hearPlaces_20_st01_1 (k := 14) rfl
theorem dX5_hearPlaces_15 : decode cX5_hearPlaces 15 = .ok (.istore_n 1, 1) := dchk_at dall_X5_hearPlaces_20_st01_1 (k := 15) rfl
theorem dX5_hearPlaces_98 : decode cX5_hearPlaces 98 = .ok (.return_, 1) := dchk_at dall_X5_hearPlaces_20_st01_1 (k := 16) rfl
def B_X5_aloneToGoal_50 (c_row : Nat → Int32) (x3 : Int32) (x4 : Int32) (x5 : Int32) (x6 : Int32) (x7 : Int32) (x8 : Int32) (x9 : Int32) (x10 : Int32) : Option ((Int32 × Int32 × Int32 × Int32 × Int32 × Int32 × Int32 × Int32) ⊕ (Int32 × Int32 × Int32)) :=
  if (9999 : Int32) ≤ x10 then some (.inr (x3, x7, x8)) else if x9 ≤ (0 : Int32) then some (.inr (x3, x7, x8)) else bd1 (F_X5_stepFrom (x4 + ((((c_row 3) - x6) * x9) - x5)) c_row) (fun r_9 => some (.inl (x4 + ((((c_row 3) - x6) * x9) - x5), x4 + ((((c_row 3) - x6) * x9) - x5), (0 : Int32), (0 : Int32), x7 + ((((c_row 3) - x6) * x9) - x5), x8 + (((c_row 3) - x6) + ((2 : Int32) * (c_row 3))), r_9, x10 + (1 : Int32))))
def J_X5_aloneToGoal_136 (p2 : Int32) (c_row : Nat → Int32) (x3 : Int32) (x7 : Int32) (x8 : Int32) : Option (Int32) :=
  if p2 = (0 : Int32) then some (x7 + (maxF ((c_row 2) - x3) (0 : Int32))) else some (x8 + (maxF ((c_row 2) - x3) (0 : Int32)))
def F_X5_aloneToGoal (K : Nat) (p1 : Int32) (p2 : Int32) (c_row : Nat → Int32) : Option (Int32) :=
  bd1 (F_X5_total K (6 : Int32) c_row) (fun r_1 => bd1 (F_X5_of p1 (7 : Int32) c_row) (fun r_3 => bd1 (F_X5_stepFrom (c_row 8) c_row) (fun r_5 => bd3 (lpF (fun u9 : Int32 × Int32 × Int32 × Int32 × Int32 × Int32 × Int32 × Int32 => B_X5_aloneToGoal_50 c_row u9.1 u9.2.1 u9.2.2.1 u9.2.2.2.1 u9.2.2.2.2.1 u9.2.2.2.2.2.1 u9.2.2.2.2.2.2.1 u9.2.2.2.2.2.2.2) K (c_row 8, r_1, r_3, c_row 9, (0 : Int32), (0 : Int32), r_5, (0 : Int32))) (fun x3_11 x7_12 x8_13 => J_X5_aloneToGoal_136 p2 c_row x3_11 x7_12 x8_13))))
abbrev w_X5_aloneToGoal (E : EE) (a_ a_row a_partners a_share a_leftOver : Nat) (c_askedCount : Int32) (c_outcome : Int32) (c_row : Nat → Int32) : va_W := [(a_, .inr (6, [.ref a_row, .ref a_partners, .int c_askedCount, .int c_outcome, .ref a_share, .ref a_leftOver])), (a_row, .inl (E.2.1, 81, .inl c_row))]
def v_f_X5_aloneToGoal : List Cond := List.cons (.code yX5_aloneToGoal cX5_aloneToGoal 13 (some .int)) (HAppend.hAppend (α := List Cond) (β := List Cond) (γ := List Cond) [.fieldLink RX5 11 "HushWatch$State" "row" "[I", .methodLink RX5 191 Lib.Math.max.name, .static Lib.Math.max.name, .initialized "java/lang/Math", .code Lib.Math.max.name Lib.Math.max.code 2 (some .int), .methodLink RX5 188 yX5_total, .instanceMethod yX5_total, .selects RX5 yX5_total yX5_total, .initialized RX5, .methodLink RX5 69 yX5_of, .instanceMethod yX5_of, .selects RX5 yX5_of yX5_of, .methodLink RX5 182 yX5_stepFrom, .instanceMethod yX5_stepFrom, .selects RX5 yX5_stepFrom yX5_stepFrom] (HAppend.hAppend (α := List Cond) (β := List Cond) (γ := List Cond) wsX50 (HAppend.hAppend (α := List Cond) (β := List Cond) (γ := List Cond) v_f_X5_total (HAppend.hAppend (α := List Cond) (β := List Cond) (γ := List Cond) v_f_X5_of (HAppend.hAppend (α := List Cond) (β := List Cond) (γ := List Cond) v_f_X5_stepFrom [])))))
theorem gw_f_X5_aloneToGoal : v_f_X5_aloneToGoal.all goodWord = true := by decide +kernel
theorem i_f_X5_aloneToGoal_X5 : ∀ w ∈ wsX50, w ∈ v_f_X5_aloneToGoal := fun _ h => List.mem_cons_of_mem _ (List.mem_append_right _ (List.mem_append_left _ h))
theorem g_f_X5_aloneToGoal_f_X5_total_188 : GoodIn v_f_X5_aloneToGoal (wsV RX5 188 RX5 yX5_total v_f_X5_total) := goodIn_app (goodIn_of _ (by decide +kernel)) (goodIn_sub (fun _ h => List.mem_cons_of_mem _ (List.mem_append_right _ (List.mem_append_right _ (List.mem_append_left _ h)))) gw_f_X5_total)
theorem g_f_X5_aloneToGoal_f_X5_of_69 : GoodIn v_f_X5_aloneToGoal (wsV RX5 69 RX5 yX5_of v_f_X5_of) := goodIn_app (goodIn_of _ (by decide +kernel)) (goodIn_sub (fun _ h => List.mem_cons_of_mem _ (List.mem_append_right _ (List.mem_append_right _ (List.mem_append_right _ (List.mem_append_left _ h))))) gw_f_X5_of)
theorem g_f_X5_aloneToGoal_f_X5_stepFrom_182 : GoodIn v_f_X5_aloneToGoal (wsV RX5 182 RX5 yX5_stepFrom v_f_X5_stepFrom) := goodIn_app (goodIn_of _ (by decide +kernel)) (goodIn_sub (fun _ h => List.mem_cons_of_mem _ (List.mem_append_right _ (List.mem_append_right _ (List.mem_append_right _ (List.mem_append_right _ (List.mem_append_left _ h)))))) gw_f_X5_stepFrom)
theorem hd_X5_aloneToGoal : yX5_aloneToGoal.cls = RX5 ∧ yX5_aloneToGoal.cls ≠ "java/lang/invoke/MethodHandle" ∧ yX5_aloneToGoal.cls ≠ "java/lang/invoke/VarHandle" ∧ (parseMethodDescriptor yX5_aloneToGoal.desc).map (fun d => d.parameters.length) = some 2 := by decide +kernel
set_option maxHeartbeats 4000000 in
set_option maxRecDepth 100000 in
theorem wb_X5_aloneToGoal_50 {p : Program} (l : Launch) {e : Env} {s : State} {m : MethodId} {below : List Frame} {meth : Method} {c : Code} {Q : State → Prop} (E : EE) (K : Nat) {a_ a_row a_partners a_share a_leftOver : Nat} {p1 : Int32} {p2 : Int32} {c_askedCount : Int32} {c_outcome : Int32} {c_row : Nat → Int32} {x3 : Int32} {x4 : Int32} {x5 : Int32} {x6 : Int32} {x7 : Int32} {x8 : Int32} {x9 : Int32} {x10 : Int32} (hx : p.tables.exec = Jvm.exec) (hb : c.code = cX5_aloneToGoal) (hml : c.maxLocals = 13) (hown : s.vm.findClass RX5 = some m.cls) (hts : ∀ w ∈ v_f_X5_aloneToGoal, w.before #[Value.ref a_, Value.int p1, Value.int p2] s = true) (hK : va_K E.1 vwCl (TY E) s) (hN : NX s) {xx : (Int32 × Int32 × Int32 × Int32 × Int32 × Int32 × Int32 × Int32) ⊕ (Int32 × Int32 × Int32)} (hC : ∀ (x3 : Int32), ∀ (x4 : Int32), ∀ (x5 : Int32), ∀ (x6 : Int32), ∀ (x7 : Int32), ∀ (x8 : Int32), ∀ (x9 : Int32), ∀ (x10 : Int32), xx = .inl (x3, x4, x5, x6, x7, x8, x9, x10) → ∀ (ls : Array Slot), lv_has ls 13 [(0, .ref a_), (2, .int p2), (3, .int x3), (4, .int x4), (5, .int x5), (6, .int x6), (7, .int x7), (8, .int x8), (9, .int x9), (10, .int x10)] → W p l e ({ frames := 2, cells := 0, slots := 0, locals := 45 } : Room) s m #[Value.ref a_, Value.int p1, Value.int p2] below meth c s.heap [] 0 0 Q (F0 m 50 ls [])) (hE : ∀ (x3 : Int32), ∀ (x7 : Int32), ∀ (x8 : Int32), xx = .inr (x3, x7, x8) → ((∀ (ls : Array Slot), lv_has ls 13 [(0, .ref a_), (2, .int p2), (3, .int x3), (7, .int x7), (8, .int x8)] → W p l e ({ frames := 2, cells := 0, slots := 0, locals := 45 } : Room) s m #[Value.ref a_, Value.int p1, Value.int p2] below meth c s.heap [] 0 0 Q (F0 m 136 ls [])))) (hF : B_X5_aloneToGoal_50 c_row x3 x4 x5 x6 x7 x8 x9 x10 = some xx) (hP : va_P E.1 vwCl (w_X5_aloneToGoal E a_ a_row a_partners a_share a_leftOver c_askedCount c_outcome c_row) s.heap) : ∀ (ls : Array Slot), lv_has ls 13 [(0, .ref a_), (2, .int p2), (3, .int x3), (4, .int x4), (5, .int x5), (6, .int x6), (7, .int x7), (8, .int x8), (9, .int x9), (10, .int x10)] → W p l e ({ frames := 2, cells := 0, slots := 0, locals := 45 } : Room) s m #[Value.ref a_, Value.int p1, Value.int p2] below meth c s.heap [] 0 0 Q (F0 m 50 ls []) := by
  unfold B_X5_aloneToGoal_50 at hF
  replace hP : va_P E.1 vwCl [(a_, .inr (6, [.ref a_row, .ref a_partners, .int c_askedCount, .int c_outcome, .ref a_share, .ref a_leftOver])), (a_row, .inl (E.2.1, 81, .inl c_row))] s.heap := hP
  intro ls hl
  refine lv_iload hx hb dX5_aloneToGoal_50 (lv_at hl 9 rfl) ?_
  refine lv_sipush (v := 9999) hx hb dX5_aloneToGoal_52 (by decide) ?_
  refine lv_icmp_ge (tgt := 136) hx hb dX5_aloneToGoal_55 (by decide) (fun c_7 => ?_) (fun c_7 => ?_)
  ·
    replace hF := ip c_7 hF
    cases hF
    exact hE x3 x7 x8 rfl ls (lv_sub hl [0, 1, 2, 6, 7] rfl)
  ·
    replace hF := inn c_7 hF
    refine lv_iload hx hb dX5_aloneToGoal_58 (lv_at hl 8 rfl) ?_
    refine lv_if_le (tgt := 136) hx hb dX5_aloneToGoal_60 (by decide) (fun c_8 => ?_) (fun c_8 => ?_)
    ·
      replace hF := ip c_8 hF
      cases hF
      exact hE x3 x7 x8 rfl ls (lv_sub hl [0, 1, 2, 6, 7] rfl)
    ·
      replace hF := inn c_8 hF
      refine lv_aload_n hx hb dX5_aloneToGoal_63 rfl (lv_at hl 0 rfl) ?_
      refine gt_X5_0 (v := .ref a_row) hx hb hts i_f_X5_aloneToGoal_X5 hown hK hP 0 rfl (hts (.fieldLink RX5 11 "HushWatch$State" "row" "[I") (List.mem_of_getElem? (i := 1) rfl)) rfl dX5_aloneToGoal_64 ?_
      refine lv_iconst (v := 3) hx hb dX5_aloneToGoal_67 (by decide) ?_
      refine va_iald hx hb hK hP 1 0 rfl rfl (vin rfl) dX5_aloneToGoal_68 ?_
      refine W.eq (g2 := F0 m 69 ls [.int (c_row 3)]) rfl ?_
      refine lv_iload hx hb dX5_aloneToGoal_69 (lv_at hl 5 rfl) ?_
      refine lv_isub hx hb dX5_aloneToGoal_71 ?_
      refine lv_istore (lv' := [(11, .int ((c_row 3) - x6)), (0, .ref a_), (2, .int p2), (3, .int x3), (4, .int x4), (5, .int x5), (6, .int x6), (7, .int x7), (8, .int x8), (9, .int x9), (10, .int x10)]) hx hb dX5_aloneToGoal_72 hl (by decide) rfl (fun ls hl => ?_)
      refine lv_iload hx hb dX5_aloneToGoal_74 (lv_at hl 0 rfl) ?_
      refine lv_iload hx hb dX5_aloneToGoal_76 (lv_at hl 9 rfl) ?_
      refine lv_imul hx hb dX5_aloneToGoal_78 ?_
      refine lv_iload hx hb dX5_aloneToGoal_79 (lv_at hl 5 rfl) ?_
      refine lv_isub hx hb dX5_aloneToGoal_81 ?_
      refine lv_istore (lv' := [(12, .int ((((c_row 3) - x6) * x9) - x5)), (11, .int ((c_row 3) - x6)), (0, .ref a_), (2, .int p2), (3, .int x3), (4, .int x4), (5, .int x5), (6, .int x6), (7, .int x7), (8, .int x8), (9, .int x9), (10, .int x10)]) hx hb dX5_aloneToGoal_82 hl (by decide) rfl (fun ls hl => ?_)
      refine lv_iload hx hb dX5_aloneToGoal_84 (lv_at hl 8 rfl) ?_
      refine lv_iload hx hb dX5_aloneToGoal_86 (lv_at hl 0 rfl) ?_
      refine lv_iadd hx hb dX5_aloneToGoal_88 ?_
      refine lv_istore (lv' := [(7, .int (x7 + ((((c_row 3) - x6) * x9) - x5))), (12, .int ((((c_row 3) - x6) * x9) - x5)), (11, .int ((c_row 3) - x6)), (0, .ref a_), (2, .int p2), (3, .int x3), (4, .int x4), (5, .int x5), (6, .int x6), (8, .int x8), (9, .int x9), (10, .int x10)]) hx hb dX5_aloneToGoal_89 hl (by decide) rfl (fun ls hl => ?_)
      refine lv_iload hx hb dX5_aloneToGoal_91 (lv_at hl 6 rfl) ?_
      refine lv_iload hx hb dX5_aloneToGoal_93 (lv_at hl 1 rfl) ?_
      refine lv_iadd hx hb dX5_aloneToGoal_95 ?_
      refine lv_istore (lv' := [(4, .int (x4 + ((((c_row 3) - x6) * x9) - x5))), (7, .int (x7 + ((((c_row 3) - x6) * x9) - x5))), (12, .int ((((c_row 3) - x6) * x9) - x5)), (11, .int ((c_row 3) - x6)), (0, .ref a_), (2, .int p2), (3, .int x3), (5, .int x5), (6, .int x6), (8, .int x8), (9, .int x9), (10, .int x10)]) hx hb dX5_aloneToGoal_96 hl (by decide) rfl (fun ls hl => ?_)
      refine lv_iload hx hb dX5_aloneToGoal_98 (lv_at hl 9 rfl) ?_
      refine lv_iload hx hb dX5_aloneToGoal_100 (lv_at hl 3 rfl) ?_
      refine lv_iconst (v := 2) hx hb dX5_aloneToGoal_102 (by decide) ?_
      refine lv_aload_n hx hb dX5_aloneToGoal_103 rfl (lv_at hl 4 rfl) ?_
      refine gt_X5_0 (v := .ref a_row) hx hb hts i_f_X5_aloneToGoal_X5 hown hK hP 0 rfl (hts (.fieldLink RX5 11 "HushWatch$State" "row" "[I") (List.mem_of_getElem? (i := 1) rfl)) rfl dX5_aloneToGoal_104 ?_
      refine lv_iconst (v := 3) hx hb dX5_aloneToGoal_107 (by decide) ?_
      refine va_iald hx hb hK hP 1 0 rfl rfl (vin rfl) dX5_aloneToGoal_108 ?_
      refine W.eq (g2 := F0 m 109 ls [.int (c_row 3), .int (2 : Int32), .int ((c_row 3) - x6), .int x8]) rfl ?_
      refine lv_imul hx hb dX5_aloneToGoal_109 ?_
      refine lv_iadd hx hb dX5_aloneToGoal_110 ?_
      refine lv_iadd hx hb dX5_aloneToGoal_111 ?_
      refine lv_istore (lv' := [(8, .int (x8 + (((c_row 3) - x6) + ((2 : Int32) * (c_row 3))))), (4, .int (x4 + ((((c_row 3) - x6) * x9) - x5))), (7, .int (x7 + ((((c_row 3) - x6) * x9) - x5))), (12, .int ((((c_row 3) - x6) * x9) - x5)), (11, .int ((c_row 3) - x6)), (0, .ref a_), (2, .int p2), (3, .int x3), (5, .int x5), (6, .int x6), (9, .int x9), (10, .int x10)]) hx hb dX5_aloneToGoal_112 hl (by decide) rfl (fun ls hl => ?_)
      refine lv_iload hx hb dX5_aloneToGoal_114 (lv_at hl 1 rfl) ?_
      refine lv_istore_n (lv' := [(3, .int (x4 + ((((c_row 3) - x6) * x9) - x5))), (8, .int (x8 + (((c_row 3) - x6) + ((2 : Int32) * (c_row 3))))), (4, .int (x4 + ((((c_row 3) - x6) * x9) - x5))), (7, .int (x7 + ((((c_row 3) - x6) * x9) - x5))), (12, .int ((((c_row 3) - x6) * x9) - x5)), (11, .int ((c_row 3) - x6)), (0, .ref a_), (2, .int p2), (5, .int x5), (6, .int x6), (9, .int x9), (10, .int x10)]) hx hb dX5_aloneToGoal_116 rfl hl (by decide) rfl (fun ls hl => ?_)
      refine lv_iconst (v := 0) hx hb dX5_aloneToGoal_117 (by decide) ?_
      refine lv_istore (lv' := [(5, .int (0 : Int32)), (3, .int (x4 + ((((c_row 3) - x6) * x9) - x5))), (8, .int (x8 + (((c_row 3) - x6) + ((2 : Int32) * (c_row 3))))), (4, .int (x4 + ((((c_row 3) - x6) * x9) - x5))), (7, .int (x7 + ((((c_row 3) - x6) * x9) - x5))), (12, .int ((((c_row 3) - x6) * x9) - x5)), (11, .int ((c_row 3) - x6)), (0, .ref a_), (2, .int p2), (6, .int x6), (9, .int x9), (10, .int x10)]) hx hb dX5_aloneToGoal_118 hl (by decide) rfl (fun ls hl => ?_)
      refine lv_iconst (v := 0) hx hb dX5_aloneToGoal_120 (by decide) ?_
      refine lv_istore (lv' := [(6, .int (0 : Int32)), (5, .int (0 : Int32)), (3, .int (x4 + ((((c_row 3) - x6) * x9) - x5))), (8, .int (x8 + (((c_row 3) - x6) + ((2 : Int32) * (c_row 3))))), (4, .int (x4 + ((((c_row 3) - x6) * x9) - x5))), (7, .int (x7 + ((((c_row 3) - x6) * x9) - x5))), (12, .int ((((c_row 3) - x6) * x9) - x5)), (11, .int ((c_row 3) - x6)), (0, .ref a_), (2, .int p2), (9, .int x9), (10, .int x10)]) hx hb dX5_aloneToGoal_121 hl (by decide) rfl (fun ls hl => ?_)
      refine lv_aload_n hx hb dX5_aloneToGoal_123 rfl (lv_at hl 8 rfl) ?_
      refine lv_iload_n hx hb dX5_aloneToGoal_124 rfl (lv_at hl 2 rfl) ?_
      replace hF := bd1_s hF
      obtain ⟨r_9, hc_10, hF⟩ := hF
      have hPc : va_P E.1 vwCl (w_X5_stepFrom E a_ a_row a_partners a_share a_leftOver c_askedCount c_outcome c_row) s.heap := hP.sub (ws' := [(a_, .inr (6, [.ref a_row, .ref a_partners, .int c_askedCount, .int c_outcome, .ref a_share, .ref a_leftOver])), (a_row, .inl (E.2.1, 81, .inl c_row))]) [0, 1] rfl
      have hrc := va_recv hK hPc (ci := 6) (q0 := 0) rfl rfl
      refine pE_i (va_runV (As := [.int (x4 + ((((c_row 3) - x6) * x9) - x5))]) (rest := [])  ⟨hx, hb, hml, hown, hts⟩ (f_X5_stepFrom l E (a_ := a_) (a_row := a_row) (a_partners := a_partners) (a_share := a_share) (a_leftOver := a_leftOver) (p1 := x4 + ((((c_row 3) - x6) * x9) - x5)) (c_askedCount := c_askedCount) (c_outcome := c_outcome) (c_row := c_row) hc_10) (cwV 1 hts g_f_X5_aloneToGoal_f_X5_stepFrom_182 rfl rfl rfl hd_X5_stepFrom ⟨Nat.le_of_ble_eq_true rfl, Nat.le_of_ble_eq_true rfl⟩) ⟨pP.blind, hrc, (pP.pre ⟨hK, hN⟩ hPc)⟩ rfl rfl hl.1 rfl (lv_room (Nat.le_of_ble_eq_true rfl)) dX5_aloneToGoal_125 ⟨Nat.le_of_ble_eq_true rfl, Nat.le_of_ble_eq_true rfl⟩) ?_
      refine lv_istore (lv' := [(9, .int r_9), (6, .int (0 : Int32)), (5, .int (0 : Int32)), (3, .int (x4 + ((((c_row 3) - x6) * x9) - x5))), (8, .int (x8 + (((c_row 3) - x6) + ((2 : Int32) * (c_row 3))))), (4, .int (x4 + ((((c_row 3) - x6) * x9) - x5))), (7, .int (x7 + ((((c_row 3) - x6) * x9) - x5))), (12, .int ((((c_row 3) - x6) * x9) - x5)), (11, .int ((c_row 3) - x6)), (0, .ref a_), (2, .int p2), (10, .int x10)]) hx hb dX5_aloneToGoal_128 hl (by decide) rfl (fun ls hl => ?_)
      refine lv_iinc (v := x10 + (1 : Int32)) (lv' := [(10, .int (x10 + (1 : Int32))), (9, .int r_9), (6, .int (0 : Int32)), (5, .int (0 : Int32)), (3, .int (x4 + ((((c_row 3) - x6) * x9) - x5))), (8, .int (x8 + (((c_row 3) - x6) + ((2 : Int32) * (c_row 3))))), (4, .int (x4 + ((((c_row 3) - x6) * x9) - x5))), (7, .int (x7 + ((((c_row 3) - x6) * x9) - x5))), (12, .int ((((c_row 3) - x6) * x9) - x5)), (11, .int ((c_row 3) - x6)), (0, .ref a_), (2, .int p2)]) hx hb dX5_aloneToGoal_130 hl (k := 11) rfl (rfl) (by decide) rfl (fun ls hl => ?_)
      refine lv_goto (tgt := 50) hx hb dX5_aloneToGoal_133 (by decide) ?_
      cases hF
      exact hC (x4 + ((((c_row 3) - x6) * x9) - x5)) (x4 + ((((c_row 3) - x6) * x9) - x5)) (0 : Int32) (0 : Int32) (x7 + ((((c_row 3) - x6) * x9) - x5)) (x8 + (((c_row 3) - x6) + ((2 : Int32) * (c_row 3)))) r_9 (x10 + (1 : Int32)) rfl ls (lv_sub hl [10, 11, 4, 6, 3, 2, 7, 5, 1, 0] rfl)

set_option maxHeartbeats 4000000 in
set_option maxRecDepth 100000 in
theorem lw_X5_aloneToGoal_50 {p : Program} (l : Launch) {e : Env} {s : State} {m : MethodId} {below : List Frame} {meth : Method} {c : Code} {Q : State → Prop} (E : EE) (K : Nat) {a_ a_row a_partners a_share a_leftOver : Nat} {p1 : Int32} {p2 : Int32} {c_askedCount : Int32} {c_outcome : Int32} {c_row : Nat → Int32} (hx : p.tables.exec = Jvm.exec) (hb : c.code = cX5_aloneToGoal) (hml : c.maxLocals = 13) (hown : s.vm.findClass RX5 = some m.cls) (hts : ∀ w ∈ v_f_X5_aloneToGoal, w.before #[Value.ref a_, Value.int p1, Value.int p2] s = true) (hK : va_K E.1 vwCl (TY E) s) (hN : NX s) (hP : va_P E.1 vwCl (w_X5_aloneToGoal E a_ a_row a_partners a_share a_leftOver c_askedCount c_outcome c_row) s.heap) (j9 : Nat) (x3 : Int32) (x4 : Int32) (x5 : Int32) (x6 : Int32) (x7 : Int32) (x8 : Int32) (x9 : Int32) (x10 : Int32) (x3' : Int32) (x7' : Int32) (x8' : Int32) (hL : lpF (fun u9 : Int32 × Int32 × Int32 × Int32 × Int32 × Int32 × Int32 × Int32 => B_X5_aloneToGoal_50 c_row u9.1 u9.2.1 u9.2.2.1 u9.2.2.2.1 u9.2.2.2.2.1 u9.2.2.2.2.2.1 u9.2.2.2.2.2.2.1 u9.2.2.2.2.2.2.2) j9 (x3, x4, x5, x6, x7, x8, x9, x10) = some (x3', x7', x8')) (hX : (∀ (ls : Array Slot), lv_has ls 13 [(0, .ref a_), (2, .int p2), (3, .int x3'), (7, .int x7'), (8, .int x8')] → W p l e ({ frames := 2, cells := 0, slots := 0, locals := 45 } : Room) s m #[Value.ref a_, Value.int p1, Value.int p2] below meth c s.heap [] 0 0 Q (F0 m 136 ls []))) : ∀ (ls : Array Slot), lv_has ls 13 [(0, .ref a_), (2, .int p2), (3, .int x3), (4, .int x4), (5, .int x5), (6, .int x6), (7, .int x7), (8, .int x8), (9, .int x9), (10, .int x10)] → W p l e ({ frames := 2, cells := 0, slots := 0, locals := 45 } : Room) s m #[Value.ref a_, Value.int p1, Value.int p2] below meth c s.heap [] 0 0 Q (F0 m 50 ls []) := by
  exact lp_rule (P := (fun u9 : Int32 × Int32 × Int32 × Int32 × Int32 × Int32 × Int32 × Int32 => ∀ (ls : Array Slot), lv_has ls 13 [(0, .ref a_), (2, .int p2), (3, .int u9.1), (4, .int u9.2.1), (5, .int u9.2.2.1), (6, .int u9.2.2.2.1), (7, .int u9.2.2.2.2.1), (8, .int u9.2.2.2.2.2.1), (9, .int u9.2.2.2.2.2.2.1), (10, .int u9.2.2.2.2.2.2.2)] → W p l e ({ frames := 2, cells := 0, slots := 0, locals := 45 } : Room) s m #[Value.ref a_, Value.int p1, Value.int p2] below meth c s.heap [] 0 0 Q (F0 m 50 ls []))) (R := (fun r9 : Int32 × Int32 × Int32 => (∀ (ls : Array Slot), lv_has ls 13 [(0, .ref a_), (2, .int p2), (3, .int r9.1), (7, .int r9.2.1), (8, .int r9.2.2)] → W p l e ({ frames := 2, cells := 0, slots := 0, locals := 45 } : Room) s m #[Value.ref a_, Value.int p1, Value.int p2] below meth c s.heap [] 0 0 Q (F0 m 136 ls [])))) (fun u9 xx hF hC hE => wb_X5_aloneToGoal_50 l E K (p1 := p1) (p2 := p2) (c_askedCount := c_askedCount) (c_outcome := c_outcome) (c_row := c_row) (x3 := u9.1) (x4 := u9.2.1) (x5 := u9.2.2.1) (x6 := u9.2.2.2.1) (x7 := u9.2.2.2.2.1) (x8 := u9.2.2.2.2.2.1) (x9 := u9.2.2.2.2.2.2.1) (x10 := u9.2.2.2.2.2.2.2) hx hb hml hown hts hK hN (fun x3 x4 x5 x6 x7 x8 x9 x10 q9 => hC _ q9) (fun x3 x7 x8 q9 => hE _ q9) hF hP) j9 (x3, x4, x5, x6, x7, x8, x9, x10) (x3', x7', x8') hL hX

set_option maxHeartbeats 4000000 in
set_option maxRecDepth 100000 in
theorem j_X5_aloneToGoal_136 {p : Program} (l : Launch) {e : Env} {s : State} {m : MethodId} {below : List Frame} {meth : Method} {c : Code} {Q : State → Prop} (E : EE) (K : Nat) {a_ a_row a_partners a_share a_leftOver : Nat} {p1 : Int32} {p2 : Int32} {c_askedCount : Int32} {c_outcome : Int32} {c_row : Nat → Int32} {x3 : Int32} {x7 : Int32} {x8 : Int32} (hx : p.tables.exec = Jvm.exec) (hb : c.code = cX5_aloneToGoal) (hml : c.maxLocals = 13) (hown : s.vm.findClass RX5 = some m.cls) (hts : ∀ w ∈ v_f_X5_aloneToGoal, w.before #[Value.ref a_, Value.int p1, Value.int p2] s = true) (hK : va_K E.1 vwCl (TY E) s) (hN : NX s) {rr : Int32} (hr : meth.sig.returnType = (some .int)) (hlocks : meth.locks = false) (hQ : Q = MQ below (vp_Si (fun q : Int32 => q = rr)) #[Value.ref a_, Value.int p1, Value.int p2] s 0 0 (fun _ => False)) (hF : J_X5_aloneToGoal_136 p2 c_row x3 x7 x8 = some rr) (hP : va_P E.1 vwCl (w_X5_aloneToGoal E a_ a_row a_partners a_share a_leftOver c_askedCount c_outcome c_row) s.heap) : ∀ (ls : Array Slot), lv_has ls 13 [(0, .ref a_), (2, .int p2), (3, .int x3), (7, .int x7), (8, .int x8)] → W p l e ({ frames := 2, cells := 0, slots := 0, locals := 45 } : Room) s m #[Value.ref a_, Value.int p1, Value.int p2] below meth c s.heap [] 0 0 Q (F0 m 136 ls []) := by
  unfold J_X5_aloneToGoal_136 at hF
  replace hP : va_P E.1 vwCl [(a_, .inr (6, [.ref a_row, .ref a_partners, .int c_askedCount, .int c_outcome, .ref a_share, .ref a_leftOver])), (a_row, .inl (E.2.1, 81, .inl c_row))] s.heap := hP
  intro ls hl
  refine lv_aload_n hx hb dX5_aloneToGoal_136 rfl (lv_at hl 0 rfl) ?_
  refine gt_X5_0 (v := .ref a_row) hx hb hts i_f_X5_aloneToGoal_X5 hown hK hP 0 rfl (hts (.fieldLink RX5 11 "HushWatch$State" "row" "[I") (List.mem_of_getElem? (i := 1) rfl)) rfl dX5_aloneToGoal_137 ?_
  refine lv_iconst (v := 2) hx hb dX5_aloneToGoal_140 (by decide) ?_
  refine va_iald hx hb hK hP 1 0 rfl rfl (vin rfl) dX5_aloneToGoal_141 ?_
  refine W.eq (g2 := F0 m 142 ls [.int (c_row 2)]) rfl ?_
  refine lv_iload_n hx hb dX5_aloneToGoal_142 rfl (lv_at hl 2 rfl) ?_
  refine lv_isub hx hb dX5_aloneToGoal_143 ?_
  refine lv_iconst (v := 0) hx hb dX5_aloneToGoal_144 (by decide) ?_
  refine va_mmax hx hb (hml.trans hl.1.symm) hown (hts (.methodLink RX5 191 Lib.Math.max.name) (List.mem_of_getElem? (i := 2) rfl)) (hts (.static Lib.Math.max.name) (List.mem_of_getElem? (i := 3) rfl)) (hts (.initialized "java/lang/Math") (List.mem_of_getElem? (i := 4) rfl)) (hts (.code Lib.Math.max.name Lib.Math.max.code 2 (some .int)) (List.mem_of_getElem? (i := 5) rfl)) (Nat.le_of_ble_eq_true rfl) (Nat.le_of_ble_eq_true rfl) (Nat.le_of_ble_eq_true rfl) (Nat.le_of_ble_eq_true rfl) dX5_aloneToGoal_145 ?_
  refine W.eq (g2 := F0 m 148 ls [.int (maxF ((c_row 2) - x3) (0 : Int32))]) rfl ?_
  refine lv_istore (lv' := [(10, .int (maxF ((c_row 2) - x3) (0 : Int32))), (0, .ref a_), (2, .int p2), (3, .int x3), (7, .int x7), (8, .int x8)]) hx hb dX5_aloneToGoal_148 hl (by decide) rfl (fun ls hl => ?_)
  refine lv_iload_n hx hb dX5_aloneToGoal_150 rfl (lv_at hl 2 rfl) ?_
  refine lv_if_eq (tgt := 159) hx hb dX5_aloneToGoal_151 (by decide) (fun c_15 => ?_) (fun c_15 => ?_)
  ·
    replace hF := ip c_15 hF
    refine lv_iload hx hb dX5_aloneToGoal_159 (lv_at hl 4 rfl) ?_
    refine lv_iload hx hb dX5_aloneToGoal_161 (lv_at hl 0 rfl) ?_
    refine lv_iadd hx hb dX5_aloneToGoal_163 ?_
    rw [hQ]
    obtain e9_0 := inj1 hF
    exact W.iret (v := x7 + (maxF ((c_row 2) - x3) (0 : Int32))) hx hb hr (fun tt ht hW => ⟨_, rfl, e9_0, ht⟩) (fun _ h => by cases h) dX5_aloneToGoal_164
  ·
    replace hF := inn c_15 hF
    refine lv_iload hx hb dX5_aloneToGoal_154 (lv_at hl 5 rfl) ?_
    refine lv_goto (tgt := 161) hx hb dX5_aloneToGoal_156 (by decide) ?_
    refine lv_iload hx hb dX5_aloneToGoal_161 (lv_at hl 0 rfl) ?_
    refine lv_iadd hx hb dX5_aloneToGoal_163 ?_
    rw [hQ]
    obtain e9_0 := inj1 hF
    exact W.iret (v := x8 + (maxF ((c_row 2) - x3) (0 : Int32))) hx hb hr (fun tt ht hW => ⟨_, rfl, e9_0, ht⟩) (fun _ h => by cases h) dX5_aloneToGoal_164

set_option maxHeartbeats 4000000 in
set_option maxRecDepth 100000 in
theorem f_X5_aloneToGoal (l : Launch) (E : EE) (K : Nat) {a_ a_row a_partners a_share a_leftOver : Nat} {p1 : Int32} {p2 : Int32} {c_askedCount : Int32} {c_outcome : Int32} {c_row : Nat → Int32} {rr : Int32} (hF : F_X5_aloneToGoal K p1 p2 c_row = some rr) : Met l yX5_aloneToGoal v_f_X5_aloneToGoal (({ frames := 2, cells := 0, slots := 0, locals := 45 } : Room)) (va_Pc [.ref a_, .int p1, .int p2] (pP E (w_X5_aloneToGoal E a_ a_row a_partners a_share a_leftOver c_askedCount c_outcome c_row))) (vp_Si (fun q : Int32 => q = rr)) 0 0 (fun _ => False) := by
  refine Met.ofW (cc := cX5_aloneToGoal) (maxL := 13) (ret := (some .int)) (by decide) rfl ?_
  intro p e s m args below meth c s₁ B hml hv
  obtain ⟨rfl, ⟨hK, hN⟩, hP⟩ := hv
  have hx := B.exec
  have hb := B.bytes
  have hr := B.returns
  have hts := atoms_spec (ws := v_f_X5_aloneToGoal) B.pre
  have hown : s.vm.findClass RX5 = some m.cls := own_of hd_X5_aloneToGoal.1 (findClass_of_methodNamed B.named)
  have hlocks : meth.locks = false := B.notSynchronized
  replace hP : va_P E.1 vwCl [(a_, .inr (6, [.ref a_row, .ref a_partners, .int c_askedCount, .int c_outcome, .ref a_share, .ref a_leftOver])), (a_row, .inl (E.2.1, 81, .inl c_row))] s.heap := hP
  have hl := lv_entry ([.ref a_, .int p1, .int p2]) (n := 13) (Nat.le_of_ble_eq_true rfl)
  rw [lg_entry_eq]
  generalize (lg_sl ([.ref a_, .int p1, .int p2]) ++ List.replicate (13 - (lg_sl ([.ref a_, .int p1, .int p2])).length) Slot.unset).toArray = ls at hl ⊢
  have hl : lv_has ls 13 [(0, .ref a_), (1, .int p1), (2, .int p2)] := hl
  obtain ⟨Q, hQ⟩ : ∃ Q : State → Prop, Q = MQ below (vp_Si (fun q : Int32 => q = rr)) #[Value.ref a_, Value.int p1, Value.int p2] s 0 0 (fun _ => False) := ⟨_, rfl⟩
  rw [← hQ]
  change W p l e ({ frames := 2, cells := 0, slots := 0, locals := 45 } : Room) s m #[Value.ref a_, Value.int p1, Value.int p2] below meth c s.heap [] 0 0 Q (F0 m 0 ls [])
  unfold F_X5_aloneToGoal at hF
  refine lv_aload_n hx hb dX5_aloneToGoal_0 rfl (lv_at hl 0 rfl) ?_
  refine gt_X5_0 (v := .ref a_row) hx hb hts i_f_X5_aloneToGoal_X5 hown hK hP 0 rfl (hts (.fieldLink RX5 11 "HushWatch$State" "row" "[I") (List.mem_of_getElem? (i := 1) rfl)) rfl dX5_aloneToGoal_1 ?_
  refine lv_bipush (v := 8) hx hb dX5_aloneToGoal_4 (by decide) ?_
  refine va_iald hx hb hK hP 1 0 rfl rfl (vin rfl) dX5_aloneToGoal_6 ?_
  refine W.eq (g2 := F0 m 7 ls [.int (c_row 8)]) rfl ?_
  refine lv_istore_n (lv' := [(3, .int (c_row 8)), (0, .ref a_), (1, .int p1), (2, .int p2)]) hx hb dX5_aloneToGoal_7 rfl hl (by decide) rfl (fun ls hl => ?_)
  refine lv_aload_n hx hb dX5_aloneToGoal_8 rfl (lv_at hl 1 rfl) ?_
  refine lv_bipush (v := 6) hx hb dX5_aloneToGoal_9 (by decide) ?_
  replace hF := bd1_s hF
  obtain ⟨r_1, hc_2, hF⟩ := hF
  have hPc : va_P E.1 vwCl (w_X5_total E a_ a_row a_partners a_share a_leftOver c_askedCount c_outcome c_row) s.heap := hP.sub (ws' := [(a_, .inr (6, [.ref a_row, .ref a_partners, .int c_askedCount, .int c_outcome, .ref a_share, .ref a_leftOver])), (a_row, .inl (E.2.1, 81, .inl c_row))]) [0, 1] rfl
  have hrc := va_recv hK hPc (ci := 6) (q0 := 0) rfl rfl
  refine pE_i (va_runV (As := [.int (6 : Int32)]) (rest := [])  ⟨hx, hb, hml, hown, hts⟩ (f_X5_total l E K (a_ := a_) (a_row := a_row) (a_partners := a_partners) (a_share := a_share) (a_leftOver := a_leftOver) (p1 := (6 : Int32)) (c_askedCount := c_askedCount) (c_outcome := c_outcome) (c_row := c_row) hc_2) (cwV 1 hts g_f_X5_aloneToGoal_f_X5_total_188 rfl rfl rfl hd_X5_total ⟨Nat.le_of_ble_eq_true rfl, Nat.le_of_ble_eq_true rfl⟩) ⟨pP.blind, hrc, (pP.pre ⟨hK, hN⟩ hPc)⟩ rfl rfl hl.1 rfl (lv_room (Nat.le_of_ble_eq_true rfl)) dX5_aloneToGoal_11 ⟨Nat.le_of_ble_eq_true rfl, Nat.le_of_ble_eq_true rfl⟩) ?_
  refine lv_istore (lv' := [(4, .int r_1), (3, .int (c_row 8)), (0, .ref a_), (1, .int p1), (2, .int p2)]) hx hb dX5_aloneToGoal_14 hl (by decide) rfl (fun ls hl => ?_)
  refine lv_aload_n hx hb dX5_aloneToGoal_16 rfl (lv_at hl 2 rfl) ?_
  refine lv_iload_n hx hb dX5_aloneToGoal_17 rfl (lv_at hl 3 rfl) ?_
  refine lv_bipush (v := 7) hx hb dX5_aloneToGoal_18 (by decide) ?_
  replace hF := bd1_s hF
  obtain ⟨r_3, hc_4, hF⟩ := hF
  have hPc : va_P E.1 vwCl (w_X5_of E a_ a_row a_partners a_share a_leftOver c_askedCount c_outcome c_row) s.heap := hP.sub (ws' := [(a_, .inr (6, [.ref a_row, .ref a_partners, .int c_askedCount, .int c_outcome, .ref a_share, .ref a_leftOver])), (a_row, .inl (E.2.1, 81, .inl c_row))]) [0, 1] rfl
  have hrc := va_recv hK hPc (ci := 6) (q0 := 0) rfl rfl
  refine pE_i (va_runV (As := [.int p1, .int (7 : Int32)]) (rest := [])  ⟨hx, hb, hml, hown, hts⟩ (f_X5_of l E (a_ := a_) (a_row := a_row) (a_partners := a_partners) (a_share := a_share) (a_leftOver := a_leftOver) (p1 := p1) (p2 := (7 : Int32)) (c_askedCount := c_askedCount) (c_outcome := c_outcome) (c_row := c_row) hc_4) (cwV 2 hts g_f_X5_aloneToGoal_f_X5_of_69 rfl rfl rfl hd_X5_of ⟨Nat.le_of_ble_eq_true rfl, Nat.le_of_ble_eq_true rfl⟩) ⟨pP.blind, hrc, (pP.pre ⟨hK, hN⟩ hPc)⟩ rfl rfl hl.1 rfl (lv_room (Nat.le_of_ble_eq_true rfl)) dX5_aloneToGoal_20 ⟨Nat.le_of_ble_eq_true rfl, Nat.le_of_ble_eq_true rfl⟩) ?_
  refine lv_istore (lv' := [(5, .int r_3), (4, .int r_1), (3, .int (c_row 8)), (0, .ref a_), (1, .int p1), (2, .int p2)]) hx hb dX5_aloneToGoal_23 hl (by decide) rfl (fun ls hl => ?_)
  refine lv_aload_n hx hb dX5_aloneToGoal_25 rfl (lv_at hl 3 rfl) ?_
  refine gt_X5_0 (v := .ref a_row) hx hb hts i_f_X5_aloneToGoal_X5 hown hK hP 0 rfl (hts (.fieldLink RX5 11 "HushWatch$State" "row" "[I") (List.mem_of_getElem? (i := 1) rfl)) rfl dX5_aloneToGoal_26 ?_
  refine lv_bipush (v := 9) hx hb dX5_aloneToGoal_29 (by decide) ?_
  refine va_iald hx hb hK hP 1 0 rfl rfl (vin rfl) dX5_aloneToGoal_31 ?_
  refine W.eq (g2 := F0 m 32 ls [.int (c_row 9)]) rfl ?_
  refine lv_istore (lv' := [(6, .int (c_row 9)), (5, .int r_3), (4, .int r_1), (3, .int (c_row 8)), (0, .ref a_), (1, .int p1), (2, .int p2)]) hx hb dX5_aloneToGoal_32 hl (by decide) rfl (fun ls hl => ?_)
  refine lv_iconst (v := 0) hx hb dX5_aloneToGoal_34 (by decide) ?_
  refine lv_istore (lv' := [(7, .int (0 : Int32)), (6, .int (c_row 9)), (5, .int r_3), (4, .int r_1), (3, .int (c_row 8)), (0, .ref a_), (1, .int p1), (2, .int p2)]) hx hb dX5_aloneToGoal_35 hl (by decide) rfl (fun ls hl => ?_)
  refine lv_iconst (v := 0) hx hb dX5_aloneToGoal_37 (by decide) ?_
  refine lv_istore (lv' := [(8, .int (0 : Int32)), (7, .int (0 : Int32)), (6, .int (c_row 9)), (5, .int r_3), (4, .int r_1), (3, .int (c_row 8)), (0, .ref a_), (1, .int p1), (2, .int p2)]) hx hb dX5_aloneToGoal_38 hl (by decide) rfl (fun ls hl => ?_)
  refine lv_aload_n hx hb dX5_aloneToGoal_40 rfl (lv_at hl 6 rfl) ?_
  refine lv_iload_n hx hb dX5_aloneToGoal_41 rfl (lv_at hl 5 rfl) ?_
  replace hF := bd1_s hF
  obtain ⟨r_5, hc_6, hF⟩ := hF
  have hPc : va_P E.1 vwCl (w_X5_stepFrom E a_ a_row a_partners a_share a_leftOver c_askedCount c_outcome c_row) s.heap := hP.sub (ws' := [(a_, .inr (6, [.ref a_row, .ref a_partners, .int c_askedCount, .int c_outcome, .ref a_share, .ref a_leftOver])), (a_row, .inl (E.2.1, 81, .inl c_row))]) [0, 1] rfl
  have hrc := va_recv hK hPc (ci := 6) (q0 := 0) rfl rfl
  refine pE_i (va_runV (As := [.int (c_row 8)]) (rest := [])  ⟨hx, hb, hml, hown, hts⟩ (f_X5_stepFrom l E (a_ := a_) (a_row := a_row) (a_partners := a_partners) (a_share := a_share) (a_leftOver := a_leftOver) (p1 := c_row 8) (c_askedCount := c_askedCount) (c_outcome := c_outcome) (c_row := c_row) hc_6) (cwV 1 hts g_f_X5_aloneToGoal_f_X5_stepFrom_182 rfl rfl rfl hd_X5_stepFrom ⟨Nat.le_of_ble_eq_true rfl, Nat.le_of_ble_eq_true rfl⟩) ⟨pP.blind, hrc, (pP.pre ⟨hK, hN⟩ hPc)⟩ rfl rfl hl.1 rfl (lv_room (Nat.le_of_ble_eq_true rfl)) dX5_aloneToGoal_42 ⟨Nat.le_of_ble_eq_true rfl, Nat.le_of_ble_eq_true rfl⟩) ?_
  refine lv_istore (lv' := [(9, .int r_5), (8, .int (0 : Int32)), (7, .int (0 : Int32)), (6, .int (c_row 9)), (5, .int r_3), (4, .int r_1), (3, .int (c_row 8)), (0, .ref a_), (1, .int p1), (2, .int p2)]) hx hb dX5_aloneToGoal_45 hl (by decide) rfl (fun ls hl => ?_)
  refine lv_iconst (v := 0) hx hb dX5_aloneToGoal_47 (by decide) ?_
  refine lv_istore (lv' := [(10, .int (0 : Int32)), (9, .int r_5), (8, .int (0 : Int32)), (7, .int (0 : Int32)), (6, .int (c_row 9)), (5, .int r_3), (4, .int r_1), (3, .int (c_row 8)), (0, .ref a_), (1, .int p1), (2, .int p2)]) hx hb dX5_aloneToGoal_48 hl (by decide) rfl (fun ls hl => ?_)
  replace hF := bd3_s hF
  obtain ⟨x3_11, x7_12, x8_13, hL_14, hF⟩ := hF
  refine lw_X5_aloneToGoal_50 l E K (p1 := p1) (p2 := p2) (c_askedCount := c_askedCount) (c_outcome := c_outcome) (c_row := c_row) hx hb hml hown hts hK hN hP K (c_row 8) r_1 r_3 (c_row 9) (0 : Int32) (0 : Int32) r_5 (0 : Int32) x3_11 x7_12 x8_13 hL_14 ?_ ls (lv_sub hl [8, 10, 7, 6, 5, 4, 3, 2, 1, 0] rfl)
  ·
    intro ls hl
    exact j_X5_aloneToGoal_136 l E K (p1 := p1) (p2 := p2) (c_askedCount := c_askedCount) (c_outcome := c_outcome) (c_row := c_row) (x3 := x3_11) (x7 := x7_12) (x8 := x8_13) hx hb hml hown hts hK hN hr hlocks hQ hF hP ls (lv_sub hl [0, 1, 2, 3, 4] rfl)

def F_X5_shareOf (p1 : Int32) (p2 : Int32) (c_share : Nat → Int32) (c_leftOver : Nat → Int32) : Option (Int32) :=
  if p2 < (0 : Int32) then some (0 : Int32) else if p2 ≤ (1 : Int32) then ixF p2 2 (if c_leftOver p2.toNatClampNeg ≤ p1 then ixF p2 2 (some (c_share p2.toNatClampNeg)) else ixF p2 2 (some ((c_share p2.toNatClampNeg) + (1 : Int32)))) else some (0 : Int32)
abbrev w_X5_shareOf (E : EE) (a_ a_row a_partners a_share a_leftOver : Nat) (c_askedCount : Int32) (c_outcome : Int32) (c_share : Nat → Int32) (c_leftOver : Nat → Int32) : va_W := [(a_, .inr (6, [.ref a_row, .ref a_partners, .int c_askedCount, .int c_outcome, .ref a_share, .ref a_leftOver])), (a_share, .inl (E.2.1, 2, .inl c_share)), (a_leftOver, .inl (E.2.1, 2, .inl c_leftOver))]
def v_f_X5_shareOf : List Cond := List.cons (.code yX5_shareOf cX5_shareOf 3 (some .int)) (HAppend.hAppend (α := List Cond) (β := List Cond) (γ := List Cond) [.fieldLink RX5 28 "HushWatch$State" "leftOver" "[I", .fieldLink RX5 25 "HushWatch$State" "share" "[I"] (HAppend.hAppend (α := List Cond) (β := List Cond) (γ := List Cond) wsX50 []))
theorem gw_f_X5_shareOf : v_f_X5_shareOf.all goodWord = true := by decide +kernel
theorem i_f_X5_shareOf_X5 : ∀ w ∈ wsX50, w ∈ v_f_X5_shareOf := fun _ h => List.mem_cons_of_mem _ (List.mem_append_right _ (List.mem_append_left _ h))
theorem hd_X5_shareOf : yX5_shareOf.cls = RX5 ∧ yX5_shareOf.cls ≠ "java/lang/invoke/MethodHandle" ∧ yX5_shareOf.cls ≠ "java/lang/invoke/VarHandle" ∧ (parseMethodDescriptor yX5_shareOf.desc).map (fun d => d.parameters.length) = some 2 := by decide +kernel
set_option maxHeartbeats 4000000 in
set_option maxRecDepth 100000 in
theorem f_X5_shareOf (l : Launch) (E : EE) {a_ a_row a_partners a_share a_leftOver : Nat} {p1 : Int32} {p2 : Int32} {c_askedCount : Int32} {c_outcome : Int32} {c_share : Nat → Int32} {c_leftOver : Nat → Int32} {rr : Int32} (hF : F_X5_shareOf p1 p2 c_share c_leftOver = some rr) : Met l yX5_shareOf v_f_X5_shareOf (({ frames := 0, cells := 0, slots := 0, locals := 0 } : Room)) (va_Pc [.ref a_, .int p1, .int p2] (pP E (w_X5_shareOf E a_ a_row a_partners a_share a_leftOver c_askedCount c_outcome c_share c_leftOver))) (vp_Si (fun q : Int32 => q = rr)) 0 0 (fun _ => False) := by
  refine Met.ofW (cc := cX5_shareOf) (maxL := 3) (ret := (some .int)) (by decide) rfl ?_
  intro p e s m args below meth c s₁ B hml hv
  obtain ⟨rfl, ⟨hK, hN⟩, hP⟩ := hv
  have hx := B.exec
  have hb := B.bytes
  have hr := B.returns
  have hts := atoms_spec (ws := v_f_X5_shareOf) B.pre
  have hown : s.vm.findClass RX5 = some m.cls := own_of hd_X5_shareOf.1 (findClass_of_methodNamed B.named)
  have hlocks : meth.locks = false := B.notSynchronized
  replace hP : va_P E.1 vwCl [(a_, .inr (6, [.ref a_row, .ref a_partners, .int c_askedCount, .int c_outcome, .ref a_share, .ref a_leftOver])), (a_share, .inl (E.2.1, 2, .inl c_share)), (a_leftOver, .inl (E.2.1, 2, .inl c_leftOver))] s.heap := hP
  have hl := lv_entry ([.ref a_, .int p1, .int p2]) (n := 3) (Nat.le_of_ble_eq_true rfl)
  rw [lg_entry_eq]
  generalize (lg_sl ([.ref a_, .int p1, .int p2]) ++ List.replicate (3 - (lg_sl ([.ref a_, .int p1, .int p2])).length) Slot.unset).toArray = ls at hl ⊢
  have hl : lv_has ls 3 [(0, .ref a_), (1, .int p1), (2, .int p2)] := hl
  obtain ⟨Q, hQ⟩ : ∃ Q : State → Prop, Q = MQ below (vp_Si (fun q : Int32 => q = rr)) #[Value.ref a_, Value.int p1, Value.int p2] s 0 0 (fun _ => False) := ⟨_, rfl⟩
  rw [← hQ]
  change W p l e ({ frames := 0, cells := 0, slots := 0, locals := 0 } : Room) s m #[Value.ref a_, Value.int p1, Value.int p2] below meth c s.heap [] 0 0 Q (F0 m 0 ls [])
  unfold F_X5_shareOf at hF
  refine lv_iload_n hx hb dX5_shareOf_0 rfl (lv_at hl 2 rfl) ?_
  refine lv_if_lt (tgt := 9) hx hb dX5_shareOf_1 (by decide) (fun c_1 => ?_) (fun c_1 => ?_)
  ·
    replace hF := ip c_1 hF
    refine lv_iconst (v := 0) hx hb dX5_shareOf_9 (by decide) ?_
    rw [hQ]
    obtain e9_0 := inj1 hF
    exact W.iret (v := (0 : Int32)) hx hb hr (fun tt ht hW => ⟨_, rfl, e9_0, ht⟩) (fun _ h => by cases h) dX5_shareOf_10
  ·
    replace hF := inn c_1 hF
    refine lv_iload_n hx hb dX5_shareOf_4 rfl (lv_at hl 2 rfl) ?_
    refine lv_iconst (v := 1) hx hb dX5_shareOf_5 (by decide) ?_
    refine lv_icmp_le (tgt := 11) hx hb dX5_shareOf_6 (by decide) (fun c_2 => ?_) (fun c_2 => ?_)
    ·
      replace hF := ip c_2 hF
      refine lv_iload_n hx hb dX5_shareOf_11 rfl (lv_at hl 1 rfl) ?_
      refine lv_aload_n hx hb dX5_shareOf_12 rfl (lv_at hl 0 rfl) ?_
      refine gt_X5_5 (v := .ref a_leftOver) hx hb hts i_f_X5_shareOf_X5 hown hK hP 0 rfl (hts (.fieldLink RX5 28 "HushWatch$State" "leftOver" "[I") (List.mem_of_getElem? (i := 1) rfl)) rfl dX5_shareOf_13 ?_
      refine lv_iload_n hx hb dX5_shareOf_16 rfl (lv_at hl 2 rfl) ?_
      replace hF := ix_s hF
      obtain ⟨hi_3, hF⟩ := hF
      refine va_iald hx hb hK hP 2 0 rfl rfl hi_3 dX5_shareOf_17 ?_
      refine lv_icmp_ge (tgt := 32) hx hb dX5_shareOf_18 (by decide) (fun c_4 => ?_) (fun c_4 => ?_)
      ·
        replace hF := ip c_4 hF
        refine lv_aload_n hx hb dX5_shareOf_32 rfl (lv_at hl 0 rfl) ?_
        refine gt_X5_4 (v := .ref a_share) hx hb hts i_f_X5_shareOf_X5 hown hK hP 0 rfl (hts (.fieldLink RX5 25 "HushWatch$State" "share" "[I") (List.mem_of_getElem? (i := 2) rfl)) rfl dX5_shareOf_33 ?_
        refine lv_iload_n hx hb dX5_shareOf_36 rfl (lv_at hl 2 rfl) ?_
        replace hF := ix_s hF
        obtain ⟨hi_5, hF⟩ := hF
        refine va_iald hx hb hK hP 1 0 rfl rfl hi_5 dX5_shareOf_37 ?_
        rw [hQ]
        obtain e9_0 := inj1 hF
        exact W.iret (v := c_share p2.toNatClampNeg) hx hb hr (fun tt ht hW => ⟨_, rfl, e9_0, ht⟩) (fun _ h => by cases h) dX5_shareOf_38
      ·
        replace hF := inn c_4 hF
        refine lv_aload_n hx hb dX5_shareOf_21 rfl (lv_at hl 0 rfl) ?_
        refine gt_X5_4 (v := .ref a_share) hx hb hts i_f_X5_shareOf_X5 hown hK hP 0 rfl (hts (.fieldLink RX5 25 "HushWatch$State" "share" "[I") (List.mem_of_getElem? (i := 2) rfl)) rfl dX5_shareOf_22 ?_
        refine lv_iload_n hx hb dX5_shareOf_25 rfl (lv_at hl 2 rfl) ?_
        replace hF := ix_s hF
        obtain ⟨hi_6, hF⟩ := hF
        refine va_iald hx hb hK hP 1 0 rfl rfl hi_6 dX5_shareOf_26 ?_
        refine lv_iconst (v := 1) hx hb dX5_shareOf_27 (by decide) ?_
        refine lv_iadd hx hb dX5_shareOf_28 ?_
        refine lv_goto (tgt := 38) hx hb dX5_shareOf_29 (by decide) ?_
        rw [hQ]
        obtain e9_0 := inj1 hF
        exact W.iret (v := (c_share p2.toNatClampNeg) + (1 : Int32)) hx hb hr (fun tt ht hW => ⟨_, rfl, e9_0, ht⟩) (fun _ h => by cases h) dX5_shareOf_38
    ·
      replace hF := inn c_2 hF
      refine lv_iconst (v := 0) hx hb dX5_shareOf_9 (by decide) ?_
      rw [hQ]
      obtain e9_0 := inj1 hF
      exact W.iret (v := (0 : Int32)) hx hb hr (fun tt ht hW => ⟨_, rfl, e9_0, ht⟩) (fun _ h => by cases h) dX5_shareOf_10

def F_X5_drift (p1 : Int32) (p2 : Int32) (c_row : Nat → Int32) : Option (Int32) :=
  if p1 < (0 : Int32) then some (0 : Int32) else if (8 : Int32) ≤ p1 then some (0 : Int32) else if p2 < (0 : Int32) then some (0 : Int32) else if p2 ≤ (1 : Int32) then ixF ((((17 : Int32) + (p1 * (8 : Int32))) + p2) + (0 : Int32)) 81 (ixF ((((17 : Int32) + (p1 * (8 : Int32))) + p2) + (2 : Int32)) 81 (ixF ((((17 : Int32) + (p1 * (8 : Int32))) + p2) + (4 : Int32)) 81 (some (((c_row ((((17 : Int32) + (p1 * (8 : Int32))) + p2) + (0 : Int32)).toNatClampNeg) - (c_row ((((17 : Int32) + (p1 * (8 : Int32))) + p2) + (2 : Int32)).toNatClampNeg)) + (c_row ((((17 : Int32) + (p1 * (8 : Int32))) + p2) + (4 : Int32)).toNatClampNeg))))) else some (0 : Int32)
abbrev w_X5_drift (E : EE) (a_ a_row a_partners a_share a_leftOver : Nat) (c_askedCount : Int32) (c_outcome : Int32) (c_row : Nat → Int32) : va_W := [(a_, .inr (6, [.ref a_row, .ref a_partners, .int c_askedCount, .int c_outcome, .ref a_share, .ref a_leftOver])), (a_row, .inl (E.2.1, 81, .inl c_row))]
def v_f_X5_drift : List Cond := List.cons (.code yX5_drift cX5_drift 4 (some .int)) (HAppend.hAppend (α := List Cond) (β := List Cond) (γ := List Cond) [.fieldLink RX5 11 "HushWatch$State" "row" "[I"] (HAppend.hAppend (α := List Cond) (β := List Cond) (γ := List Cond) wsX50 []))
theorem gw_f_X5_drift : v_f_X5_drift.all goodWord = true := by decide +kernel
theorem i_f_X5_drift_X5 : ∀ w ∈ wsX50, w ∈ v_f_X5_drift := fun _ h => List.mem_cons_of_mem _ (List.mem_append_right _ (List.mem_append_left _ h))
theorem hd_X5_drift : yX5_drift.cls = RX5 ∧ yX5_drift.cls ≠ "java/lang/invoke/MethodHandle" ∧ yX5_drift.cls ≠ "java/lang/invoke/VarHandle" ∧ (parseMethodDescriptor yX5_drift.desc).map (fun d => d.parameters.length) = some 2 := by decide +kernel
set_option maxHeartbeats 4000000 in
set_option maxRecDepth 100000 in
theorem f_X5_drift (l : Launch) (E : EE) {a_ a_row a_partners a_share a_leftOver : Nat} {p1 : Int32} {p2 : Int32} {c_askedCount : Int32} {c_outcome : Int32} {c_row : Nat → Int32} {rr : Int32} (hF : F_X5_drift p1 p2 c_row = some rr) : Met l yX5_drift v_f_X5_drift (({ frames := 0, cells := 0, slots := 0, locals := 0 } : Room)) (va_Pc [.ref a_, .int p1, .int p2] (pP E (w_X5_drift E a_ a_row a_partners a_share a_leftOver c_askedCount c_outcome c_row))) (vp_Si (fun q : Int32 => q = rr)) 0 0 (fun _ => False) := by
  refine Met.ofW (cc := cX5_drift) (maxL := 4) (ret := (some .int)) (by decide) rfl ?_
  intro p e s m args below meth c s₁ B hml hv
  obtain ⟨rfl, ⟨hK, hN⟩, hP⟩ := hv
  have hx := B.exec
  have hb := B.bytes
  have hr := B.returns
  have hts := atoms_spec (ws := v_f_X5_drift) B.pre
  have hown : s.vm.findClass RX5 = some m.cls := own_of hd_X5_drift.1 (findClass_of_methodNamed B.named)
  have hlocks : meth.locks = false := B.notSynchronized
  replace hP : va_P E.1 vwCl [(a_, .inr (6, [.ref a_row, .ref a_partners, .int c_askedCount, .int c_outcome, .ref a_share, .ref a_leftOver])), (a_row, .inl (E.2.1, 81, .inl c_row))] s.heap := hP
  have hl := lv_entry ([.ref a_, .int p1, .int p2]) (n := 4) (Nat.le_of_ble_eq_true rfl)
  rw [lg_entry_eq]
  generalize (lg_sl ([.ref a_, .int p1, .int p2]) ++ List.replicate (4 - (lg_sl ([.ref a_, .int p1, .int p2])).length) Slot.unset).toArray = ls at hl ⊢
  have hl : lv_has ls 4 [(0, .ref a_), (1, .int p1), (2, .int p2)] := hl
  obtain ⟨Q, hQ⟩ : ∃ Q : State → Prop, Q = MQ below (vp_Si (fun q : Int32 => q = rr)) #[Value.ref a_, Value.int p1, Value.int p2] s 0 0 (fun _ => False) := ⟨_, rfl⟩
  rw [← hQ]
  change W p l e ({ frames := 0, cells := 0, slots := 0, locals := 0 } : Room) s m #[Value.ref a_, Value.int p1, Value.int p2] below meth c s.heap [] 0 0 Q (F0 m 0 ls [])
  unfold F_X5_drift at hF
  refine lv_iload_n hx hb dX5_drift_0 rfl (lv_at hl 1 rfl) ?_
  refine lv_if_lt (tgt := 19) hx hb dX5_drift_1 (by decide) (fun c_1 => ?_) (fun c_1 => ?_)
  ·
    replace hF := ip c_1 hF
    refine lv_iconst (v := 0) hx hb dX5_drift_19 (by decide) ?_
    rw [hQ]
    obtain e9_0 := inj1 hF
    exact W.iret (v := (0 : Int32)) hx hb hr (fun tt ht hW => ⟨_, rfl, e9_0, ht⟩) (fun _ h => by cases h) dX5_drift_20
  ·
    replace hF := inn c_1 hF
    refine lv_iload_n hx hb dX5_drift_4 rfl (lv_at hl 1 rfl) ?_
    refine lv_bipush (v := 8) hx hb dX5_drift_5 (by decide) ?_
    refine lv_icmp_ge (tgt := 19) hx hb dX5_drift_7 (by decide) (fun c_2 => ?_) (fun c_2 => ?_)
    ·
      replace hF := ip c_2 hF
      refine lv_iconst (v := 0) hx hb dX5_drift_19 (by decide) ?_
      rw [hQ]
      obtain e9_0 := inj1 hF
      exact W.iret (v := (0 : Int32)) hx hb hr (fun tt ht hW => ⟨_, rfl, e9_0, ht⟩) (fun _ h => by cases h) dX5_drift_20
    ·
      replace hF := inn c_2 hF
      refine lv_iload_n hx hb dX5_drift_10 rfl (lv_at hl 2 rfl) ?_
      refine lv_if_lt (tgt := 19) hx hb dX5_drift_11 (by decide) (fun c_3 => ?_) (fun c_3 => ?_)
      ·
        replace hF := ip c_3 hF
        refine lv_iconst (v := 0) hx hb dX5_drift_19 (by decide) ?_
        rw [hQ]
        obtain e9_0 := inj1 hF
        exact W.iret (v := (0 : Int32)) hx hb hr (fun tt ht hW => ⟨_, rfl, e9_0, ht⟩) (fun _ h => by cases h) dX5_drift_20
      ·
        replace hF := inn c_3 hF
        refine lv_iload_n hx hb dX5_drift_14 rfl (lv_at hl 2 rfl) ?_
        refine lv_iconst (v := 1) hx hb dX5_drift_15 (by decide) ?_
        refine lv_icmp_le (tgt := 21) hx hb dX5_drift_16 (by decide) (fun c_4 => ?_) (fun c_4 => ?_)
        ·
          replace hF := ip c_4 hF
          refine lv_bipush (v := 17) hx hb dX5_drift_21 (by decide) ?_
          refine lv_iload_n hx hb dX5_drift_23 rfl (lv_at hl 1 rfl) ?_
          refine lv_bipush (v := 8) hx hb dX5_drift_24 (by decide) ?_
          refine lv_imul hx hb dX5_drift_26 ?_
          refine lv_iadd hx hb dX5_drift_27 ?_
          refine lv_iload_n hx hb dX5_drift_28 rfl (lv_at hl 2 rfl) ?_
          refine lv_iadd hx hb dX5_drift_29 ?_
          refine lv_istore_n (lv' := [(3, .int (((17 : Int32) + (p1 * (8 : Int32))) + p2)), (0, .ref a_), (1, .int p1), (2, .int p2)]) hx hb dX5_drift_30 rfl hl (by decide) rfl (fun ls hl => ?_)
          refine lv_aload_n hx hb dX5_drift_31 rfl (lv_at hl 1 rfl) ?_
          refine gt_X5_0 (v := .ref a_row) hx hb hts i_f_X5_drift_X5 hown hK hP 0 rfl (hts (.fieldLink RX5 11 "HushWatch$State" "row" "[I") (List.mem_of_getElem? (i := 1) rfl)) rfl dX5_drift_32 ?_
          refine lv_iload_n hx hb dX5_drift_35 rfl (lv_at hl 0 rfl) ?_
          refine lv_iconst (v := 0) hx hb dX5_drift_36 (by decide) ?_
          refine lv_iadd hx hb dX5_drift_37 ?_
          replace hF := ix_s hF
          obtain ⟨hi_5, hF⟩ := hF
          refine va_iald hx hb hK hP 1 0 rfl rfl hi_5 dX5_drift_38 ?_
          refine lv_aload_n hx hb dX5_drift_39 rfl (lv_at hl 1 rfl) ?_
          refine gt_X5_0 (v := .ref a_row) hx hb hts i_f_X5_drift_X5 hown hK hP 0 rfl (hts (.fieldLink RX5 11 "HushWatch$State" "row" "[I") (List.mem_of_getElem? (i := 1) rfl)) rfl dX5_drift_40 ?_
          refine lv_iload_n hx hb dX5_drift_43 rfl (lv_at hl 0 rfl) ?_
          refine lv_iconst (v := 2) hx hb dX5_drift_44 (by decide) ?_
          refine lv_iadd hx hb dX5_drift_45 ?_
          replace hF := ix_s hF
          obtain ⟨hi_6, hF⟩ := hF
          refine va_iald hx hb hK hP 1 0 rfl rfl hi_6 dX5_drift_46 ?_
          refine lv_isub hx hb dX5_drift_47 ?_
          refine lv_aload_n hx hb dX5_drift_48 rfl (lv_at hl 1 rfl) ?_
          refine gt_X5_0 (v := .ref a_row) hx hb hts i_f_X5_drift_X5 hown hK hP 0 rfl (hts (.fieldLink RX5 11 "HushWatch$State" "row" "[I") (List.mem_of_getElem? (i := 1) rfl)) rfl dX5_drift_49 ?_
          refine lv_iload_n hx hb dX5_drift_52 rfl (lv_at hl 0 rfl) ?_
          refine lv_iconst (v := 4) hx hb dX5_drift_53 (by decide) ?_
          refine lv_iadd hx hb dX5_drift_54 ?_
          replace hF := ix_s hF
          obtain ⟨hi_7, hF⟩ := hF
          refine va_iald hx hb hK hP 1 0 rfl rfl hi_7 dX5_drift_55 ?_
          refine lv_iadd hx hb dX5_drift_56 ?_
          rw [hQ]
          obtain e9_0 := inj1 hF
          exact W.iret (v := ((c_row ((((17 : Int32) + (p1 * (8 : Int32))) + p2) + (0 : Int32)).toNatClampNeg) - (c_row ((((17 : Int32) + (p1 * (8 : Int32))) + p2) + (2 : Int32)).toNatClampNeg)) + (c_row ((((17 : Int32) + (p1 * (8 : Int32))) + p2) + (4 : Int32)).toNatClampNeg)) hx hb hr (fun tt ht hW => ⟨_, rfl, e9_0, ht⟩) (fun _ h => by cases h) dX5_drift_57
        ·
          replace hF := inn c_4 hF
          refine lv_iconst (v := 0) hx hb dX5_drift_19 (by decide) ?_
          rw [hQ]
          obtain e9_0 := inj1 hF
          exact W.iret (v := (0 : Int32)) hx hb hr (fun tt ht hW => ⟨_, rfl, e9_0, ht⟩) (fun _ h => by cases h) dX5_drift_20

def B_X5_balance_42 (c_share : Nat → Int32) (c_leftOver : Nat → Int32) (x2 : Int32) (x3 : Int32) (x4 : Int32) (c_row : Nat → Int32) : Option ((Int32 × (Nat → Int32)) ⊕ ((Nat → Int32))) :=
  if (2 : Int32) ≤ x4 then some (.inr c_row) else bd1 (F_X5_shareOf x2 x4 c_share c_leftOver) (fun r_7 => bd1 (F_X5_drift x3 x4 c_row) (fun r_9 => bd1 (F_X5_of x3 ((4 : Int32) + x4) c_row) (fun r_11 => bd1 (F_X5_put x3 ((4 : Int32) + x4) (r_11 + (r_7 - r_9)) c_row) (fun w_13 => some (.inl (x4 + (1 : Int32), w_13))))))
def B_X5_balance_20 (K : Nat) (p1 : Int32) (c_share : Nat → Int32) (c_leftOver : Nat → Int32) (x2 : Int32) (x3 : Int32) (c_row : Nat → Int32) : Option ((Int32 × Int32 × (Nat → Int32)) ⊕ (Int32 × (Nat → Int32))) :=
  bd1 (F_X5_sites c_row) (fun r_2 => if r_2 ≤ x3 then some (.inr (x2, c_row)) else if (p1 >>> (x3 &&& (31 : Int32))) &&& (1 : Int32) = (0 : Int32) then some (.inl (x2, x3 + (1 : Int32), c_row)) else bd1 (lpF (fun u9 : Int32 × (Nat → Int32) => B_X5_balance_42 c_share c_leftOver x2 x3 u9.1 u9.2) K ((0 : Int32), c_row)) (fun c_row_15 => some (.inl (x2 + (1 : Int32), x3 + (1 : Int32), c_row_15))))
def F_X5_balance (K : Nat) (p1 : Int32) (c_row : Nat → Int32) (c_askedCount : Int32) (c_outcome : Int32) (c_share : Nat → Int32) (c_leftOver : Nat → Int32) : Option (Int32 × (Nat → Int32) × Int32) :=
  nmF (upd c_row 13 ((c_row 13) + (1 : Int32))) (fun f_1 => bd2 (lpF (fun u9 : Int32 × Int32 × (Nat → Int32) => B_X5_balance_20 K p1 c_share c_leftOver u9.1 u9.2.1 u9.2.2) K ((0 : Int32), (0 : Int32), f_1)) (fun x2_17 c_row_18 => some (((1 : Int32) + ((2 : Int32) * c_askedCount)) + x2_17, c_row_18, (1 : Int32))))
abbrev w_X5_balance (E : EE) (a_ a_row a_partners a_share a_leftOver : Nat) (c_askedCount : Int32) (c_outcome : Int32) (c_row : Nat → Int32) (c_share : Nat → Int32) (c_leftOver : Nat → Int32) : va_W := [(a_, .inr (6, [.ref a_row, .ref a_partners, .int c_askedCount, .int c_outcome, .ref a_share, .ref a_leftOver])), (a_row, .inl (E.2.1, 81, .inl c_row)), (a_share, .inl (E.2.1, 2, .inl c_share)), (a_leftOver, .inl (E.2.1, 2, .inl c_leftOver))]
def v_f_X5_balance : List Cond := List.cons (.code yX5_balance cX5_balance 6 (some .int)) (HAppend.hAppend (α := List Cond) (β := List Cond) (γ := List Cond) [.fieldLink RX5 11 "HushWatch$State" "row" "[I", .fieldLink RX5 22 "HushWatch$State" "outcome" "I", .fieldLink RX5 18 "HushWatch$State" "askedCount" "I", .methodLink RX5 45 yX5_sites, .instanceMethod yX5_sites, .selects RX5 yX5_sites yX5_sites, .initialized RX5, .methodLink RX5 168 yX5_shareOf, .instanceMethod yX5_shareOf, .selects RX5 yX5_shareOf yX5_shareOf, .methodLink RX5 72 yX5_drift, .instanceMethod yX5_drift, .selects RX5 yX5_drift yX5_drift, .methodLink RX5 69 yX5_of, .instanceMethod yX5_of, .selects RX5 yX5_of yX5_of, .methodLink RX5 52 yX5_put, .instanceMethod yX5_put, .selects RX5 yX5_put yX5_put] (HAppend.hAppend (α := List Cond) (β := List Cond) (γ := List Cond) wsX50 (HAppend.hAppend (α := List Cond) (β := List Cond) (γ := List Cond) v_f_X5_sites (HAppend.hAppend (α := List Cond) (β := List Cond) (γ := List Cond) v_f_X5_shareOf (HAppend.hAppend (α := List Cond) (β := List Cond) (γ := List Cond) v_f_X5_drift (HAppend.hAppend (α := List Cond) (β := List Cond) (γ := List Cond) v_f_X5_of (HAppend.hAppend (α := List Cond) (β := List Cond) (γ := List Cond) v_f_X5_put [])))))))
theorem gw_f_X5_balance : v_f_X5_balance.all goodWord = true := by decide +kernel
theorem i_f_X5_balance_X5 : ∀ w ∈ wsX50, w ∈ v_f_X5_balance := fun _ h => List.mem_cons_of_mem _ (List.mem_append_right _ (List.mem_append_left _ h))
theorem g_f_X5_balance_f_X5_sites_45 : GoodIn v_f_X5_balance (wsV RX5 45 RX5 yX5_sites v_f_X5_sites) := goodIn_app (goodIn_of _ (by decide +kernel)) (goodIn_sub (fun _ h => List.mem_cons_of_mem _ (List.mem_append_right _ (List.mem_append_right _ (List.mem_append_left _ h)))) gw_f_X5_sites)
theorem g_f_X5_balance_f_X5_shareOf_168 : GoodIn v_f_X5_balance (wsV RX5 168 RX5 yX5_shareOf v_f_X5_shareOf) := goodIn_app (goodIn_of _ (by decide +kernel)) (goodIn_sub (fun _ h => List.mem_cons_of_mem _ (List.mem_append_right _ (List.mem_append_right _ (List.mem_append_right _ (List.mem_append_left _ h))))) gw_f_X5_shareOf)
theorem g_f_X5_balance_f_X5_drift_72 : GoodIn v_f_X5_balance (wsV RX5 72 RX5 yX5_drift v_f_X5_drift) := goodIn_app (goodIn_of _ (by decide +kernel)) (goodIn_sub (fun _ h => List.mem_cons_of_mem _ (List.mem_append_right _ (List.mem_append_right _ (List.mem_append_right _ (List.mem_append_right _ (List.mem_append_left _ h)))))) gw_f_X5_drift)
theorem g_f_X5_balance_f_X5_of_69 : GoodIn v_f_X5_balance (wsV RX5 69 RX5 yX5_of v_f_X5_of) := goodIn_app (goodIn_of _ (by decide +kernel)) (goodIn_sub (fun _ h => List.mem_cons_of_mem _ (List.mem_append_right _ (List.mem_append_right _ (List.mem_append_right _ (List.mem_append_right _ (List.mem_append_right _ (List.mem_append_left _ h))))))) gw_f_X5_of)
theorem g_f_X5_balance_f_X5_put_52 : GoodIn v_f_X5_balance (wsV RX5 52 RX5 yX5_put v_f_X5_put) := goodIn_app (goodIn_of _ (by decide +kernel)) (goodIn_sub (fun _ h => List.mem_cons_of_mem _ (List.mem_append_right _ (List.mem_append_right _ (List.mem_append_right _ (List.mem_append_right _ (List.mem_append_right _ (List.mem_append_right _ (List.mem_append_left _ h)))))))) gw_f_X5_put)
theorem hd_X5_balance : yX5_balance.cls = RX5 ∧ yX5_balance.cls ≠ "java/lang/invoke/MethodHandle" ∧ yX5_balance.cls ≠ "java/lang/invoke/VarHandle" ∧ (parseMethodDescriptor yX5_balance.desc).map (fun d => d.parameters.length) = some 1 := by decide +kernel
set_option maxHeartbeats 4000000 in
set_option maxRecDepth 100000 in
theorem wb_X5_balance_42 {p : Program} (l : Launch) {e : Env} {s : State} {m : MethodId} {below : List Frame} {meth : Method} {c : Code} {Q : State → Prop} (E : EE) (K : Nat) {a_ a_row a_partners a_share a_leftOver : Nat} {p1 : Int32} {c_askedCount : Int32} {c_share : Nat → Int32} {c_leftOver : Nat → Int32} {x2 : Int32} {x3 : Int32} {x4 : Int32} {c_row : Nat → Int32} {c_outcome : Int32} (hx : p.tables.exec = Jvm.exec) (hb : c.code = cX5_balance) (hml : c.maxLocals = 6) (hown : s.vm.findClass RX5 = some m.cls) (hts : ∀ w ∈ v_f_X5_balance, w.before #[Value.ref a_, Value.int p1] s = true) (hK : va_K E.1 vwCl (TY E) s) (hN : NX s) {A : Nat → Prop} (hA : ∀ q : Nat, s.heap.size ≤ q → A q) {xx : (Int32 × (Nat → Int32)) ⊕ ((Nat → Int32))} (hC : ∀ (x4 : Int32), ∀ (c_row : Nat → Int32), xx = .inl (x4, c_row) → ∀ (H : Heap) (locs : List Loc) (ls : Array Slot), va_P E.1 vwCl (w_X5_balance E a_ a_row a_partners a_share a_leftOver c_askedCount c_outcome c_row c_share c_leftOver) H → va_D A (w_X5_balance E a_ a_row a_partners a_share a_leftOver c_askedCount c_outcome c_row c_share c_leftOver) → va_S A s.heap H locs → lv_has ls 6 [(0, .ref a_), (1, .int p1), (2, .int x2), (3, .int x3), (4, .int x4)] → W p l e ({ frames := 1, cells := 0, slots := 0, locals := 23 } : Room) s m #[Value.ref a_, Value.int p1] below meth c H locs 0 0 Q (F0 m 42 ls [])) (hE : ∀ (c_row : Nat → Int32), xx = .inr c_row → ((∀ (H : Heap) (locs : List Loc) (ls : Array Slot), va_P E.1 vwCl (w_X5_balance E a_ a_row a_partners a_share a_leftOver c_askedCount c_outcome c_row c_share c_leftOver) H → va_D A (w_X5_balance E a_ a_row a_partners a_share a_leftOver c_askedCount c_outcome c_row c_share c_leftOver) → va_S A s.heap H locs → lv_has ls 6 [(0, .ref a_), (1, .int p1), (2, .int x2), (3, .int x3)] → W p l e ({ frames := 1, cells := 0, slots := 0, locals := 23 } : Room) s m #[Value.ref a_, Value.int p1] below meth c H locs 0 0 Q (F0 m 92 ls [])))) (hF : B_X5_balance_42 c_share c_leftOver x2 x3 x4 c_row = some xx) : ∀ (H : Heap) (locs : List Loc) (ls : Array Slot), va_P E.1 vwCl (w_X5_balance E a_ a_row a_partners a_share a_leftOver c_askedCount c_outcome c_row c_share c_leftOver) H → va_D A (w_X5_balance E a_ a_row a_partners a_share a_leftOver c_askedCount c_outcome c_row c_share c_leftOver) → va_S A s.heap H locs → lv_has ls 6 [(0, .ref a_), (1, .int p1), (2, .int x2), (3, .int x3), (4, .int x4)] → W p l e ({ frames := 1, cells := 0, slots := 0, locals := 23 } : Room) s m #[Value.ref a_, Value.int p1] below meth c H locs 0 0 Q (F0 m 42 ls []) := by
  unfold B_X5_balance_42 at hF
  intro H locs ls hP hD hS hl
  replace hP : va_P E.1 vwCl [(a_, .inr (6, [.ref a_row, .ref a_partners, .int c_askedCount, .int c_outcome, .ref a_share, .ref a_leftOver])), (a_row, .inl (E.2.1, 81, .inl c_row)), (a_share, .inl (E.2.1, 2, .inl c_share)), (a_leftOver, .inl (E.2.1, 2, .inl c_leftOver))] H := hP
  replace hD : va_D A [(a_, .inr (6, [.ref a_row, .ref a_partners, .int c_askedCount, .int c_outcome, .ref a_share, .ref a_leftOver])), (a_row, .inl (E.2.1, 81, .inl c_row)), (a_share, .inl (E.2.1, 2, .inl c_share)), (a_leftOver, .inl (E.2.1, 2, .inl c_leftOver))] := hD
  refine lv_iload hx hb dX5_balance_42 (lv_at hl 4 rfl) ?_
  refine lv_iconst (v := 2) hx hb dX5_balance_44 (by decide) ?_
  refine lv_icmp_ge (tgt := 92) hx hb dX5_balance_45 (by decide) (fun c_6 => ?_) (fun c_6 => ?_)
  ·
    replace hF := ip c_6 hF
    cases hF
    exact hE c_row rfl H locs ls (hP.sub [0, 1, 2, 3] rfl) (hD.sub [0, 1, 2, 3] (by decide) rfl) hS (lv_sub hl [0, 1, 2, 3] rfl)
  ·
    replace hF := inn c_6 hF
    refine lv_aload_n hx hb dX5_balance_48 rfl (lv_at hl 0 rfl) ?_
    refine lv_iload_n hx hb dX5_balance_49 rfl (lv_at hl 2 rfl) ?_
    refine lv_iload hx hb dX5_balance_50 (lv_at hl 4 rfl) ?_
    replace hF := bd1_s hF
    obtain ⟨r_7, hc_8, hF⟩ := hF
    have hPc : va_P E.1 vwCl (w_X5_shareOf E a_ a_row a_partners a_share a_leftOver c_askedCount c_outcome c_share c_leftOver) H := hP.sub (ws' := [(a_, .inr (6, [.ref a_row, .ref a_partners, .int c_askedCount, .int c_outcome, .ref a_share, .ref a_leftOver])), (a_share, .inl (E.2.1, 2, .inl c_share)), (a_leftOver, .inl (E.2.1, 2, .inl c_leftOver))]) [0, 2, 3] rfl
    have hrc := va_recv hK hPc (ci := 6) (q0 := 0) rfl rfl
    refine pE_i (va_runV (As := [.int x2, .int x4]) (rest := [])  ⟨hx, hb, hml, hown, hts⟩ (f_X5_shareOf l E (a_ := a_) (a_row := a_row) (a_partners := a_partners) (a_share := a_share) (a_leftOver := a_leftOver) (p1 := x2) (p2 := x4) (c_askedCount := c_askedCount) (c_outcome := c_outcome) (c_share := c_share) (c_leftOver := c_leftOver) hc_8) (cwV 2 hts g_f_X5_balance_f_X5_shareOf_168 rfl rfl rfl hd_X5_shareOf ⟨Nat.le_of_ble_eq_true rfl, Nat.le_of_ble_eq_true rfl⟩) ⟨pP.blind, hrc, (pP.pre ⟨hK, hN⟩ hPc)⟩ rfl rfl hl.1 rfl (lv_room (Nat.le_of_ble_eq_true rfl)) dX5_balance_52 ⟨Nat.le_of_ble_eq_true rfl, Nat.le_of_ble_eq_true rfl⟩) ?_
    refine lv_aload_n hx hb dX5_balance_55 rfl (lv_at hl 0 rfl) ?_
    refine lv_iload_n hx hb dX5_balance_56 rfl (lv_at hl 3 rfl) ?_
    refine lv_iload hx hb dX5_balance_57 (lv_at hl 4 rfl) ?_
    replace hF := bd1_s hF
    obtain ⟨r_9, hc_10, hF⟩ := hF
    have hPc : va_P E.1 vwCl (w_X5_drift E a_ a_row a_partners a_share a_leftOver c_askedCount c_outcome c_row) H := hP.sub (ws' := [(a_, .inr (6, [.ref a_row, .ref a_partners, .int c_askedCount, .int c_outcome, .ref a_share, .ref a_leftOver])), (a_row, .inl (E.2.1, 81, .inl c_row))]) [0, 1] rfl
    have hrc := va_recv hK hPc (ci := 6) (q0 := 0) rfl rfl
    refine pE_i (va_runV (As := [.int x3, .int x4]) (rest := [.int r_7])  ⟨hx, hb, hml, hown, hts⟩ (f_X5_drift l E (a_ := a_) (a_row := a_row) (a_partners := a_partners) (a_share := a_share) (a_leftOver := a_leftOver) (p1 := x3) (p2 := x4) (c_askedCount := c_askedCount) (c_outcome := c_outcome) (c_row := c_row) hc_10) (cwV 2 hts g_f_X5_balance_f_X5_drift_72 rfl rfl rfl hd_X5_drift ⟨Nat.le_of_ble_eq_true rfl, Nat.le_of_ble_eq_true rfl⟩) ⟨pP.blind, hrc, (pP.pre ⟨hK, hN⟩ hPc)⟩ rfl rfl hl.1 rfl (lv_room (Nat.le_of_ble_eq_true rfl)) dX5_balance_59 ⟨Nat.le_of_ble_eq_true rfl, Nat.le_of_ble_eq_true rfl⟩) ?_
    refine lv_isub hx hb dX5_balance_62 ?_
    refine lv_istore (lv' := [(5, .int (r_7 - r_9)), (0, .ref a_), (1, .int p1), (2, .int x2), (3, .int x3), (4, .int x4)]) hx hb dX5_balance_63 hl (by decide) rfl (fun ls hl => ?_)
    refine lv_aload_n hx hb dX5_balance_65 rfl (lv_at hl 1 rfl) ?_
    refine lv_iload_n hx hb dX5_balance_66 rfl (lv_at hl 4 rfl) ?_
    refine lv_iconst (v := 4) hx hb dX5_balance_67 (by decide) ?_
    refine lv_iload hx hb dX5_balance_68 (lv_at hl 5 rfl) ?_
    refine lv_iadd hx hb dX5_balance_70 ?_
    refine lv_aload_n hx hb dX5_balance_71 rfl (lv_at hl 1 rfl) ?_
    refine lv_iload_n hx hb dX5_balance_72 rfl (lv_at hl 4 rfl) ?_
    refine lv_iconst (v := 4) hx hb dX5_balance_73 (by decide) ?_
    refine lv_iload hx hb dX5_balance_74 (lv_at hl 5 rfl) ?_
    refine lv_iadd hx hb dX5_balance_76 ?_
    replace hF := bd1_s hF
    obtain ⟨r_11, hc_12, hF⟩ := hF
    have hPc : va_P E.1 vwCl (w_X5_of E a_ a_row a_partners a_share a_leftOver c_askedCount c_outcome c_row) H := hP.sub (ws' := [(a_, .inr (6, [.ref a_row, .ref a_partners, .int c_askedCount, .int c_outcome, .ref a_share, .ref a_leftOver])), (a_row, .inl (E.2.1, 81, .inl c_row))]) [0, 1] rfl
    have hrc := va_recv hK hPc (ci := 6) (q0 := 0) rfl rfl
    refine pE_i (va_runV (As := [.int x3, .int ((4 : Int32) + x4)]) (rest := [.int ((4 : Int32) + x4), .int x3, .ref a_])  ⟨hx, hb, hml, hown, hts⟩ (f_X5_of l E (a_ := a_) (a_row := a_row) (a_partners := a_partners) (a_share := a_share) (a_leftOver := a_leftOver) (p1 := x3) (p2 := (4 : Int32) + x4) (c_askedCount := c_askedCount) (c_outcome := c_outcome) (c_row := c_row) hc_12) (cwV 2 hts g_f_X5_balance_f_X5_of_69 rfl rfl rfl hd_X5_of ⟨Nat.le_of_ble_eq_true rfl, Nat.le_of_ble_eq_true rfl⟩) ⟨pP.blind, hrc, (pP.pre ⟨hK, hN⟩ hPc)⟩ rfl rfl hl.1 rfl (lv_room (Nat.le_of_ble_eq_true rfl)) dX5_balance_77 ⟨Nat.le_of_ble_eq_true rfl, Nat.le_of_ble_eq_true rfl⟩) ?_
    refine lv_iload hx hb dX5_balance_80 (lv_at hl 0 rfl) ?_
    refine lv_iadd hx hb dX5_balance_82 ?_
    replace hF := bd1_s hF
    obtain ⟨w_13, hc_14, hF⟩ := hF
    obtain ⟨hPc, hDc, hFc⟩ := wcut (wc := (w_X5_put E a_ a_row a_partners a_share a_leftOver c_askedCount c_outcome c_row)) hP hD hS hA [0, 1] (by decide) rfl
    have hrc := va_recv hK hPc (ci := 6) (q0 := 0) rfl rfl
    refine cE_v (wc := (w_X5_put E a_ a_row a_partners a_share a_leftOver c_askedCount c_outcome c_row)) (wr := [(a_share, .inl (E.2.1, 2, .inl c_share)), (a_leftOver, .inl (E.2.1, 2, .inl c_leftOver))]) (w1 := (w_X5_put E a_ a_row a_partners a_share a_leftOver c_askedCount c_outcome w_13)) (va_runV (As := [.int x3, .int ((4 : Int32) + x4), .int (r_11 + (r_7 - r_9))]) (rest := [])  ⟨hx, hb, hml, hown, hts⟩ (f_X5_put l E H.size (a_ := a_) (a_row := a_row) (a_partners := a_partners) (a_share := a_share) (a_leftOver := a_leftOver) (p1 := x3) (p2 := (4 : Int32) + x4) (p3 := r_11 + (r_7 - r_9)) (c_askedCount := c_askedCount) (c_outcome := c_outcome) (c_row := c_row) hc_14) (cwV 3 hts g_f_X5_balance_f_X5_put_52 rfl rfl rfl hd_X5_put ⟨Nat.le_of_ble_eq_true rfl, Nat.le_of_ble_eq_true rfl⟩) ⟨pW.blind, hrc, (pW.pre ⟨hK, hN⟩ hPc hDc)⟩ rfl rfl hl.1 rfl (lv_room (Nat.le_of_ble_eq_true rfl)) dX5_balance_83 ⟨Nat.le_of_ble_eq_true rfl, Nat.le_of_ble_eq_true rfl⟩) hS hFc hP hD [0, 1] [2, 3] rfl rfl (by decide) (by decide) (fun H locs hP hD hS => ?_)
    replace hP : va_P E.1 vwCl [(a_share, .inl (E.2.1, 2, .inl c_share)), (a_leftOver, .inl (E.2.1, 2, .inl c_leftOver)), (a_, .inr (6, [.ref a_row, .ref a_partners, .int c_askedCount, .int c_outcome, .ref a_share, .ref a_leftOver])), (a_row, .inl (E.2.1, 81, .inl w_13))] H := hP
    replace hD : va_D A [(a_share, .inl (E.2.1, 2, .inl c_share)), (a_leftOver, .inl (E.2.1, 2, .inl c_leftOver)), (a_, .inr (6, [.ref a_row, .ref a_partners, .int c_askedCount, .int c_outcome, .ref a_share, .ref a_leftOver])), (a_row, .inl (E.2.1, 81, .inl w_13))] := hD
    refine lv_iinc (v := x4 + (1 : Int32)) (lv' := [(4, .int (x4 + (1 : Int32))), (5, .int (r_7 - r_9)), (0, .ref a_), (1, .int p1), (2, .int x2), (3, .int x3)]) hx hb dX5_balance_86 hl (k := 5) rfl (rfl) (by decide) rfl (fun ls hl => ?_)
    refine lv_goto (tgt := 42) hx hb dX5_balance_89 (by decide) ?_
    cases hF
    exact hC (x4 + (1 : Int32)) w_13 rfl H locs ls (hP.sub [2, 3, 0, 1] rfl) (hD.sub [2, 3, 0, 1] (by decide) rfl) hS (lv_sub hl [2, 3, 4, 5, 0] rfl)

set_option maxHeartbeats 4000000 in
set_option maxRecDepth 100000 in
theorem lw_X5_balance_42 {p : Program} (l : Launch) {e : Env} {s : State} {m : MethodId} {below : List Frame} {meth : Method} {c : Code} {Q : State → Prop} (E : EE) (K : Nat) {a_ a_row a_partners a_share a_leftOver : Nat} {p1 : Int32} {c_askedCount : Int32} {c_share : Nat → Int32} {c_leftOver : Nat → Int32} {x2 : Int32} {x3 : Int32} {c_outcome : Int32} (hx : p.tables.exec = Jvm.exec) (hb : c.code = cX5_balance) (hml : c.maxLocals = 6) (hown : s.vm.findClass RX5 = some m.cls) (hts : ∀ w ∈ v_f_X5_balance, w.before #[Value.ref a_, Value.int p1] s = true) (hK : va_K E.1 vwCl (TY E) s) (hN : NX s) {A : Nat → Prop} (hA : ∀ q : Nat, s.heap.size ≤ q → A q) (j9 : Nat) (x4 : Int32) (c_row : Nat → Int32) (c_row' : Nat → Int32) (hL : lpF (fun u9 : Int32 × (Nat → Int32) => B_X5_balance_42 c_share c_leftOver x2 x3 u9.1 u9.2) j9 (x4, c_row) = some c_row') (hX : (∀ (H : Heap) (locs : List Loc) (ls : Array Slot), va_P E.1 vwCl (w_X5_balance E a_ a_row a_partners a_share a_leftOver c_askedCount c_outcome c_row' c_share c_leftOver) H → va_D A (w_X5_balance E a_ a_row a_partners a_share a_leftOver c_askedCount c_outcome c_row' c_share c_leftOver) → va_S A s.heap H locs → lv_has ls 6 [(0, .ref a_), (1, .int p1), (2, .int x2), (3, .int x3)] → W p l e ({ frames := 1, cells := 0, slots := 0, locals := 23 } : Room) s m #[Value.ref a_, Value.int p1] below meth c H locs 0 0 Q (F0 m 92 ls []))) : ∀ (H : Heap) (locs : List Loc) (ls : Array Slot), va_P E.1 vwCl (w_X5_balance E a_ a_row a_partners a_share a_leftOver c_askedCount c_outcome c_row c_share c_leftOver) H → va_D A (w_X5_balance E a_ a_row a_partners a_share a_leftOver c_askedCount c_outcome c_row c_share c_leftOver) → va_S A s.heap H locs → lv_has ls 6 [(0, .ref a_), (1, .int p1), (2, .int x2), (3, .int x3), (4, .int x4)] → W p l e ({ frames := 1, cells := 0, slots := 0, locals := 23 } : Room) s m #[Value.ref a_, Value.int p1] below meth c H locs 0 0 Q (F0 m 42 ls []) := by
  exact lp_rule (P := (fun u9 : Int32 × (Nat → Int32) => ∀ (H : Heap) (locs : List Loc) (ls : Array Slot), va_P E.1 vwCl (w_X5_balance E a_ a_row a_partners a_share a_leftOver c_askedCount c_outcome u9.2 c_share c_leftOver) H → va_D A (w_X5_balance E a_ a_row a_partners a_share a_leftOver c_askedCount c_outcome u9.2 c_share c_leftOver) → va_S A s.heap H locs → lv_has ls 6 [(0, .ref a_), (1, .int p1), (2, .int x2), (3, .int x3), (4, .int u9.1)] → W p l e ({ frames := 1, cells := 0, slots := 0, locals := 23 } : Room) s m #[Value.ref a_, Value.int p1] below meth c H locs 0 0 Q (F0 m 42 ls []))) (R := (fun r9 : (Nat → Int32) => (∀ (H : Heap) (locs : List Loc) (ls : Array Slot), va_P E.1 vwCl (w_X5_balance E a_ a_row a_partners a_share a_leftOver c_askedCount c_outcome r9 c_share c_leftOver) H → va_D A (w_X5_balance E a_ a_row a_partners a_share a_leftOver c_askedCount c_outcome r9 c_share c_leftOver) → va_S A s.heap H locs → lv_has ls 6 [(0, .ref a_), (1, .int p1), (2, .int x2), (3, .int x3)] → W p l e ({ frames := 1, cells := 0, slots := 0, locals := 23 } : Room) s m #[Value.ref a_, Value.int p1] below meth c H locs 0 0 Q (F0 m 92 ls [])))) (fun u9 xx hF hC hE => wb_X5_balance_42 l E K (p1 := p1) (c_askedCount := c_askedCount) (c_share := c_share) (c_leftOver := c_leftOver) (x2 := x2) (x3 := x3) (x4 := u9.1) (c_row := u9.2) (c_outcome := c_outcome) hx hb hml hown hts hK hN hA (fun x4 c_row q9 => hC _ q9) (fun c_row q9 => hE _ q9) hF) j9 (x4, c_row) c_row' hL hX

set_option maxHeartbeats 4000000 in
set_option maxRecDepth 100000 in
theorem wb_X5_balance_20 {p : Program} (l : Launch) {e : Env} {s : State} {m : MethodId} {below : List Frame} {meth : Method} {c : Code} {Q : State → Prop} (E : EE) (K : Nat) {a_ a_row a_partners a_share a_leftOver : Nat} {p1 : Int32} {c_askedCount : Int32} {c_share : Nat → Int32} {c_leftOver : Nat → Int32} {x2 : Int32} {x3 : Int32} {c_row : Nat → Int32} {c_outcome : Int32} (hx : p.tables.exec = Jvm.exec) (hb : c.code = cX5_balance) (hml : c.maxLocals = 6) (hown : s.vm.findClass RX5 = some m.cls) (hts : ∀ w ∈ v_f_X5_balance, w.before #[Value.ref a_, Value.int p1] s = true) (hK : va_K E.1 vwCl (TY E) s) (hN : NX s) {A : Nat → Prop} (hA : ∀ q : Nat, s.heap.size ≤ q → A q) {xx : (Int32 × Int32 × (Nat → Int32)) ⊕ (Int32 × (Nat → Int32))} (hC : ∀ (x2 : Int32), ∀ (x3 : Int32), ∀ (c_row : Nat → Int32), xx = .inl (x2, x3, c_row) → ∀ (H : Heap) (locs : List Loc) (ls : Array Slot), va_P E.1 vwCl (w_X5_balance E a_ a_row a_partners a_share a_leftOver c_askedCount c_outcome c_row c_share c_leftOver) H → va_D A (w_X5_balance E a_ a_row a_partners a_share a_leftOver c_askedCount c_outcome c_row c_share c_leftOver) → va_S A s.heap H locs → lv_has ls 6 [(0, .ref a_), (1, .int p1), (2, .int x2), (3, .int x3)] → W p l e ({ frames := 1, cells := 0, slots := 0, locals := 23 } : Room) s m #[Value.ref a_, Value.int p1] below meth c H locs 0 0 Q (F0 m 20 ls [])) (hE : ∀ (x2 : Int32), ∀ (c_row : Nat → Int32), xx = .inr (x2, c_row) → ((∀ (H : Heap) (locs : List Loc) (ls : Array Slot), va_P E.1 vwCl (w_X5_balance E a_ a_row a_partners a_share a_leftOver c_askedCount c_outcome c_row c_share c_leftOver) H → va_D A (w_X5_balance E a_ a_row a_partners a_share a_leftOver c_askedCount c_outcome c_row c_share c_leftOver) → va_S A s.heap H locs → lv_has ls 6 [(0, .ref a_), (2, .int x2)] → W p l e ({ frames := 1, cells := 0, slots := 0, locals := 23 } : Room) s m #[Value.ref a_, Value.int p1] below meth c H locs 0 0 Q (F0 m 101 ls [])))) (hF : B_X5_balance_20 K p1 c_share c_leftOver x2 x3 c_row = some xx) : ∀ (H : Heap) (locs : List Loc) (ls : Array Slot), va_P E.1 vwCl (w_X5_balance E a_ a_row a_partners a_share a_leftOver c_askedCount c_outcome c_row c_share c_leftOver) H → va_D A (w_X5_balance E a_ a_row a_partners a_share a_leftOver c_askedCount c_outcome c_row c_share c_leftOver) → va_S A s.heap H locs → lv_has ls 6 [(0, .ref a_), (1, .int p1), (2, .int x2), (3, .int x3)] → W p l e ({ frames := 1, cells := 0, slots := 0, locals := 23 } : Room) s m #[Value.ref a_, Value.int p1] below meth c H locs 0 0 Q (F0 m 20 ls []) := by
  unfold B_X5_balance_20 at hF
  intro H locs ls hP hD hS hl
  replace hP : va_P E.1 vwCl [(a_, .inr (6, [.ref a_row, .ref a_partners, .int c_askedCount, .int c_outcome, .ref a_share, .ref a_leftOver])), (a_row, .inl (E.2.1, 81, .inl c_row)), (a_share, .inl (E.2.1, 2, .inl c_share)), (a_leftOver, .inl (E.2.1, 2, .inl c_leftOver))] H := hP
  replace hD : va_D A [(a_, .inr (6, [.ref a_row, .ref a_partners, .int c_askedCount, .int c_outcome, .ref a_share, .ref a_leftOver])), (a_row, .inl (E.2.1, 81, .inl c_row)), (a_share, .inl (E.2.1, 2, .inl c_share)), (a_leftOver, .inl (E.2.1, 2, .inl c_leftOver))] := hD
  refine lv_iload_n hx hb dX5_balance_20 rfl (lv_at hl 3 rfl) ?_
  refine lv_aload_n hx hb dX5_balance_21 rfl (lv_at hl 0 rfl) ?_
  replace hF := bd1_s hF
  obtain ⟨r_2, hc_3, hF⟩ := hF
  have hPc : va_P E.1 vwCl (w_X5_sites E a_ a_row a_partners a_share a_leftOver c_askedCount c_outcome c_row) H := hP.sub (ws' := [(a_, .inr (6, [.ref a_row, .ref a_partners, .int c_askedCount, .int c_outcome, .ref a_share, .ref a_leftOver])), (a_row, .inl (E.2.1, 81, .inl c_row))]) [0, 1] rfl
  have hrc := va_recv hK hPc (ci := 6) (q0 := 0) rfl rfl
  refine pE_i (va_runV (As := []) (rest := [.int x3])  ⟨hx, hb, hml, hown, hts⟩ (f_X5_sites l E (a_ := a_) (a_row := a_row) (a_partners := a_partners) (a_share := a_share) (a_leftOver := a_leftOver) (c_askedCount := c_askedCount) (c_outcome := c_outcome) (c_row := c_row) hc_3) (cwV 0 hts g_f_X5_balance_f_X5_sites_45 rfl rfl rfl hd_X5_sites ⟨Nat.le_of_ble_eq_true rfl, Nat.le_of_ble_eq_true rfl⟩) ⟨pP.blind, hrc, (pP.pre ⟨hK, hN⟩ hPc)⟩ rfl rfl hl.1 rfl (lv_room (Nat.le_of_ble_eq_true rfl)) dX5_balance_22 ⟨Nat.le_of_ble_eq_true rfl, Nat.le_of_ble_eq_true rfl⟩) ?_
  refine lv_icmp_ge (tgt := 101) hx hb dX5_balance_25 (by decide) (fun c_4 => ?_) (fun c_4 => ?_)
  ·
    replace hF := ip c_4 hF
    cases hF
    exact hE x2 c_row rfl H locs ls (hP.sub [0, 1, 2, 3] rfl) (hD.sub [0, 1, 2, 3] (by decide) rfl) hS (lv_sub hl [0, 2] rfl)
  ·
    replace hF := inn c_4 hF
    refine lv_iload_n hx hb dX5_balance_28 rfl (lv_at hl 1 rfl) ?_
    refine lv_iload_n hx hb dX5_balance_29 rfl (lv_at hl 3 rfl) ?_
    refine lv_ishr hx hb dX5_balance_30 ?_
    refine lv_iconst (v := 1) hx hb dX5_balance_31 (by decide) ?_
    refine lv_iand hx hb dX5_balance_32 ?_
    refine lv_if_ne (tgt := 39) hx hb dX5_balance_33 (by decide) (fun c_5 => ?_) (fun c_5 => ?_)
    ·
      replace hF := inn c_5 hF
      refine lv_iconst (v := 0) hx hb dX5_balance_39 (by decide) ?_
      refine lv_istore (lv' := [(4, .int (0 : Int32)), (0, .ref a_), (1, .int p1), (2, .int x2), (3, .int x3)]) hx hb dX5_balance_40 hl (by decide) rfl (fun ls hl => ?_)
      replace hF := bd1_s hF
      obtain ⟨c_row_15, hL_16, hF⟩ := hF
      refine lw_X5_balance_42 l E K (p1 := p1) (c_askedCount := c_askedCount) (c_share := c_share) (c_leftOver := c_leftOver) (x2 := x2) (x3 := x3) (c_outcome := c_outcome) hx hb hml hown hts hK hN hA K (0 : Int32) c_row c_row_15 hL_16 ?_ H locs ls (hP.sub [0, 1, 2, 3] rfl) (hD.sub [0, 1, 2, 3] (by decide) rfl) hS (lv_sub hl [1, 2, 3, 4, 0] rfl)
      ·
        intro H locs ls hP hD hS hl
        replace hP : va_P E.1 vwCl [(a_, .inr (6, [.ref a_row, .ref a_partners, .int c_askedCount, .int c_outcome, .ref a_share, .ref a_leftOver])), (a_row, .inl (E.2.1, 81, .inl c_row_15)), (a_share, .inl (E.2.1, 2, .inl c_share)), (a_leftOver, .inl (E.2.1, 2, .inl c_leftOver))] H := hP
        replace hD : va_D A [(a_, .inr (6, [.ref a_row, .ref a_partners, .int c_askedCount, .int c_outcome, .ref a_share, .ref a_leftOver])), (a_row, .inl (E.2.1, 81, .inl c_row_15)), (a_share, .inl (E.2.1, 2, .inl c_share)), (a_leftOver, .inl (E.2.1, 2, .inl c_leftOver))] := hD
        refine lv_iinc (v := x2 + (1 : Int32)) (lv' := [(2, .int (x2 + (1 : Int32))), (0, .ref a_), (1, .int p1), (3, .int x3)]) hx hb dX5_balance_92 hl (k := 2) rfl (rfl) (by decide) rfl (fun ls hl => ?_)
        refine lv_iinc (v := x3 + (1 : Int32)) (lv' := [(3, .int (x3 + (1 : Int32))), (2, .int (x2 + (1 : Int32))), (0, .ref a_), (1, .int p1)]) hx hb dX5_balance_95 hl (k := 3) rfl (rfl) (by decide) rfl (fun ls hl => ?_)
        refine lv_goto (tgt := 20) hx hb dX5_balance_98 (by decide) ?_
        cases hF
        exact hC (x2 + (1 : Int32)) (x3 + (1 : Int32)) c_row_15 rfl H locs ls (hP.sub [0, 1, 2, 3] rfl) (hD.sub [0, 1, 2, 3] (by decide) rfl) hS (lv_sub hl [2, 3, 1, 0] rfl)
    ·
      replace hF := ip c_5 hF
      refine lv_goto (tgt := 95) hx hb dX5_balance_36 (by decide) ?_
      refine lv_iinc (v := x3 + (1 : Int32)) (lv' := [(3, .int (x3 + (1 : Int32))), (0, .ref a_), (1, .int p1), (2, .int x2)]) hx hb dX5_balance_95 hl (k := 3) rfl (rfl) (by decide) rfl (fun ls hl => ?_)
      refine lv_goto (tgt := 20) hx hb dX5_balance_98 (by decide) ?_
      cases hF
      exact hC x2 (x3 + (1 : Int32)) c_row rfl H locs ls (hP.sub [0, 1, 2, 3] rfl) (hD.sub [0, 1, 2, 3] (by decide) rfl) hS (lv_sub hl [1, 2, 3, 0] rfl)

set_option maxHeartbeats 4000000 in
set_option maxRecDepth 100000 in
theorem lw_X5_balance_20 {p : Program} (l : Launch) {e : Env} {s : State} {m : MethodId} {below : List Frame} {meth : Method} {c : Code} {Q : State → Prop} (E : EE) (K : Nat) {a_ a_row a_partners a_share a_leftOver : Nat} {p1 : Int32} {c_askedCount : Int32} {c_share : Nat → Int32} {c_leftOver : Nat → Int32} {c_outcome : Int32} (hx : p.tables.exec = Jvm.exec) (hb : c.code = cX5_balance) (hml : c.maxLocals = 6) (hown : s.vm.findClass RX5 = some m.cls) (hts : ∀ w ∈ v_f_X5_balance, w.before #[Value.ref a_, Value.int p1] s = true) (hK : va_K E.1 vwCl (TY E) s) (hN : NX s) {A : Nat → Prop} (hA : ∀ q : Nat, s.heap.size ≤ q → A q) (j9 : Nat) (x2 : Int32) (x3 : Int32) (c_row : Nat → Int32) (x2' : Int32) (c_row' : Nat → Int32) (hL : lpF (fun u9 : Int32 × Int32 × (Nat → Int32) => B_X5_balance_20 K p1 c_share c_leftOver u9.1 u9.2.1 u9.2.2) j9 (x2, x3, c_row) = some (x2', c_row')) (hX : (∀ (H : Heap) (locs : List Loc) (ls : Array Slot), va_P E.1 vwCl (w_X5_balance E a_ a_row a_partners a_share a_leftOver c_askedCount c_outcome c_row' c_share c_leftOver) H → va_D A (w_X5_balance E a_ a_row a_partners a_share a_leftOver c_askedCount c_outcome c_row' c_share c_leftOver) → va_S A s.heap H locs → lv_has ls 6 [(0, .ref a_), (2, .int x2')] → W p l e ({ frames := 1, cells := 0, slots := 0, locals := 23 } : Room) s m #[Value.ref a_, Value.int p1] below meth c H locs 0 0 Q (F0 m 101 ls []))) : ∀ (H : Heap) (locs : List Loc) (ls : Array Slot), va_P E.1 vwCl (w_X5_balance E a_ a_row a_partners a_share a_leftOver c_askedCount c_outcome c_row c_share c_leftOver) H → va_D A (w_X5_balance E a_ a_row a_partners a_share a_leftOver c_askedCount c_outcome c_row c_share c_leftOver) → va_S A s.heap H locs → lv_has ls 6 [(0, .ref a_), (1, .int p1), (2, .int x2), (3, .int x3)] → W p l e ({ frames := 1, cells := 0, slots := 0, locals := 23 } : Room) s m #[Value.ref a_, Value.int p1] below meth c H locs 0 0 Q (F0 m 20 ls []) := by
  exact lp_rule (P := (fun u9 : Int32 × Int32 × (Nat → Int32) => ∀ (H : Heap) (locs : List Loc) (ls : Array Slot), va_P E.1 vwCl (w_X5_balance E a_ a_row a_partners a_share a_leftOver c_askedCount c_outcome u9.2.2 c_share c_leftOver) H → va_D A (w_X5_balance E a_ a_row a_partners a_share a_leftOver c_askedCount c_outcome u9.2.2 c_share c_leftOver) → va_S A s.heap H locs → lv_has ls 6 [(0, .ref a_), (1, .int p1), (2, .int u9.1), (3, .int u9.2.1)] → W p l e ({ frames := 1, cells := 0, slots := 0, locals := 23 } : Room) s m #[Value.ref a_, Value.int p1] below meth c H locs 0 0 Q (F0 m 20 ls []))) (R := (fun r9 : Int32 × (Nat → Int32) => (∀ (H : Heap) (locs : List Loc) (ls : Array Slot), va_P E.1 vwCl (w_X5_balance E a_ a_row a_partners a_share a_leftOver c_askedCount c_outcome r9.2 c_share c_leftOver) H → va_D A (w_X5_balance E a_ a_row a_partners a_share a_leftOver c_askedCount c_outcome r9.2 c_share c_leftOver) → va_S A s.heap H locs → lv_has ls 6 [(0, .ref a_), (2, .int r9.1)] → W p l e ({ frames := 1, cells := 0, slots := 0, locals := 23 } : Room) s m #[Value.ref a_, Value.int p1] below meth c H locs 0 0 Q (F0 m 101 ls [])))) (fun u9 xx hF hC hE => wb_X5_balance_20 l E K (p1 := p1) (c_askedCount := c_askedCount) (c_share := c_share) (c_leftOver := c_leftOver) (x2 := u9.1) (x3 := u9.2.1) (c_row := u9.2.2) (c_outcome := c_outcome) hx hb hml hown hts hK hN hA (fun x2 x3 c_row q9 => hC _ q9) (fun x2 c_row q9 => hE _ q9) hF) j9 (x2, x3, c_row) (x2', c_row') hL hX

set_option maxHeartbeats 4000000 in
set_option maxRecDepth 100000 in
theorem f_X5_balance (l : Launch) (E : EE) (sz : Nat) (K : Nat) {a_ a_row a_partners a_share a_leftOver : Nat} {p1 : Int32} {c_askedCount : Int32} {c_outcome : Int32} {c_row : Nat → Int32} {c_share : Nat → Int32} {c_leftOver : Nat → Int32} {rr : Int32} {n_row : Nat → Int32} {n_outcome : Int32} (hF : F_X5_balance K p1 c_row c_askedCount c_outcome c_share c_leftOver = some (rr, n_row, n_outcome)) : Met l yX5_balance v_f_X5_balance (({ frames := 1, cells := 0, slots := 0, locals := 23 } : Room)) (va_Pc [.ref a_, .int p1] (pW E sz (w_X5_balance E a_ a_row a_partners a_share a_leftOver c_askedCount c_outcome c_row c_share c_leftOver))) (va_Qi (fun (q : Int32) (_u : Unit) => q = rr) (fun (_u : Unit) tt => va_P E.1 vwCl (w_X5_balance E a_ a_row a_partners a_share a_leftOver c_askedCount n_outcome n_row c_share c_leftOver) tt.heap ∧ va_D (va_A (w_X5_balance E a_ a_row a_partners a_share a_leftOver c_askedCount c_outcome c_row c_share c_leftOver) sz) (w_X5_balance E a_ a_row a_partners a_share a_leftOver c_askedCount n_outcome n_row c_share c_leftOver)) (va_A (w_X5_balance E a_ a_row a_partners a_share a_leftOver c_askedCount c_outcome c_row c_share c_leftOver) sz)) 0 0 (va_A (w_X5_balance E a_ a_row a_partners a_share a_leftOver c_askedCount c_outcome c_row c_share c_leftOver) sz) := by
  refine Met.ofW (cc := cX5_balance) (maxL := 6) (ret := (some .int)) (by decide) rfl ?_
  intro p e s m args below meth c s₁ B hml hv
  obtain ⟨rfl, hsz, ⟨hK, hN⟩, hP, hD0⟩ := hv
  have hx := B.exec
  have hb := B.bytes
  have hr := B.returns
  have hts := atoms_spec (ws := v_f_X5_balance) B.pre
  have hown : s.vm.findClass RX5 = some m.cls := own_of hd_X5_balance.1 (findClass_of_methodNamed B.named)
  have hlocks : meth.locks = false := B.notSynchronized
  subst hsz
  have hD := hD0.self (sz := s.heap.size)
  generalize hAe : va_A (w_X5_balance E a_ a_row a_partners a_share a_leftOver c_askedCount c_outcome c_row c_share c_leftOver) s.heap.size = A at hD ⊢
  have hA : ∀ q : Nat, s.heap.size ≤ q → A q := fun q h => by rw [← hAe]; exact Or.inr h
  have hS : va_S A s.heap s.heap [] := va_S.rf
  have hl := lv_entry ([.ref a_, .int p1]) (n := 6) (Nat.le_of_ble_eq_true rfl)
  rw [lg_entry_eq]
  generalize (lg_sl ([.ref a_, .int p1]) ++ List.replicate (6 - (lg_sl ([.ref a_, .int p1])).length) Slot.unset).toArray = ls at hl ⊢
  have hl : lv_has ls 6 [(0, .ref a_), (1, .int p1)] := hl
  obtain ⟨Q, hQ⟩ : ∃ Q : State → Prop, Q = MQ below (va_Qi (fun (q : Int32) (_u : Unit) => q = rr) (fun (_u : Unit) tt => va_P E.1 vwCl (w_X5_balance E a_ a_row a_partners a_share a_leftOver c_askedCount n_outcome n_row c_share c_leftOver) tt.heap ∧ va_D A (w_X5_balance E a_ a_row a_partners a_share a_leftOver c_askedCount n_outcome n_row c_share c_leftOver)) A) #[Value.ref a_, Value.int p1] s 0 0 A := ⟨_, rfl⟩
  rw [← hQ]
  change W p l e ({ frames := 1, cells := 0, slots := 0, locals := 23 } : Room) s m #[Value.ref a_, Value.int p1] below meth c s.heap [] 0 0 Q (F0 m 0 ls [])
  suffices hh9 : ∀ (H : Heap) (locs : List Loc), va_P E.1 vwCl (w_X5_balance E a_ a_row a_partners a_share a_leftOver c_askedCount c_outcome c_row c_share c_leftOver) H → va_D A (w_X5_balance E a_ a_row a_partners a_share a_leftOver c_askedCount c_outcome c_row c_share c_leftOver) → va_S A s.heap H locs → W p l e ({ frames := 1, cells := 0, slots := 0, locals := 23 } : Room) s m #[Value.ref a_, Value.int p1] below meth c H locs 0 0 Q (F0 m 0 ls []) from hh9 s.heap [] hP hD hS
  clear hP hD hS
  intro H locs hP hD hS
  replace hP : va_P E.1 vwCl [(a_, .inr (6, [.ref a_row, .ref a_partners, .int c_askedCount, .int c_outcome, .ref a_share, .ref a_leftOver])), (a_row, .inl (E.2.1, 81, .inl c_row)), (a_share, .inl (E.2.1, 2, .inl c_share)), (a_leftOver, .inl (E.2.1, 2, .inl c_leftOver))] H := hP
  replace hD : va_D A [(a_, .inr (6, [.ref a_row, .ref a_partners, .int c_askedCount, .int c_outcome, .ref a_share, .ref a_leftOver])), (a_row, .inl (E.2.1, 81, .inl c_row)), (a_share, .inl (E.2.1, 2, .inl c_share)), (a_leftOver, .inl (E.2.1, 2, .inl c_leftOver))] := hD
  unfold F_X5_balance at hF
  refine lv_aload_n hx hb dX5_balance_0 rfl (lv_at hl 0 rfl) ?_
  refine gt_X5_0 (v := .ref a_row) hx hb hts i_f_X5_balance_X5 hown hK hP 0 rfl (hts (.fieldLink RX5 11 "HushWatch$State" "row" "[I") (List.mem_of_getElem? (i := 1) rfl)) rfl dX5_balance_1 ?_
  refine lv_bipush (v := 13) hx hb dX5_balance_4 (by decide) ?_
  refine lv_dup2_11 hx hb dX5_balance_6 rfl rfl ?_
  refine va_iald hx hb hK hP 1 0 rfl rfl (vin rfl) dX5_balance_7 ?_
  refine W.eq (g2 := F0 m 8 ls [.int (c_row 13), .int (13 : Int32), .ref a_row]) rfl ?_
  refine lv_iconst (v := 1) hx hb dX5_balance_8 (by decide) ?_
  refine lv_iadd hx hb dX5_balance_9 ?_
  refine va_iast hx hb hK hP hD hS 1 0 rfl rfl (vin rfl) dX5_balance_10 (fun H locs hP hD hS => ?_)
  replace hP : va_P E.1 vwCl [(a_, .inr (6, [.ref a_row, .ref a_partners, .int c_askedCount, .int c_outcome, .ref a_share, .ref a_leftOver])), (a_row, .inl (E.2.1, 81, .inl (upd c_row 13 ((c_row 13) + (1 : Int32))))), (a_share, .inl (E.2.1, 2, .inl c_share)), (a_leftOver, .inl (E.2.1, 2, .inl c_leftOver))] H := hP
  replace hD : va_D A [(a_, .inr (6, [.ref a_row, .ref a_partners, .int c_askedCount, .int c_outcome, .ref a_share, .ref a_leftOver])), (a_row, .inl (E.2.1, 81, .inl (upd c_row 13 ((c_row 13) + (1 : Int32))))), (a_share, .inl (E.2.1, 2, .inl c_share)), (a_leftOver, .inl (E.2.1, 2, .inl c_leftOver))] := hD
  replace hF := nm_s hF
  obtain ⟨f_1, hf_1, hF⟩ := hF
  rw [← hf_1] at hP hD
  refine lv_aload_n hx hb dX5_balance_11 rfl (lv_at hl 0 rfl) ?_
  refine lv_iconst (v := 1) hx hb dX5_balance_12 (by decide) ?_
  refine pt_X5_3 (v := .int (1 : Int32)) hx hb hts i_f_X5_balance_X5 hown hK hP hD hS 0 rfl (hts (.fieldLink RX5 22 "HushWatch$State" "outcome" "I") (List.mem_of_getElem? (i := 2) rfl)) rfl rfl (Nat.le_of_ble_eq_true rfl) dX5_balance_13 (fun H locs hP hD hS => ?_)
  replace hP : va_P E.1 vwCl [(a_, .inr (6, [.ref a_row, .ref a_partners, .int c_askedCount, .int (1 : Int32), .ref a_share, .ref a_leftOver])), (a_row, .inl (E.2.1, 81, .inl f_1)), (a_share, .inl (E.2.1, 2, .inl c_share)), (a_leftOver, .inl (E.2.1, 2, .inl c_leftOver))] H := hP
  replace hD : va_D A [(a_, .inr (6, [.ref a_row, .ref a_partners, .int c_askedCount, .int (1 : Int32), .ref a_share, .ref a_leftOver])), (a_row, .inl (E.2.1, 81, .inl f_1)), (a_share, .inl (E.2.1, 2, .inl c_share)), (a_leftOver, .inl (E.2.1, 2, .inl c_leftOver))] := hD
  refine lv_iconst (v := 0) hx hb dX5_balance_16 (by decide) ?_
  refine lv_istore_n (lv' := [(2, .int (0 : Int32)), (0, .ref a_), (1, .int p1)]) hx hb dX5_balance_17 rfl hl (by decide) rfl (fun ls hl => ?_)
  refine lv_iconst (v := 0) hx hb dX5_balance_18 (by decide) ?_
  refine lv_istore_n (lv' := [(3, .int (0 : Int32)), (2, .int (0 : Int32)), (0, .ref a_), (1, .int p1)]) hx hb dX5_balance_19 rfl hl (by decide) rfl (fun ls hl => ?_)
  replace hF := bd2_s hF
  obtain ⟨x2_17, c_row_18, hL_19, hF⟩ := hF
  refine lw_X5_balance_20 l E K (p1 := p1) (c_askedCount := c_askedCount) (c_share := c_share) (c_leftOver := c_leftOver) (c_outcome := (1 : Int32)) hx hb hml hown hts hK hN hA K (0 : Int32) (0 : Int32) f_1 x2_17 c_row_18 hL_19 ?_ H locs ls (hP.sub [0, 1, 2, 3] rfl) (hD.sub [0, 1, 2, 3] (by decide) rfl) hS (lv_sub hl [2, 3, 1, 0] rfl)
  ·
    intro H locs ls hP hD hS hl
    replace hP : va_P E.1 vwCl [(a_, .inr (6, [.ref a_row, .ref a_partners, .int c_askedCount, .int (1 : Int32), .ref a_share, .ref a_leftOver])), (a_row, .inl (E.2.1, 81, .inl c_row_18)), (a_share, .inl (E.2.1, 2, .inl c_share)), (a_leftOver, .inl (E.2.1, 2, .inl c_leftOver))] H := hP
    replace hD : va_D A [(a_, .inr (6, [.ref a_row, .ref a_partners, .int c_askedCount, .int (1 : Int32), .ref a_share, .ref a_leftOver])), (a_row, .inl (E.2.1, 81, .inl c_row_18)), (a_share, .inl (E.2.1, 2, .inl c_share)), (a_leftOver, .inl (E.2.1, 2, .inl c_leftOver))] := hD
    refine lv_iconst (v := 1) hx hb dX5_balance_101 (by decide) ?_
    refine lv_iconst (v := 2) hx hb dX5_balance_102 (by decide) ?_
    refine lv_aload_n hx hb dX5_balance_103 rfl (lv_at hl 0 rfl) ?_
    refine gt_X5_2 (v := .int c_askedCount) hx hb hts i_f_X5_balance_X5 hown hK hP 0 rfl (hts (.fieldLink RX5 18 "HushWatch$State" "askedCount" "I") (List.mem_of_getElem? (i := 3) rfl)) rfl dX5_balance_104 ?_
    refine lv_imul hx hb dX5_balance_107 ?_
    refine lv_iadd hx hb dX5_balance_108 ?_
    refine lv_iload_n hx hb dX5_balance_109 rfl (lv_at hl 1 rfl) ?_
    refine lv_iadd hx hb dX5_balance_110 ?_
    rw [hQ]
    have h9 := fin9 (P := fun u9 : Int32 × (Nat → Int32) × Int32 => (((1 : Int32) + ((2 : Int32) * c_askedCount)) + x2_17) = u9.1 ∧ va_P E.1 vwCl (w_X5_balance E a_ a_row a_partners a_share a_leftOver c_askedCount u9.2.2 u9.2.1 c_share c_leftOver) H ∧ va_D A (w_X5_balance E a_ a_row a_partners a_share a_leftOver c_askedCount u9.2.2 u9.2.1 c_share c_leftOver)) hF ⟨rfl, hP, hD⟩
    obtain ⟨e9_0, hP9, hD9⟩ := h9
    exact W.iret (v := ((1 : Int32) + ((2 : Int32) * c_askedCount)) + x2_17) hx hb hr (fun tt ht hW => ⟨⟨_, (), rfl, e9_0, ht ▸ hP9, hD9⟩, hS.F ht⟩) hS.2.2 dX5_balance_111

def B_X5_hearPlaces_16 (x1 : Int32) (c_row : Nat → Int32) : Option ((Int32 × (Nat → Int32)) ⊕ ((Nat → Int32))) :=
  bd1 (F_X5_sites c_row) (fun r_3 => if r_3 ≤ x1 then some (.inr c_row) else bd1 (F_X5_of x1 (0 : Int32) c_row) (fun r_6 => bd1 (F_X5_put x1 (2 : Int32) r_6 c_row) (fun w_8 => bd1 (F_X5_of x1 (1 : Int32) w_8) (fun r_10 => bd1 (F_X5_put x1 (3 : Int32) r_10 w_8) (fun w_12 => bd1 (F_X5_put x1 (4 : Int32) (0 : Int32) w_12) (fun w_14 => bd1 (F_X5_put x1 (5 : Int32) (0 : Int32) w_14) (fun w_16 => bd1 (F_X5_of x1 (0 : Int32) w_16) (fun r_18 => nmF (upd w_16 4 ((w_16 4) + r_18)) (fun f_20 => bd1 (F_X5_of x1 (1 : Int32) f_20) (fun r_21 => nmF (upd f_20 5 ((f_20 5) + r_21)) (fun f_23 => some (.inl (x1 + (1 : Int32), f_23)))))))))))))
def F_X5_hearPlaces (K : Nat) (c_row : Nat → Int32) : Option ((Nat → Int32)) :=
  nmF (upd c_row 4 (0 : Int32)) (fun f_1 => nmF (upd f_1 5 (0 : Int32)) (fun f_2 => bd1 (lpF (fun u9 : Int32 × (Nat → Int32) => B_X5_hearPlaces_16  u9.1 u9.2) K ((0 : Int32), f_2)) (fun c_row_24 => some c_row_24)))
abbrev w_X5_hearPlaces (E : EE) (a_ a_row a_partners a_share a_leftOver : Nat) (c_askedCount : Int32) (c_outcome : Int32) (c_row : Nat → Int32) : va_W := [(a_, .inr (6, [.ref a_row, .ref a_partners, .int c_askedCount, .int c_outcome, .ref a_share, .ref a_leftOver])), (a_row, .inl (E.2.1, 81, .inl c_row))]
def v_f_X5_hearPlaces : List Cond := List.cons (.code yX5_hearPlaces cX5_hearPlaces 2 none) (HAppend.hAppend (α := List Cond) (β := List Cond) (γ := List Cond) [.fieldLink RX5 11 "HushWatch$State" "row" "[I", .methodLink RX5 45 yX5_sites, .instanceMethod yX5_sites, .selects RX5 yX5_sites yX5_sites, .initialized RX5, .methodLink RX5 69 yX5_of, .instanceMethod yX5_of, .selects RX5 yX5_of yX5_of, .methodLink RX5 52 yX5_put, .instanceMethod yX5_put, .selects RX5 yX5_put yX5_put] (HAppend.hAppend (α := List Cond) (β := List Cond) (γ := List Cond) wsX50 (HAppend.hAppend (α := List Cond) (β := List Cond) (γ := List Cond) v_f_X5_sites (HAppend.hAppend (α := List Cond) (β := List Cond) (γ := List Cond) v_f_X5_of (HAppend.hAppend (α := List Cond) (β := List Cond) (γ := List Cond) v_f_X5_put [])))))
theorem gw_f_X5_hearPlaces : v_f_X5_hearPlaces.all goodWord = true := by decide +kernel
theorem i_f_X5_hearPlaces_X5 : ∀ w ∈ wsX50, w ∈ v_f_X5_hearPlaces := fun _ h => List.mem_cons_of_mem _ (List.mem_append_right _ (List.mem_append_left _ h))
theorem g_f_X5_hearPlaces_f_X5_sites_45 : GoodIn v_f_X5_hearPlaces (wsV RX5 45 RX5 yX5_sites v_f_X5_sites) := goodIn_app (goodIn_of _ (by decide +kernel)) (goodIn_sub (fun _ h => List.mem_cons_of_mem _ (List.mem_append_right _ (List.mem_append_right _ (List.mem_append_left _ h)))) gw_f_X5_sites)
theorem g_f_X5_hearPlaces_f_X5_of_69 : GoodIn v_f_X5_hearPlaces (wsV RX5 69 RX5 yX5_of v_f_X5_of) := goodIn_app (goodIn_of _ (by decide +kernel)) (goodIn_sub (fun _ h => List.mem_cons_of_mem _ (List.mem_append_right _ (List.mem_append_right _ (List.mem_append_right _ (List.mem_append_left _ h))))) gw_f_X5_of)
theorem g_f_X5_hearPlaces_f_X5_put_52 : GoodIn v_f_X5_hearPlaces (wsV RX5 52 RX5 yX5_put v_f_X5_put) := goodIn_app (goodIn_of _ (by decide +kernel)) (goodIn_sub (fun _ h => List.mem_cons_of_mem _ (List.mem_append_right _ (List.mem_append_right _ (List.mem_append_right _ (List.mem_append_right _ (List.mem_append_left _ h)))))) gw_f_X5_put)
theorem hd_X5_hearPlaces : yX5_hearPlaces.cls = RX5 ∧ yX5_hearPlaces.cls ≠ "java/lang/invoke/MethodHandle" ∧ yX5_hearPlaces.cls ≠ "java/lang/invoke/VarHandle" ∧ (parseMethodDescriptor yX5_hearPlaces.desc).map (fun d => d.parameters.length) = some 0 := by decide +kernel
set_option maxHeartbeats 4000000 in
set_option maxRecDepth 100000 in
theorem wb_X5_hearPlaces_16 {p : Program} (l : Launch) {e : Env} {s : State} {m : MethodId} {below : List Frame} {meth : Method} {c : Code} {Q : State → Prop} (E : EE) (K : Nat) {a_ a_row a_partners a_share a_leftOver : Nat} {c_askedCount : Int32} {c_outcome : Int32} {x1 : Int32} {c_row : Nat → Int32} (hx : p.tables.exec = Jvm.exec) (hb : c.code = cX5_hearPlaces) (hml : c.maxLocals = 2) (hown : s.vm.findClass RX5 = some m.cls) (hts : ∀ w ∈ v_f_X5_hearPlaces, w.before #[Value.ref a_] s = true) (hK : va_K E.1 vwCl (TY E) s) (hN : NX s) {A : Nat → Prop} (hA : ∀ q : Nat, s.heap.size ≤ q → A q) {xx : (Int32 × (Nat → Int32)) ⊕ ((Nat → Int32))} (hC : ∀ (x1 : Int32), ∀ (c_row : Nat → Int32), xx = .inl (x1, c_row) → ∀ (H : Heap) (locs : List Loc) (ls : Array Slot), va_P E.1 vwCl (w_X5_hearPlaces E a_ a_row a_partners a_share a_leftOver c_askedCount c_outcome c_row) H → va_D A (w_X5_hearPlaces E a_ a_row a_partners a_share a_leftOver c_askedCount c_outcome c_row) → va_S A s.heap H locs → lv_has ls 2 [(0, .ref a_), (1, .int x1)] → W p l e ({ frames := 1, cells := 0, slots := 0, locals := 23 } : Room) s m #[Value.ref a_] below meth c H locs 0 0 Q (F0 m 16 ls [])) (hE : ∀ (c_row : Nat → Int32), xx = .inr c_row → ((∀ (H : Heap) (locs : List Loc) (ls : Array Slot), va_P E.1 vwCl (w_X5_hearPlaces E a_ a_row a_partners a_share a_leftOver c_askedCount c_outcome c_row) H → va_D A (w_X5_hearPlaces E a_ a_row a_partners a_share a_leftOver c_askedCount c_outcome c_row) → va_S A s.heap H locs → lv_has ls 2 [] → W p l e ({ frames := 1, cells := 0, slots := 0, locals := 23 } : Room) s m #[Value.ref a_] below meth c H locs 0 0 Q (F0 m 98 ls [])))) (hF : B_X5_hearPlaces_16  x1 c_row = some xx) : ∀ (H : Heap) (locs : List Loc) (ls : Array Slot), va_P E.1 vwCl (w_X5_hearPlaces E a_ a_row a_partners a_share a_leftOver c_askedCount c_outcome c_row) H → va_D A (w_X5_hearPlaces E a_ a_row a_partners a_share a_leftOver c_askedCount c_outcome c_row) → va_S A s.heap H locs → lv_has ls 2 [(0, .ref a_), (1, .int x1)] → W p l e ({ frames := 1, cells := 0, slots := 0, locals := 23 } : Room) s m #[Value.ref a_] below meth c H locs 0 0 Q (F0 m 16 ls []) := by
  unfold B_X5_hearPlaces_16 at hF
  intro H locs ls hP hD hS hl
  replace hP : va_P E.1 vwCl [(a_, .inr (6, [.ref a_row, .ref a_partners, .int c_askedCount, .int c_outcome, .ref a_share, .ref a_leftOver])), (a_row, .inl (E.2.1, 81, .inl c_row))] H := hP
  replace hD : va_D A [(a_, .inr (6, [.ref a_row, .ref a_partners, .int c_askedCount, .int c_outcome, .ref a_share, .ref a_leftOver])), (a_row, .inl (E.2.1, 81, .inl c_row))] := hD
  refine lv_iload_n hx hb dX5_hearPlaces_16 rfl (lv_at hl 1 rfl) ?_
  refine lv_aload_n hx hb dX5_hearPlaces_17 rfl (lv_at hl 0 rfl) ?_
  replace hF := bd1_s hF
  obtain ⟨r_3, hc_4, hF⟩ := hF
  have hPc : va_P E.1 vwCl (w_X5_sites E a_ a_row a_partners a_share a_leftOver c_askedCount c_outcome c_row) H := hP.sub (ws' := [(a_, .inr (6, [.ref a_row, .ref a_partners, .int c_askedCount, .int c_outcome, .ref a_share, .ref a_leftOver])), (a_row, .inl (E.2.1, 81, .inl c_row))]) [0, 1] rfl
  have hrc := va_recv hK hPc (ci := 6) (q0 := 0) rfl rfl
  refine pE_i (va_runV (As := []) (rest := [.int x1])  ⟨hx, hb, hml, hown, hts⟩ (f_X5_sites l E (a_ := a_) (a_row := a_row) (a_partners := a_partners) (a_share := a_share) (a_leftOver := a_leftOver) (c_askedCount := c_askedCount) (c_outcome := c_outcome) (c_row := c_row) hc_4) (cwV 0 hts g_f_X5_hearPlaces_f_X5_sites_45 rfl rfl rfl hd_X5_sites ⟨Nat.le_of_ble_eq_true rfl, Nat.le_of_ble_eq_true rfl⟩) ⟨pP.blind, hrc, (pP.pre ⟨hK, hN⟩ hPc)⟩ rfl rfl hl.1 rfl (lv_room (Nat.le_of_ble_eq_true rfl)) dX5_hearPlaces_18 ⟨Nat.le_of_ble_eq_true rfl, Nat.le_of_ble_eq_true rfl⟩) ?_
  refine lv_icmp_ge (tgt := 98) hx hb dX5_hearPlaces_21 (by decide) (fun c_5 => ?_) (fun c_5 => ?_)
  ·
    replace hF := ip c_5 hF
    cases hF
    exact hE c_row rfl H locs ls (hP.sub [0, 1] rfl) (hD.sub [0, 1] (by decide) rfl) hS (lv_sub hl [] rfl)
  ·
    replace hF := inn c_5 hF
    refine lv_aload_n hx hb dX5_hearPlaces_24 rfl (lv_at hl 0 rfl) ?_
    refine lv_iload_n hx hb dX5_hearPlaces_25 rfl (lv_at hl 1 rfl) ?_
    refine lv_iconst (v := 2) hx hb dX5_hearPlaces_26 (by decide) ?_
    refine lv_aload_n hx hb dX5_hearPlaces_27 rfl (lv_at hl 0 rfl) ?_
    refine lv_iload_n hx hb dX5_hearPlaces_28 rfl (lv_at hl 1 rfl) ?_
    refine lv_iconst (v := 0) hx hb dX5_hearPlaces_29 (by decide) ?_
    replace hF := bd1_s hF
    obtain ⟨r_6, hc_7, hF⟩ := hF
    have hPc : va_P E.1 vwCl (w_X5_of E a_ a_row a_partners a_share a_leftOver c_askedCount c_outcome c_row) H := hP.sub (ws' := [(a_, .inr (6, [.ref a_row, .ref a_partners, .int c_askedCount, .int c_outcome, .ref a_share, .ref a_leftOver])), (a_row, .inl (E.2.1, 81, .inl c_row))]) [0, 1] rfl
    have hrc := va_recv hK hPc (ci := 6) (q0 := 0) rfl rfl
    refine pE_i (va_runV (As := [.int x1, .int (0 : Int32)]) (rest := [.int (2 : Int32), .int x1, .ref a_])  ⟨hx, hb, hml, hown, hts⟩ (f_X5_of l E (a_ := a_) (a_row := a_row) (a_partners := a_partners) (a_share := a_share) (a_leftOver := a_leftOver) (p1 := x1) (p2 := (0 : Int32)) (c_askedCount := c_askedCount) (c_outcome := c_outcome) (c_row := c_row) hc_7) (cwV 2 hts g_f_X5_hearPlaces_f_X5_of_69 rfl rfl rfl hd_X5_of ⟨Nat.le_of_ble_eq_true rfl, Nat.le_of_ble_eq_true rfl⟩) ⟨pP.blind, hrc, (pP.pre ⟨hK, hN⟩ hPc)⟩ rfl rfl hl.1 rfl (lv_room (Nat.le_of_ble_eq_true rfl)) dX5_hearPlaces_30 ⟨Nat.le_of_ble_eq_true rfl, Nat.le_of_ble_eq_true rfl⟩) ?_
    replace hF := bd1_s hF
    obtain ⟨w_8, hc_9, hF⟩ := hF
    obtain ⟨hPc, hDc, hFc⟩ := wcut (wc := (w_X5_put E a_ a_row a_partners a_share a_leftOver c_askedCount c_outcome c_row)) hP hD hS hA [0, 1] (by decide) rfl
    have hrc := va_recv hK hPc (ci := 6) (q0 := 0) rfl rfl
    refine cE_v (wc := (w_X5_put E a_ a_row a_partners a_share a_leftOver c_askedCount c_outcome c_row)) (wr := []) (w1 := (w_X5_put E a_ a_row a_partners a_share a_leftOver c_askedCount c_outcome w_8)) (va_runV (As := [.int x1, .int (2 : Int32), .int r_6]) (rest := [])  ⟨hx, hb, hml, hown, hts⟩ (f_X5_put l E H.size (a_ := a_) (a_row := a_row) (a_partners := a_partners) (a_share := a_share) (a_leftOver := a_leftOver) (p1 := x1) (p2 := (2 : Int32)) (p3 := r_6) (c_askedCount := c_askedCount) (c_outcome := c_outcome) (c_row := c_row) hc_9) (cwV 3 hts g_f_X5_hearPlaces_f_X5_put_52 rfl rfl rfl hd_X5_put ⟨Nat.le_of_ble_eq_true rfl, Nat.le_of_ble_eq_true rfl⟩) ⟨pW.blind, hrc, (pW.pre ⟨hK, hN⟩ hPc hDc)⟩ rfl rfl hl.1 rfl (lv_room (Nat.le_of_ble_eq_true rfl)) dX5_hearPlaces_33 ⟨Nat.le_of_ble_eq_true rfl, Nat.le_of_ble_eq_true rfl⟩) hS hFc hP hD [0, 1] [] rfl rfl (by decide) (by decide) (fun H locs hP hD hS => ?_)
    replace hP : va_P E.1 vwCl [(a_, .inr (6, [.ref a_row, .ref a_partners, .int c_askedCount, .int c_outcome, .ref a_share, .ref a_leftOver])), (a_row, .inl (E.2.1, 81, .inl w_8))] H := hP
    replace hD : va_D A [(a_, .inr (6, [.ref a_row, .ref a_partners, .int c_askedCount, .int c_outcome, .ref a_share, .ref a_leftOver])), (a_row, .inl (E.2.1, 81, .inl w_8))] := hD
    refine lv_aload_n hx hb dX5_hearPlaces_36 rfl (lv_at hl 0 rfl) ?_
    refine lv_iload_n hx hb dX5_hearPlaces_37 rfl (lv_at hl 1 rfl) ?_
    refine lv_iconst (v := 3) hx hb dX5_hearPlaces_38 (by decide) ?_
    refine lv_aload_n hx hb dX5_hearPlaces_39 rfl (lv_at hl 0 rfl) ?_
    refine lv_iload_n hx hb dX5_hearPlaces_40 rfl (lv_at hl 1 rfl) ?_
    refine lv_iconst (v := 1) hx hb dX5_hearPlaces_41 (by decide) ?_
    replace hF := bd1_s hF
    obtain ⟨r_10, hc_11, hF⟩ := hF
    have hPc : va_P E.1 vwCl (w_X5_of E a_ a_row a_partners a_share a_leftOver c_askedCount c_outcome w_8) H := hP.sub (ws' := [(a_, .inr (6, [.ref a_row, .ref a_partners, .int c_askedCount, .int c_outcome, .ref a_share, .ref a_leftOver])), (a_row, .inl (E.2.1, 81, .inl w_8))]) [0, 1] rfl
    have hrc := va_recv hK hPc (ci := 6) (q0 := 0) rfl rfl
    refine pE_i (va_runV (As := [.int x1, .int (1 : Int32)]) (rest := [.int (3 : Int32), .int x1, .ref a_])  ⟨hx, hb, hml, hown, hts⟩ (f_X5_of l E (a_ := a_) (a_row := a_row) (a_partners := a_partners) (a_share := a_share) (a_leftOver := a_leftOver) (p1 := x1) (p2 := (1 : Int32)) (c_askedCount := c_askedCount) (c_outcome := c_outcome) (c_row := w_8) hc_11) (cwV 2 hts g_f_X5_hearPlaces_f_X5_of_69 rfl rfl rfl hd_X5_of ⟨Nat.le_of_ble_eq_true rfl, Nat.le_of_ble_eq_true rfl⟩) ⟨pP.blind, hrc, (pP.pre ⟨hK, hN⟩ hPc)⟩ rfl rfl hl.1 rfl (lv_room (Nat.le_of_ble_eq_true rfl)) dX5_hearPlaces_42 ⟨Nat.le_of_ble_eq_true rfl, Nat.le_of_ble_eq_true rfl⟩) ?_
    replace hF := bd1_s hF
    obtain ⟨w_12, hc_13, hF⟩ := hF
    obtain ⟨hPc, hDc, hFc⟩ := wcut (wc := (w_X5_put E a_ a_row a_partners a_share a_leftOver c_askedCount c_outcome w_8)) hP hD hS hA [0, 1] (by decide) rfl
    have hrc := va_recv hK hPc (ci := 6) (q0 := 0) rfl rfl
    refine cE_v (wc := (w_X5_put E a_ a_row a_partners a_share a_leftOver c_askedCount c_outcome w_8)) (wr := []) (w1 := (w_X5_put E a_ a_row a_partners a_share a_leftOver c_askedCount c_outcome w_12)) (va_runV (As := [.int x1, .int (3 : Int32), .int r_10]) (rest := [])  ⟨hx, hb, hml, hown, hts⟩ (f_X5_put l E H.size (a_ := a_) (a_row := a_row) (a_partners := a_partners) (a_share := a_share) (a_leftOver := a_leftOver) (p1 := x1) (p2 := (3 : Int32)) (p3 := r_10) (c_askedCount := c_askedCount) (c_outcome := c_outcome) (c_row := w_8) hc_13) (cwV 3 hts g_f_X5_hearPlaces_f_X5_put_52 rfl rfl rfl hd_X5_put ⟨Nat.le_of_ble_eq_true rfl, Nat.le_of_ble_eq_true rfl⟩) ⟨pW.blind, hrc, (pW.pre ⟨hK, hN⟩ hPc hDc)⟩ rfl rfl hl.1 rfl (lv_room (Nat.le_of_ble_eq_true rfl)) dX5_hearPlaces_45 ⟨Nat.le_of_ble_eq_true rfl, Nat.le_of_ble_eq_true rfl⟩) hS hFc hP hD [0, 1] [] rfl rfl (by decide) (by decide) (fun H locs hP hD hS => ?_)
    replace hP : va_P E.1 vwCl [(a_, .inr (6, [.ref a_row, .ref a_partners, .int c_askedCount, .int c_outcome, .ref a_share, .ref a_leftOver])), (a_row, .inl (E.2.1, 81, .inl w_12))] H := hP
    replace hD : va_D A [(a_, .inr (6, [.ref a_row, .ref a_partners, .int c_askedCount, .int c_outcome, .ref a_share, .ref a_leftOver])), (a_row, .inl (E.2.1, 81, .inl w_12))] := hD
    refine lv_aload_n hx hb dX5_hearPlaces_48 rfl (lv_at hl 0 rfl) ?_
    refine lv_iload_n hx hb dX5_hearPlaces_49 rfl (lv_at hl 1 rfl) ?_
    refine lv_iconst (v := 4) hx hb dX5_hearPlaces_50 (by decide) ?_
    refine lv_iconst (v := 0) hx hb dX5_hearPlaces_51 (by decide) ?_
    replace hF := bd1_s hF
    obtain ⟨w_14, hc_15, hF⟩ := hF
    obtain ⟨hPc, hDc, hFc⟩ := wcut (wc := (w_X5_put E a_ a_row a_partners a_share a_leftOver c_askedCount c_outcome w_12)) hP hD hS hA [0, 1] (by decide) rfl
    have hrc := va_recv hK hPc (ci := 6) (q0 := 0) rfl rfl
    refine cE_v (wc := (w_X5_put E a_ a_row a_partners a_share a_leftOver c_askedCount c_outcome w_12)) (wr := []) (w1 := (w_X5_put E a_ a_row a_partners a_share a_leftOver c_askedCount c_outcome w_14)) (va_runV (As := [.int x1, .int (4 : Int32), .int (0 : Int32)]) (rest := [])  ⟨hx, hb, hml, hown, hts⟩ (f_X5_put l E H.size (a_ := a_) (a_row := a_row) (a_partners := a_partners) (a_share := a_share) (a_leftOver := a_leftOver) (p1 := x1) (p2 := (4 : Int32)) (p3 := (0 : Int32)) (c_askedCount := c_askedCount) (c_outcome := c_outcome) (c_row := w_12) hc_15) (cwV 3 hts g_f_X5_hearPlaces_f_X5_put_52 rfl rfl rfl hd_X5_put ⟨Nat.le_of_ble_eq_true rfl, Nat.le_of_ble_eq_true rfl⟩) ⟨pW.blind, hrc, (pW.pre ⟨hK, hN⟩ hPc hDc)⟩ rfl rfl hl.1 rfl (lv_room (Nat.le_of_ble_eq_true rfl)) dX5_hearPlaces_52 ⟨Nat.le_of_ble_eq_true rfl, Nat.le_of_ble_eq_true rfl⟩) hS hFc hP hD [0, 1] [] rfl rfl (by decide) (by decide) (fun H locs hP hD hS => ?_)
    replace hP : va_P E.1 vwCl [(a_, .inr (6, [.ref a_row, .ref a_partners, .int c_askedCount, .int c_outcome, .ref a_share, .ref a_leftOver])), (a_row, .inl (E.2.1, 81, .inl w_14))] H := hP
    replace hD : va_D A [(a_, .inr (6, [.ref a_row, .ref a_partners, .int c_askedCount, .int c_outcome, .ref a_share, .ref a_leftOver])), (a_row, .inl (E.2.1, 81, .inl w_14))] := hD
    refine lv_aload_n hx hb dX5_hearPlaces_55 rfl (lv_at hl 0 rfl) ?_
    refine lv_iload_n hx hb dX5_hearPlaces_56 rfl (lv_at hl 1 rfl) ?_
    refine lv_iconst (v := 5) hx hb dX5_hearPlaces_57 (by decide) ?_
    refine lv_iconst (v := 0) hx hb dX5_hearPlaces_58 (by decide) ?_
    replace hF := bd1_s hF
    obtain ⟨w_16, hc_17, hF⟩ := hF
    obtain ⟨hPc, hDc, hFc⟩ := wcut (wc := (w_X5_put E a_ a_row a_partners a_share a_leftOver c_askedCount c_outcome w_14)) hP hD hS hA [0, 1] (by decide) rfl
    have hrc := va_recv hK hPc (ci := 6) (q0 := 0) rfl rfl
    refine cE_v (wc := (w_X5_put E a_ a_row a_partners a_share a_leftOver c_askedCount c_outcome w_14)) (wr := []) (w1 := (w_X5_put E a_ a_row a_partners a_share a_leftOver c_askedCount c_outcome w_16)) (va_runV (As := [.int x1, .int (5 : Int32), .int (0 : Int32)]) (rest := [])  ⟨hx, hb, hml, hown, hts⟩ (f_X5_put l E H.size (a_ := a_) (a_row := a_row) (a_partners := a_partners) (a_share := a_share) (a_leftOver := a_leftOver) (p1 := x1) (p2 := (5 : Int32)) (p3 := (0 : Int32)) (c_askedCount := c_askedCount) (c_outcome := c_outcome) (c_row := w_14) hc_17) (cwV 3 hts g_f_X5_hearPlaces_f_X5_put_52 rfl rfl rfl hd_X5_put ⟨Nat.le_of_ble_eq_true rfl, Nat.le_of_ble_eq_true rfl⟩) ⟨pW.blind, hrc, (pW.pre ⟨hK, hN⟩ hPc hDc)⟩ rfl rfl hl.1 rfl (lv_room (Nat.le_of_ble_eq_true rfl)) dX5_hearPlaces_59 ⟨Nat.le_of_ble_eq_true rfl, Nat.le_of_ble_eq_true rfl⟩) hS hFc hP hD [0, 1] [] rfl rfl (by decide) (by decide) (fun H locs hP hD hS => ?_)
    replace hP : va_P E.1 vwCl [(a_, .inr (6, [.ref a_row, .ref a_partners, .int c_askedCount, .int c_outcome, .ref a_share, .ref a_leftOver])), (a_row, .inl (E.2.1, 81, .inl w_16))] H := hP
    replace hD : va_D A [(a_, .inr (6, [.ref a_row, .ref a_partners, .int c_askedCount, .int c_outcome, .ref a_share, .ref a_leftOver])), (a_row, .inl (E.2.1, 81, .inl w_16))] := hD
    refine lv_aload_n hx hb dX5_hearPlaces_62 rfl (lv_at hl 0 rfl) ?_
    refine gt_X5_0 (v := .ref a_row) hx hb hts i_f_X5_hearPlaces_X5 hown hK hP 0 rfl (hts (.fieldLink RX5 11 "HushWatch$State" "row" "[I") (List.mem_of_getElem? (i := 1) rfl)) rfl dX5_hearPlaces_63 ?_
    refine lv_iconst (v := 4) hx hb dX5_hearPlaces_66 (by decide) ?_
    refine lv_dup2_11 hx hb dX5_hearPlaces_67 rfl rfl ?_
    refine va_iald hx hb hK hP 1 0 rfl rfl (vin rfl) dX5_hearPlaces_68 ?_
    refine W.eq (g2 := F0 m 69 ls [.int (w_16 4), .int (4 : Int32), .ref a_row]) rfl ?_
    refine lv_aload_n hx hb dX5_hearPlaces_69 rfl (lv_at hl 0 rfl) ?_
    refine lv_iload_n hx hb dX5_hearPlaces_70 rfl (lv_at hl 1 rfl) ?_
    refine lv_iconst (v := 0) hx hb dX5_hearPlaces_71 (by decide) ?_
    replace hF := bd1_s hF
    obtain ⟨r_18, hc_19, hF⟩ := hF
    have hPc : va_P E.1 vwCl (w_X5_of E a_ a_row a_partners a_share a_leftOver c_askedCount c_outcome w_16) H := hP.sub (ws' := [(a_, .inr (6, [.ref a_row, .ref a_partners, .int c_askedCount, .int c_outcome, .ref a_share, .ref a_leftOver])), (a_row, .inl (E.2.1, 81, .inl w_16))]) [0, 1] rfl
    have hrc := va_recv hK hPc (ci := 6) (q0 := 0) rfl rfl
    refine pE_i (va_runV (As := [.int x1, .int (0 : Int32)]) (rest := [.int (w_16 4), .int (4 : Int32), .ref a_row])  ⟨hx, hb, hml, hown, hts⟩ (f_X5_of l E (a_ := a_) (a_row := a_row) (a_partners := a_partners) (a_share := a_share) (a_leftOver := a_leftOver) (p1 := x1) (p2 := (0 : Int32)) (c_askedCount := c_askedCount) (c_outcome := c_outcome) (c_row := w_16) hc_19) (cwV 2 hts g_f_X5_hearPlaces_f_X5_of_69 rfl rfl rfl hd_X5_of ⟨Nat.le_of_ble_eq_true rfl, Nat.le_of_ble_eq_true rfl⟩) ⟨pP.blind, hrc, (pP.pre ⟨hK, hN⟩ hPc)⟩ rfl rfl hl.1 rfl (lv_room (Nat.le_of_ble_eq_true rfl)) dX5_hearPlaces_72 ⟨Nat.le_of_ble_eq_true rfl, Nat.le_of_ble_eq_true rfl⟩) ?_
    refine lv_iadd hx hb dX5_hearPlaces_75 ?_
    refine va_iast hx hb hK hP hD hS 1 0 rfl rfl (vin rfl) dX5_hearPlaces_76 (fun H locs hP hD hS => ?_)
    replace hP : va_P E.1 vwCl [(a_, .inr (6, [.ref a_row, .ref a_partners, .int c_askedCount, .int c_outcome, .ref a_share, .ref a_leftOver])), (a_row, .inl (E.2.1, 81, .inl (upd w_16 4 ((w_16 4) + r_18))))] H := hP
    replace hD : va_D A [(a_, .inr (6, [.ref a_row, .ref a_partners, .int c_askedCount, .int c_outcome, .ref a_share, .ref a_leftOver])), (a_row, .inl (E.2.1, 81, .inl (upd w_16 4 ((w_16 4) + r_18))))] := hD
    replace hF := nm_s hF
    obtain ⟨f_20, hf_20, hF⟩ := hF
    rw [← hf_20] at hP hD
    refine lv_aload_n hx hb dX5_hearPlaces_77 rfl (lv_at hl 0 rfl) ?_
    refine gt_X5_0 (v := .ref a_row) hx hb hts i_f_X5_hearPlaces_X5 hown hK hP 0 rfl (hts (.fieldLink RX5 11 "HushWatch$State" "row" "[I") (List.mem_of_getElem? (i := 1) rfl)) rfl dX5_hearPlaces_78 ?_
    refine lv_iconst (v := 5) hx hb dX5_hearPlaces_81 (by decide) ?_
    refine lv_dup2_11 hx hb dX5_hearPlaces_82 rfl rfl ?_
    refine va_iald hx hb hK hP 1 0 rfl rfl (vin rfl) dX5_hearPlaces_83 ?_
    refine W.eq (g2 := F0 m 84 ls [.int (f_20 5), .int (5 : Int32), .ref a_row]) rfl ?_
    refine lv_aload_n hx hb dX5_hearPlaces_84 rfl (lv_at hl 0 rfl) ?_
    refine lv_iload_n hx hb dX5_hearPlaces_85 rfl (lv_at hl 1 rfl) ?_
    refine lv_iconst (v := 1) hx hb dX5_hearPlaces_86 (by decide) ?_
    replace hF := bd1_s hF
    obtain ⟨r_21, hc_22, hF⟩ := hF
    have hPc : va_P E.1 vwCl (w_X5_of E a_ a_row a_partners a_share a_leftOver c_askedCount c_outcome f_20) H := hP.sub (ws' := [(a_, .inr (6, [.ref a_row, .ref a_partners, .int c_askedCount, .int c_outcome, .ref a_share, .ref a_leftOver])), (a_row, .inl (E.2.1, 81, .inl f_20))]) [0, 1] rfl
    have hrc := va_recv hK hPc (ci := 6) (q0 := 0) rfl rfl
    refine pE_i (va_runV (As := [.int x1, .int (1 : Int32)]) (rest := [.int (f_20 5), .int (5 : Int32), .ref a_row])  ⟨hx, hb, hml, hown, hts⟩ (f_X5_of l E (a_ := a_) (a_row := a_row) (a_partners := a_partners) (a_share := a_share) (a_leftOver := a_leftOver) (p1 := x1) (p2 := (1 : Int32)) (c_askedCount := c_askedCount) (c_outcome := c_outcome) (c_row := f_20) hc_22) (cwV 2 hts g_f_X5_hearPlaces_f_X5_of_69 rfl rfl rfl hd_X5_of ⟨Nat.le_of_ble_eq_true rfl, Nat.le_of_ble_eq_true rfl⟩) ⟨pP.blind, hrc, (pP.pre ⟨hK, hN⟩ hPc)⟩ rfl rfl hl.1 rfl (lv_room (Nat.le_of_ble_eq_true rfl)) dX5_hearPlaces_87 ⟨Nat.le_of_ble_eq_true rfl, Nat.le_of_ble_eq_true rfl⟩) ?_
    refine lv_iadd hx hb dX5_hearPlaces_90 ?_
    refine va_iast hx hb hK hP hD hS 1 0 rfl rfl (vin rfl) dX5_hearPlaces_91 (fun H locs hP hD hS => ?_)
    replace hP : va_P E.1 vwCl [(a_, .inr (6, [.ref a_row, .ref a_partners, .int c_askedCount, .int c_outcome, .ref a_share, .ref a_leftOver])), (a_row, .inl (E.2.1, 81, .inl (upd f_20 5 ((f_20 5) + r_21))))] H := hP
    replace hD : va_D A [(a_, .inr (6, [.ref a_row, .ref a_partners, .int c_askedCount, .int c_outcome, .ref a_share, .ref a_leftOver])), (a_row, .inl (E.2.1, 81, .inl (upd f_20 5 ((f_20 5) + r_21))))] := hD
    replace hF := nm_s hF
    obtain ⟨f_23, hf_23, hF⟩ := hF
    rw [← hf_23] at hP hD
    refine lv_iinc (v := x1 + (1 : Int32)) (lv' := [(1, .int (x1 + (1 : Int32))), (0, .ref a_)]) hx hb dX5_hearPlaces_92 hl (k := 1) rfl (rfl) (by decide) rfl (fun ls hl => ?_)
    refine lv_goto (tgt := 16) hx hb dX5_hearPlaces_95 (by decide) ?_
    cases hF
    exact hC (x1 + (1 : Int32)) f_23 rfl H locs ls (hP.sub [0, 1] rfl) (hD.sub [0, 1] (by decide) rfl) hS (lv_sub hl [1, 0] rfl)

set_option maxHeartbeats 4000000 in
set_option maxRecDepth 100000 in
theorem lw_X5_hearPlaces_16 {p : Program} (l : Launch) {e : Env} {s : State} {m : MethodId} {below : List Frame} {meth : Method} {c : Code} {Q : State → Prop} (E : EE) (K : Nat) {a_ a_row a_partners a_share a_leftOver : Nat} {c_askedCount : Int32} {c_outcome : Int32} (hx : p.tables.exec = Jvm.exec) (hb : c.code = cX5_hearPlaces) (hml : c.maxLocals = 2) (hown : s.vm.findClass RX5 = some m.cls) (hts : ∀ w ∈ v_f_X5_hearPlaces, w.before #[Value.ref a_] s = true) (hK : va_K E.1 vwCl (TY E) s) (hN : NX s) {A : Nat → Prop} (hA : ∀ q : Nat, s.heap.size ≤ q → A q) (j9 : Nat) (x1 : Int32) (c_row : Nat → Int32) (c_row' : Nat → Int32) (hL : lpF (fun u9 : Int32 × (Nat → Int32) => B_X5_hearPlaces_16  u9.1 u9.2) j9 (x1, c_row) = some c_row') (hX : (∀ (H : Heap) (locs : List Loc) (ls : Array Slot), va_P E.1 vwCl (w_X5_hearPlaces E a_ a_row a_partners a_share a_leftOver c_askedCount c_outcome c_row') H → va_D A (w_X5_hearPlaces E a_ a_row a_partners a_share a_leftOver c_askedCount c_outcome c_row') → va_S A s.heap H locs → lv_has ls 2 [] → W p l e ({ frames := 1, cells := 0, slots := 0, locals := 23 } : Room) s m #[Value.ref a_] below meth c H locs 0 0 Q (F0 m 98 ls []))) : ∀ (H : Heap) (locs : List Loc) (ls : Array Slot), va_P E.1 vwCl (w_X5_hearPlaces E a_ a_row a_partners a_share a_leftOver c_askedCount c_outcome c_row) H → va_D A (w_X5_hearPlaces E a_ a_row a_partners a_share a_leftOver c_askedCount c_outcome c_row) → va_S A s.heap H locs → lv_has ls 2 [(0, .ref a_), (1, .int x1)] → W p l e ({ frames := 1, cells := 0, slots := 0, locals := 23 } : Room) s m #[Value.ref a_] below meth c H locs 0 0 Q (F0 m 16 ls []) := by
  exact lp_rule (P := (fun u9 : Int32 × (Nat → Int32) => ∀ (H : Heap) (locs : List Loc) (ls : Array Slot), va_P E.1 vwCl (w_X5_hearPlaces E a_ a_row a_partners a_share a_leftOver c_askedCount c_outcome u9.2) H → va_D A (w_X5_hearPlaces E a_ a_row a_partners a_share a_leftOver c_askedCount c_outcome u9.2) → va_S A s.heap H locs → lv_has ls 2 [(0, .ref a_), (1, .int u9.1)] → W p l e ({ frames := 1, cells := 0, slots := 0, locals := 23 } : Room) s m #[Value.ref a_] below meth c H locs 0 0 Q (F0 m 16 ls []))) (R := (fun r9 : (Nat → Int32) => (∀ (H : Heap) (locs : List Loc) (ls : Array Slot), va_P E.1 vwCl (w_X5_hearPlaces E a_ a_row a_partners a_share a_leftOver c_askedCount c_outcome r9) H → va_D A (w_X5_hearPlaces E a_ a_row a_partners a_share a_leftOver c_askedCount c_outcome r9) → va_S A s.heap H locs → lv_has ls 2 [] → W p l e ({ frames := 1, cells := 0, slots := 0, locals := 23 } : Room) s m #[Value.ref a_] below meth c H locs 0 0 Q (F0 m 98 ls [])))) (fun u9 xx hF hC hE => wb_X5_hearPlaces_16 l E K (c_askedCount := c_askedCount) (c_outcome := c_outcome) (x1 := u9.1) (c_row := u9.2) hx hb hml hown hts hK hN hA (fun x1 c_row q9 => hC _ q9) (fun c_row q9 => hE _ q9) hF) j9 (x1, c_row) c_row' hL hX

set_option maxHeartbeats 4000000 in
set_option maxRecDepth 100000 in
theorem f_X5_hearPlaces (l : Launch) (E : EE) (sz : Nat) (K : Nat) {a_ a_row a_partners a_share a_leftOver : Nat} {c_askedCount : Int32} {c_outcome : Int32} {c_row : Nat → Int32} {n_row : Nat → Int32} (hF : F_X5_hearPlaces K c_row = some n_row) : Met l yX5_hearPlaces v_f_X5_hearPlaces (({ frames := 1, cells := 0, slots := 0, locals := 23 } : Room)) (va_Pc [.ref a_] (pW E sz (w_X5_hearPlaces E a_ a_row a_partners a_share a_leftOver c_askedCount c_outcome c_row))) (va_Qv (fun (_u : Unit) => True) (fun (_u : Unit) tt => va_P E.1 vwCl (w_X5_hearPlaces E a_ a_row a_partners a_share a_leftOver c_askedCount c_outcome n_row) tt.heap ∧ va_D (va_A (w_X5_hearPlaces E a_ a_row a_partners a_share a_leftOver c_askedCount c_outcome c_row) sz) (w_X5_hearPlaces E a_ a_row a_partners a_share a_leftOver c_askedCount c_outcome n_row)) (va_A (w_X5_hearPlaces E a_ a_row a_partners a_share a_leftOver c_askedCount c_outcome c_row) sz)) 0 0 (va_A (w_X5_hearPlaces E a_ a_row a_partners a_share a_leftOver c_askedCount c_outcome c_row) sz) := by
  refine Met.ofW (cc := cX5_hearPlaces) (maxL := 2) (ret := none) (by decide) rfl ?_
  intro p e s m args below meth c s₁ B hml hv
  obtain ⟨rfl, hsz, ⟨hK, hN⟩, hP, hD0⟩ := hv
  have hx := B.exec
  have hb := B.bytes
  have hr := B.returns
  have hts := atoms_spec (ws := v_f_X5_hearPlaces) B.pre
  have hown : s.vm.findClass RX5 = some m.cls := own_of hd_X5_hearPlaces.1 (findClass_of_methodNamed B.named)
  have hlocks : meth.locks = false := B.notSynchronized
  subst hsz
  have hD := hD0.self (sz := s.heap.size)
  generalize hAe : va_A (w_X5_hearPlaces E a_ a_row a_partners a_share a_leftOver c_askedCount c_outcome c_row) s.heap.size = A at hD ⊢
  have hA : ∀ q : Nat, s.heap.size ≤ q → A q := fun q h => by rw [← hAe]; exact Or.inr h
  have hS : va_S A s.heap s.heap [] := va_S.rf
  have hl := lv_entry ([.ref a_]) (n := 2) (Nat.le_of_ble_eq_true rfl)
  rw [lg_entry_eq]
  generalize (lg_sl ([.ref a_]) ++ List.replicate (2 - (lg_sl ([.ref a_])).length) Slot.unset).toArray = ls at hl ⊢
  have hl : lv_has ls 2 [(0, .ref a_)] := hl
  obtain ⟨Q, hQ⟩ : ∃ Q : State → Prop, Q = MQ below (va_Qv (fun (_u : Unit) => True) (fun (_u : Unit) tt => va_P E.1 vwCl (w_X5_hearPlaces E a_ a_row a_partners a_share a_leftOver c_askedCount c_outcome n_row) tt.heap ∧ va_D A (w_X5_hearPlaces E a_ a_row a_partners a_share a_leftOver c_askedCount c_outcome n_row)) A) #[Value.ref a_] s 0 0 A := ⟨_, rfl⟩
  rw [← hQ]
  change W p l e ({ frames := 1, cells := 0, slots := 0, locals := 23 } : Room) s m #[Value.ref a_] below meth c s.heap [] 0 0 Q (F0 m 0 ls [])
  suffices hh9 : ∀ (H : Heap) (locs : List Loc), va_P E.1 vwCl (w_X5_hearPlaces E a_ a_row a_partners a_share a_leftOver c_askedCount c_outcome c_row) H → va_D A (w_X5_hearPlaces E a_ a_row a_partners a_share a_leftOver c_askedCount c_outcome c_row) → va_S A s.heap H locs → W p l e ({ frames := 1, cells := 0, slots := 0, locals := 23 } : Room) s m #[Value.ref a_] below meth c H locs 0 0 Q (F0 m 0 ls []) from hh9 s.heap [] hP hD hS
  clear hP hD hS
  intro H locs hP hD hS
  replace hP : va_P E.1 vwCl [(a_, .inr (6, [.ref a_row, .ref a_partners, .int c_askedCount, .int c_outcome, .ref a_share, .ref a_leftOver])), (a_row, .inl (E.2.1, 81, .inl c_row))] H := hP
  replace hD : va_D A [(a_, .inr (6, [.ref a_row, .ref a_partners, .int c_askedCount, .int c_outcome, .ref a_share, .ref a_leftOver])), (a_row, .inl (E.2.1, 81, .inl c_row))] := hD
  unfold F_X5_hearPlaces at hF
  refine lv_aload_n hx hb dX5_hearPlaces_0 rfl (lv_at hl 0 rfl) ?_
  refine gt_X5_0 (v := .ref a_row) hx hb hts i_f_X5_hearPlaces_X5 hown hK hP 0 rfl (hts (.fieldLink RX5 11 "HushWatch$State" "row" "[I") (List.mem_of_getElem? (i := 1) rfl)) rfl dX5_hearPlaces_1 ?_
  refine lv_iconst (v := 4) hx hb dX5_hearPlaces_4 (by decide) ?_
  refine lv_iconst (v := 0) hx hb dX5_hearPlaces_5 (by decide) ?_
  refine va_iast hx hb hK hP hD hS 1 0 rfl rfl (vin rfl) dX5_hearPlaces_6 (fun H locs hP hD hS => ?_)
  replace hP : va_P E.1 vwCl [(a_, .inr (6, [.ref a_row, .ref a_partners, .int c_askedCount, .int c_outcome, .ref a_share, .ref a_leftOver])), (a_row, .inl (E.2.1, 81, .inl (upd c_row 4 (0 : Int32))))] H := hP
  replace hD : va_D A [(a_, .inr (6, [.ref a_row, .ref a_partners, .int c_askedCount, .int c_outcome, .ref a_share, .ref a_leftOver])), (a_row, .inl (E.2.1, 81, .inl (upd c_row 4 (0 : Int32))))] := hD
  replace hF := nm_s hF
  obtain ⟨f_1, hf_1, hF⟩ := hF
  rw [← hf_1] at hP hD
  refine lv_aload_n hx hb dX5_hearPlaces_7 rfl (lv_at hl 0 rfl) ?_
  refine gt_X5_0 (v := .ref a_row) hx hb hts i_f_X5_hearPlaces_X5 hown hK hP 0 rfl (hts (.fieldLink RX5 11 "HushWatch$State" "row" "[I") (List.mem_of_getElem? (i := 1) rfl)) rfl dX5_hearPlaces_8 ?_
  refine lv_iconst (v := 5) hx hb dX5_hearPlaces_11 (by decide) ?_
  refine lv_iconst (v := 0) hx hb dX5_hearPlaces_12 (by decide) ?_
  refine va_iast hx hb hK hP hD hS 1 0 rfl rfl (vin rfl) dX5_hearPlaces_13 (fun H locs hP hD hS => ?_)
  replace hP : va_P E.1 vwCl [(a_, .inr (6, [.ref a_row, .ref a_partners, .int c_askedCount, .int c_outcome, .ref a_share, .ref a_leftOver])), (a_row, .inl (E.2.1, 81, .inl (upd f_1 5 (0 : Int32))))] H := hP
  replace hD : va_D A [(a_, .inr (6, [.ref a_row, .ref a_partners, .int c_askedCount, .int c_outcome, .ref a_share, .ref a_leftOver])), (a_row, .inl (E.2.1, 81, .inl (upd f_1 5 (0 : Int32))))] := hD
  replace hF := nm_s hF
  obtain ⟨f_2, hf_2, hF⟩ := hF
  rw [← hf_2] at hP hD
  refine lv_iconst (v := 0) hx hb dX5_hearPlaces_14 (by decide) ?_
  refine lv_istore_n (lv' := [(1, .int (0 : Int32)), (0, .ref a_)]) hx hb dX5_hearPlaces_15 rfl hl (by decide) rfl (fun ls hl => ?_)
  replace hF := bd1_s hF
  obtain ⟨c_row_24, hL_25, hF⟩ := hF
  refine lw_X5_hearPlaces_16 l E K (c_askedCount := c_askedCount) (c_outcome := c_outcome) hx hb hml hown hts hK hN hA K (0 : Int32) f_2 c_row_24 hL_25 ?_ H locs ls (hP.sub [0, 1] rfl) (hD.sub [0, 1] (by decide) rfl) hS (lv_sub hl [1, 0] rfl)
  ·
    intro H locs ls hP hD hS hl
    replace hP : va_P E.1 vwCl [(a_, .inr (6, [.ref a_row, .ref a_partners, .int c_askedCount, .int c_outcome, .ref a_share, .ref a_leftOver])), (a_row, .inl (E.2.1, 81, .inl c_row_24))] H := hP
    replace hD : va_D A [(a_, .inr (6, [.ref a_row, .ref a_partners, .int c_askedCount, .int c_outcome, .ref a_share, .ref a_leftOver])), (a_row, .inl (E.2.1, 81, .inl c_row_24))] := hD
    rw [hQ]
    have h9 := fin9 (P := fun u9 : (Nat → Int32) => va_P E.1 vwCl (w_X5_hearPlaces E a_ a_row a_partners a_share a_leftOver c_askedCount c_outcome u9) H ∧ va_D A (w_X5_hearPlaces E a_ a_row a_partners a_share a_leftOver c_askedCount c_outcome u9)) hF ⟨hP, hD⟩
    obtain ⟨hP9, hD9⟩ := h9
    exact W.vret hx hb hr (fun tt ht hW => ⟨⟨(), rfl, trivial, ht ▸ hP9, hD9⟩, hS.F ht⟩) hS.2.2 dX5_hearPlaces_98
