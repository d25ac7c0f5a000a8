def dl_X5_doAct_20_st05_0 : List (Nat × Instr × Nat) := [(0, .iconst 0, 1), (1, .istore 5, 2), (3, .iload_n 1, 1), (4, .tableswitch 133 0 6 #[44, 57, 66, 82, 98, 109, 117], 44), (48, .aload_n 0, 1), (49, .iload_n 2, 1), (50, .iload_n 3, 1), (51, .iload 4, 2), (53, .invokevirtual 137, 3), (56, .istore 5, 2), (58, .goto 79, 3), (137, .aload_n 0, 1), (138, .getfield 11, 3), (141, .bipush 11, 2), (143, .dup2, 1), (144, .iaload, 1), (145, .iload 5, 2), (147, .iadd, 1), (148, .iastore, 1), (149, .iload 5, 2), (151, .ireturn, 1), (61, .aload_n 0, 1), (62, .invokevirtual 140, 3), (65, .istore 5, 2), (67, .goto 70, 3), (70, .aload_n 0, 1), (71, .getfield 11, 3), (74, .iconst 1, 1), (75, .iload_n 2, 1), (76, .iastore, 1), (77, .aload_n 0, 1), (78, .invokevirtual 140, 3), (81, .istore 5, 2), (83, .goto 54, 3), (86, .aload_n 0, 1), (87, .getfield 11, 3), (90, .iconst 0, 1), (91, .iload_n 2, 1), (92, .iastore, 1), (93, .aload_n 0, 1), (94, .invokevirtual 140, 3), (97, .istore 5, 2), (99, .goto 38, 3), (102, .aload_n 0, 1), (103, .iload_n 2, 1), (104, .iload_n 3, 1), (105, .invokevirtual 143, 3), (108, .istore 5, 2), (110, .goto 27, 3), (113, .aload_n 0, 1)]
set_option maxRecDepth 100000 in
theorem dall_X5_doAct_20_st05_0 : dchk cX5_doAct dl_X5_doAct_20_st05_0 = true := by decide +kernel
theorem dX5_doAct_0 : decode cX5_doAct 0 = .ok (.iconst 0, 1) := dchk_at dall_X5_doAct_20_st05_0 (k := 0) rfl
theorem dX5_doAct_1 : decode cX5_doAct 1 = .ok (.istore 5, 2) := dchk_at dall_X5_doAct_20_st05_0 (k := 1) rfl
theorem dX5_doAct_3 : decode cX5_doAct 3 = .ok (.iload_n 1, 1) := dchk_at dall_X5_doAct_20_st05_0 (k := 2) rfl
theorem dX5_doAct_4 : decode cX5_doAct 4 = .ok (.tableswitch 133 0 6 #[44, 57, 66, 82, 98, 109, 117], 44) := dchk_at dall_X5_doAct_20_st05_0 (k := 3) rfl
theorem dX5_doAct_48 : decode cX5_doAct 48 = .ok (.aload_n 0, 1) := dchk_at dall_X5_doAct_20_st05_0 (k := 4) rfl
theorem dX5_doAct_49 : decode cX5_doAct 49 = .ok (.iload_n 2, 1) := dchk_at dall_X5_doAct_20_st05_0 (k := 5) rfl
theorem dX5_doAct_50 : decode cX5_doAct 50 = .ok (.iload_n 3, 1) := dchk_at dall_X5_doAct_20_st05_0 (k := 6) rfl
theorem dX5_doAct_51 : decode cX5_doAct 51 = .ok (.iload 4, 2) := dchk_at dall_X5_doAct_20_st05_0 (k := 7) rfl
theorem dX5_doAct_53 : decode cX5_doAct 53 = .ok (.invokevirtual 137, 3) := dchk_at dall_X5_doAct_20_st05_0 (k := 8) rfl
theorem dX5_doAct_56 : decode cX5_doAct 56 = .ok (.istore 5, 2) := dchk_at dall_X5_doAct_20_st05_0 (k := 9) rfl
theorem dX5_doAct_58 : decode cX5_doAct 58 = .ok (.goto 79, 3) := dchk_at dall_X5_doAct_20_st05_0 (k := 10) rfl
theorem dX5_doAct_137 : decode cX5_doAct 137 = .ok (.aload_n 0, 1) := dchk_at dall_X5_doAct_20_st05_0 (k := 11) rfl
theorem dX5_doAct_138 : decode cX5_doAct 138 = .ok (.getfield 11, 3) := dchk_at dall_X5_doAct_20_st05_0 (k := 12) rfl
theorem dX5_doAct_141 : decode cX5_doAct 141 = .ok (.bipush 11, 2) := dchk_at dall_X5_doAct_20_st05_0 (k := 13) rfl
theorem dX5_doAct_143 : decode cX5_doAct 143 = .ok (.dup2, 1) := dchk_at dall_X5_doAct_20_st05_0 (k := 14) rfl
theorem dX5_doAct_144 : decode cX5_doAct 144 = .ok (.iaload, 1) := dchk_at dall_X5_doAct_20_st05_0 (k := 15) rfl
theorem dX5_doAct_145 : decode cX5_doAct 145 = .ok (.iload 5, 2) := dchk_at dall_X5_doAct_20_st05_0 (k := 16) rfl
theorem dX5_doAct_147 : decode cX5_doAct 147 = .ok (.iadd, 1) := dchk_at dall_X5_doAct_20_st05_0 (k := 17) rfl
theorem dX5_doAct_148 : decode cX5_doAct 148 = .ok (.iastore, 1) := dchk_at dall_X5_doAct_20_st05_0 (k := 18) rfl
theorem dX5_doAct_149 : decode cX5_doAct 149 = .ok (.iload 5, 2) := dchk_at dall_X5_doAct_20_st05_0 (k := 19) rfl
theorem dX5_doAct_151 : decode cX5_doAct 151 = .ok (.ireturn, 1) := dchk_at dall_X5_doAct_20_st05_0 (k := 20) rfl
theorem dX5_doAct_61 : decode cX5_doAct 61 = .ok (.aload_n 0, 1) := dchk_at dall_X5_doAct_20_st05_0 (k := 21) rfl
theorem dX5_doAct_62 : decode cX5_doAct 62 = .ok (.invokevirtual 140, 3) := dchk_at dall_X5_doAct_20_st05_0 (k := 22) rfl
theorem dX5_doAct_65 : decode cX5_doAct 65 = .ok (.istore 5, 2) := dchk_at dall_X5_doAct_20_st05_0 (k := 23) rfl
theorem dX5_doAct_67 : decode cX5_doAct 67 = .ok (.goto 70, 3) := dchk_at dall_X5_doAct_20_st05_0 (k := 24) rfl
theorem dX5_doAct_70 : decode cX5_doAct 70 = .ok (.aload_n 0, 1) := dchk_at dall_X5_doAct_20_st05_0 (k := 25) rfl
theorem dX5_doAct_71 : decode cX5_doAct 71 = .ok (.getfield 11, 3) := dchk_at dall_X5_doAct_20_st05_0 (k := 26) rfl
theorem dX5_doAct_74 : decode cX5_doAct 74 = .ok (.iconst 1, 1) := dchk_at dall_X5_doAct_20_st05_0 (k := 27) rfl
theorem dX5_doAct_75 : decode cX5_doAct 75 = .ok (.iload_n 2, 1) := dchk_at dall_X5_doAct_20_st05_0 (k := 28) rfl
theorem dX5_doAct_76 : decode cX5_doAct 76 = .ok (.iastore, 1) := dchk_at dall_X5_doAct_20_st05_0 (k := 29) rfl
theorem dX5_doAct_77 : decode cX5_doAct 77 = .ok (.aload_n 0, 1) := dchk_at dall_X5_doAct_20_st05_0 (k := 30) rfl
theorem dX5_doAct_78 : decode cX5_doAct 78 = .ok (.invokevirtual 140, 3) := dchk_at dall_X5_doAct_20_st05_0 (k := 31) rfl
theorem dX5_doAct_81 : decode cX5_doAct 81 = .ok (.istore 5, 2) := dchk_at dall_X5_doAct_20_st05_0 (k := 32) rfl
theorem dX5_doAct_83 : decode cX5_doAct 83 = .ok (.goto 54, 3) := dchk_at dall_X5_doAct_20_st05_0 (k := 33) rfl
theorem dX5_doAct_86 : decode cX5_doAct 86 = .ok (.aload_n 0, 1) := dchk_at dall_X5_doAct_20_st05_0 (k := 34) rfl
theorem dX5_doAct_87 : decode cX5_doAct 87 = .ok (.getfield 11, 3) := dchk_at dall_X5_doAct_20_st05_0 (k := 35) rfl
theorem dX5_doAct_90 : decode cX5_doAct 90 = .ok (.iconst 0, 1) := dchk_at dall_X5_doAct_20_st05_0 (k := 36) rfl
theorem dX5_doAct_91 : decode cX5_doAct 91 = .ok (.iload_n 2, 1) := dchk_at dall_X5_doAct_20_st05_0 (k := 37) rfl
theorem dX5_doAct_92 : decode cX5_doAct 92 = .ok (.iastore, 1) := dchk_at dall_X5_doAct_20_st05_0 (k := 38) rfl
theorem dX5_doAct_93 : decode cX5_doAct 93 = .ok (.aload_n 0, 1) := dchk_at dall_X5_doAct_20_st05_0 (k := 39) rfl
theorem dX5_doAct_94 : decode cX5_doAct 94 = .ok (.invokevirtual 140, 3) := dchk_at dall_X5_doAct_20_st05_0 (k := 40) rfl
theorem dX5_doAct_97 : decode cX5_doAct 97 = .ok (.istore 5, 2) := dchk_at dall_X5_doAct_20_st05_0 (k := 41) rfl
theorem dX5_doAct_99 : decode cX5_doAct 99 = .ok (.goto 38, 3) := dchk_at dall_X5_doAct_20_st05_0 (k := 42) rfl
theorem dX5_doAct_102 : decode cX5_doAct 102 = .ok (.aload_n 0, 1) := dchk_at dall_X5_doAct_20_st05_0 (k := 43) rfl
theorem dX5_doAct_103 : decode cX5_doAct 103 = .ok (.iload_n 2, 1) := dchk_at dall_X5_doAct_20_st05_0 (k := 44) rfl
theorem dX5_doAct_104 : decode cX5_doAct 104 = .ok (.iload_n 3, 1) := dchk_at dall_X5_doAct_20_st05_0 (k := 45) rfl
theorem dX5_doAct_105 : decode cX5_doAct 105 = .ok (.invokevirtual 143, 3) := dchk_at dall_X5_doAct_20_st05_0 (k := 46) rfl
theorem dX5_doAct_108 : decode cX5_doAct 108 = .ok (.istore 5, 2) := dchk_at dall_X5_doAct_20_st05_0 (k := 47) rfl
theorem dX5_doAct_110 : decode cX5_doAct 110 = .ok (.goto 27, 3) := dchk_at dall_X5_doAct_20_st05_0 (k := 48) rfl
theorem dX5_doAct_113 : decode cX5_doAct 113 = .ok (.aload_n 0, 1) := dchk_at dall_X5_doAct_20_st05_0 (k := 49) rfl
def dl_X5_doAct_20_st05_1 : List (Nat × Instr × Nat) := [(114, .iload_n 2, 1), (115, .invokevirtual 146, 3), (118, .goto 19, 3), (121, .aload_n 0, 1), (122, .getfield 11, 3), (125, .bipush 7, 2), (127, .dup2, 1), (128, .iaload, 1), (129, .iconst 1, 1), (130, .iload_n 2, 1), (131, .ishl, 1), (132, .ixor, 1), (133, .iastore, 1), (134, .goto 3, 3)]
set_option maxRecDepth 100000 in
theorem dall_X5_doAct_20_st05_1 : dchk cX5_doAct dl_X5_doAct_20_st05_1 = true := by decide +kernel
theorem dX5_doAct_114 : decode cX5_doAct 114 = .ok (.iload_n 2, 1) := dchk_at dall_X5_doAct_20_st05_1 (k := 0) rfl
theorem dX5_doAct_115 : decode cX5_doAct 115 = .ok (.invokevirtual 146, 3) := dchk_at dall_X5_doAct_20_st05_1 (k := 1) rfl
theorem dX5_doAct_118 : decode cX5_doAct 118 = .ok (.goto 19, 3) := dchk_at dall_X5_doAct_20_st05_1 (k := 2) rfl
theorem dX5_doAct_121 : decode cX5_doAct 121 = .ok (.aload_n 0, 1) := dchk_at dall_X5_doAct_20_st05_1 (k := 3) rfl
theorem dX5_doAct_122 : decode cX5_doAct 122 = .ok (.getfield 11, 3) := dchk_at dall_X5_doAct_20_st05_1 (k := 4) rfl
theorem dX5_doAct_125 : decode cX5_doAct 125 = .ok (.bipush 7, 2) := dchk_at dall_X5_doAct_20_st05_1 (k := 5) rfl
theorem dX5_doAct_127 : decode cX5_doAct 127 = .ok (.dup2, 1) := dchk_at dall_X5_doAct_20_st05_1 (k := 6) rfl
theorem dX5_doAct_128 : decode cX5_doAct 128 = .ok (.iaload, 1) := dchk_at dall_X5_doAct_20_st05_1 (k := 7) rfl
theorem dX5_doAct_129 : decode cX5_doAct 129 = .ok (.iconst 1, 1) := dchk_at dall_X5_doAct_20_st05_1 (k := 8) rfl
theorem dX5_doAct_130 : decode cX5_doAct 130 = .ok (.iload_n 2, 1) := dchk_at dall_X5_doAct_20_st05_1 (k := 9) rfl
theorem dX5_doAct_131 : decode cX5_doAct 131 = .ok (.ishl, 1) := dchk_at dall_X5_doAct_20_st05_1 (k := 10) rfl
theorem dX5_doAct_132 : decode cX5_doAct 132 = .ok (.ixor, 1) := dchk_at dall_X5_doAct_20_st05_1 (k := 11) rfl
theorem dX5_doAct_133 : decode cX5_doAct 133 = .ok (.iastore, 1) := dchk_at dall_X5_doAct_20_st05_1 (k := 12) rfl
theorem dX5_doAct_134 : decode cX5_doAct 134 = .ok (.goto 3, 3) := dchk_at dall_X5_doAct_20_st05_1 (k := 13) rfl
def dl_X5_freezeRefusal_20_st05_0 : List (Nat × Instr × Nat) := [(0, .aload_n 0, 1), (1, .iload_n 1, 1), (2, .invokevirtual 79, 3), (5, .ifCond .ne 5, 3), (10, .iconst 1, 1), (11, .aload_n 0, 1), (12, .getfield 11, 3), (15, .iconst 3, 1), (16, .iaload, 1), (17, .ishl, 1), (18, .iconst 1, 1), (19, .isub, 1), (20, .istore_n 2, 1), (21, .aload_n 0, 1), (22, .getfield 11, 3), (25, .bipush 7, 2), (27, .iaload, 1), (28, .iconst 1, 1), (29, .iload_n 1, 1), (30, .ishl, 1), (31, .ior, 1), (32, .iload_n 2, 1), (33, .if_icmp .ne 15, 3), (48, .iconst (-1), 1), (49, .ireturn, 1), (36, .aload_n 0, 1), (37, .iload_n 1, 1), (38, .invokevirtual 131, 3), (41, .ifCond .ne 7, 3), (44, .iconst 2, 1), (45, .goto 4, 3), (8, .iconst 0, 1), (9, .ireturn, 1)]
set_option maxRecDepth 100000 in
theorem dall_X5_freezeRefusal_20_st05_0 : dchk cX5_freezeRefusal dl_X5_freezeRefusal_20_st05_0 = true := by decide +kernel
theorem dX5_freezeRefusal_0 : decode cX5_freezeRefusal 0 = .ok (.aload_n 0, 1) := dchk_at dall_X5_freezeRefusal_20_st05_0 (k := 0) rfl
theorem dX5_freezeRefusal_1 : decode cX5_freezeRefusal 1 = .ok (.iload_n 1, 1) := dchk_at dall_X5_freezeRefusal_20_st05_0 (k := 1) rfl
theorem dX5_freezeRefusal_2 : decode cX5_freezeRefusal 2 = .ok (.invokevirtual 79, 3) := dchk_at dall_X5_freezeRefusal_20_st05_0 (k := 2) rfl
theorem dX5_freezeRefusal_5 : decode cX5_freezeRefusal 5 = .ok (.ifCond .ne 5, 3) := dchk_at dall_X5_freezeRefusal_20_st05_0 (k := 3) rfl
theorem dX5_freezeRefusal_10 : decode cX5_freezeRefusal 10 = .ok (.iconst 1, 1) := dchk_at dall_X5_freezeRefusal_20_st05_0 (k := 4) rfl
theorem dX5_freezeRefusal_11 : decode cX5_freezeRefusal 11 = .ok (.aload_n 0, 1) := dchk_at dall_X5_freezeRefusal_20_st05_0 (k := 5) rfl
theorem dX5_freezeRefusal_12 : decode cX5_freezeRefusal 12 = .ok (.getfield 11, 3) := dchk_at dall_X5_freezeRefusal_20_st05_0 (k := 6) rfl
theorem dX5_freezeRefusal_15 : decode cX5_freezeRefusal 15 = .ok (.iconst 3, 1) := dchk_at dall_X5_freezeRefusal_20_st05_0 (k := 7) rfl
theorem dX5_freezeRefusal_16 : decode cX5_freezeRefusal 16 = .ok (.iaload, 1) := dchk_at dall_X5_freezeRefusal_20_st05_0 (k := 8) rfl
theorem dX5_freezeRefusal_17 : decode cX5_freezeRefusal 17 = .ok (.ishl, 1) := dchk_at dall_X5_freezeRefusal_20_st05_0 (k := 9) rfl
theorem dX5_freezeRefusal_18 : decode cX5_freezeRefusal 18 = .ok (.iconst 1, 1) := dchk_at dall_X5_freezeRefusal_20_st05_0 (k := 10) rfl
theorem dX5_freezeRefusal_19 : decode cX5_freezeRefusal 19 = .ok (.isub, 1) := dchk_at dall_X5_freezeRefusal_20_st05_0 (k := 11) rfl
theorem dX5_freezeRefusal_20 : decode cX5_freezeRefusal 20 = .ok (.istore_n 2, 1) := dchk_at dall_X5_freezeRefusal_20_st05_0 (k := 12) rfl
theorem dX5_freezeRefusal_21 : decode cX5_freezeRefusal 21 = .ok (.aload_n 0, 1) := dchk_at dall_X5_freezeRefusal_20_st05_0 (k := 13) rfl
theorem dX5_freezeRefusal_22 : decode cX5_freezeRefusal 22 = .ok (.getfield 11, 3) := dchk_at dall_X5_freezeRefusal_20_st05_0 (k := 14) rfl
theorem dX5_freezeRefusal_25 : decode cX5_freezeRefusal 25 = .ok (.bipush 7, 2) := dchk_at dall_X5_freezeRefusal_20_st05_0 (k := 15) rfl
theorem dX5_freezeRefusal_27 : decode cX5_freezeRefusal 27 = .ok (.iaload, 1) := dchk_at dall_X5_freezeRefusal_20_st05_0 (k := 16) rfl
theorem dX5_freezeRefusal_28 : decode cX5_freezeRefusal 28 = .ok (.iconst 1, 1) := dchk_at dall_X5_freezeRefusal_20_st05_0 (k := 17) rfl
theorem dX5_freezeRefusal_29 : decode cX5_freezeRefusal 29 = .ok (.iload_n 1, 1) := dchk_at dall_X5_freezeRefusal_20_st05_0 (k := 18) rfl
theorem dX5_freezeRefusal_30 : decode cX5_freezeRefusal 30 = .ok (.ishl, 1) := dchk_at dall_X5_freezeRefusal_20_st05_0 (k := 19) rfl
theorem dX5_freezeRefusal_31 : decode cX5_freezeRefusal 31 = .ok (.ior, 1) := dchk_at dall_X5_freezeRefusal_20_st05_0 (k := 20) rfl
theorem dX5_freezeRefusal_32 : decode cX5_freezeRefusal 32 = .ok (.iload_n 2, 1) := dchk_at dall_X5_freezeRefusal_20_st05_0 (k := 21) rfl
theorem dX5_freezeRefusal_33 : decode cX5_freezeRefusal 33 = .ok (.if_icmp .ne 15, 3) := dchk_at dall_X5_freezeRefusal_20_st05_0 (k := 22) rfl
theorem dX5_freezeRefusal_48 : decode cX5_freezeRefusal 48 = .ok (.iconst (-1), 1) := dchk_at dall_X5_freezeRefusal_20_st05_0 (k := 23) rfl
theorem dX5_freezeRefusal_49 : decode cX5_freezeRefusal 49 = .ok (.ireturn, 1) := dchk_at dall_X5_freezeRefusal_20_st05_0 (k := 24) rfl
theorem dX5_freezeRefusal_36 : decode cX5_freezeRefusal 36 = .ok (.aload_n 0, 1) := dchk_at dall_X5_freezeRefusal_20_st05_0 (k := 25) rfl
theorem dX5_freezeRefusal_37 : decode cX5_freezeRefusal 37 = .ok (.iload_n 1, 1) := dchk_at dall_X5_freezeRefusal_20_st05_0 (k := 26) rfl
theorem dX5_freezeRefusal_38 : decode cX5_freezeRefusal 38 = .ok (.invokevirtual 131, 3) := dchk_at dall_X5_freezeRefusal_20_st05_0 (k := 27) rfl
theorem dX5_freezeRefusal_41 : decode cX5_freezeRefusal 41 = .ok (.ifCond .ne 7, 3) := dchk_at dall_X5_freezeRefusal_20_st05_0 (k := 28) rfl
theorem dX5_freezeRefusal_44 : decode cX5_freezeRefusal 44 = .ok (.iconst 2, 1) := dchk_at dall_X5_freezeRefusal_20_st05_0 (k := 29) rfl
theorem dX5_freezeRefusal_45 : decode cX5_freezeRefusal 45 = .ok (.goto 4, 3) := dchk_at dall_X5_freezeRefusal_20_st05_0 (k := 30) rfl
theorem dX5_freezeRefusal_8 : decode cX5_freezeRefusal 8 = .ok (.iconst 0, 1) := dchk_at dall_X5_freezeRefusal_20_st05_0 (k := 31) rfl
theorem dX5_freezeRefusal_9 : decode cX5_freezeRefusal 9 = .ok (.ireturn, 1) := dchk_at dall_X5_freezeRefusal_20_st05_0 (k := 32) rfl
def dl_X5_hasRoom_20_st05_0 : List (Nat × Instr × Nat) := [(0, .aload_n 0, 1), (1, .iload_n 1, 1), (2, .iconst 0, 1), (3, .invokevirtual 69, 3), (6, .iload_n 2, 1), (7, .iadd, 1), (8, .invokestatic 94, 3), (11, .ldc 98, 2), (13, .if_icmp .gt 23, 3), (36, .iconst 0, 1), (37, .ireturn, 1), (16, .aload_n 0, 1), (17, .iload_n 1, 1), (18, .iconst 1, 1), (19, .invokevirtual 69, 3), (22, .iload_n 3, 1), (23, .iadd, 1), (24, .invokestatic 94, 3), (27, .ldc 98, 2), (29, .if_icmp .gt 7, 3), (32, .iconst 1, 1), (33, .goto 4, 3)]
set_option maxRecDepth 100000 in
theorem dall_X5_hasRoom_20_st05_0 : dchk cX5_hasRoom dl_X5_hasRoom_20_st05_0 = true := by decide +kernel
theorem dX5_hasRoom_0 : decode cX5_hasRoom 0 = .ok (.aload_n 0, 1) := dchk_at dall_X5_hasRoom_20_st05_0 (k := 0) rfl
theorem dX5_hasRoom_1 : decode cX5_hasRoom 1 = .ok (.iload_n 1, 1) := dchk_at dall_X5_hasRoom_20_st05_0 (k := 1) rfl
theorem dX5_hasRoom_2 : decode cX5_hasRoom 2 = .ok (.iconst 0, 1) := dchk_at dall_X5_hasRoom_20_st05_0 (k := 2) rfl
theorem dX5_hasRoom_3 : decode cX5_hasRoom 3 = .ok (.invokevirtual 69, 3) := dchk_at dall_X5_hasRoom_20_st05_0 (k := 3) rfl
theorem dX5_hasRoom_6 : decode cX5_hasRoom 6 = .ok (.iload_n 2, 1) := dchk_at dall_X5_hasRoom_20_st05_0 (k := 4) rfl
theorem dX5_hasRoom_7 : decode cX5_hasRoom 7 = .ok (.iadd, 1) := dchk_at dall_X5_hasRoom_20_st05_0 (k := 5) rfl
theorem dX5_hasRoom_8 : decode cX5_hasRoom 8 = .ok (.invokestatic 94, 3) := dchk_at dall_X5_hasRoom_20_st05_0 (k := 6) rfl
theorem dX5_hasRoom_11 : decode cX5_hasRoom 11 = .ok (.ldc 98, 2) := dchk_at dall_X5_hasRoom_20_st05_0 (k := 7) rfl
theorem dX5_hasRoom_13 : decode cX5_hasRoom 13 = .ok (.if_icmp .gt 23, 3) := dchk_at dall_X5_hasRoom_20_st05_0 (k := 8) rfl
theorem dX5_hasRoom_36 : decode cX5_hasRoom 36 = .ok (.iconst 0, 1) := dchk_at dall_X5_hasRoom_20_st05_0 (k := 9) rfl
theorem dX5_hasRoom_37 : decode cX5_hasRoom 37 = .ok (.ireturn, 1) := dchk_at dall_X5_hasRoom_20_st05_0 (k := 10) rfl
theorem dX5_hasRoom_16 : decode cX5_hasRoom 16 = .ok (.aload_n 0, 1) := dchk_at dall_X5_hasRoom_20_st05_0 (k := 11) rfl
theorem dX5_hasRoom_17 : decode cX5_hasRoom 17 = .ok (.iload_n 1, 1) := dchk_at dall_X5_hasRoom_20_st05_0 (k := 12) rfl
theorem dX5_hasRoom_18 : decode cX5_hasRoom 18 = .ok (.iconst 1, 1) := dchk_at dall_X5_hasRoom_20_st05_0 (k := 13) rfl
theorem dX5_hasRoom_19 : decode cX5_hasRoom 19 = .ok (.invokevirtual 69, 3) := dchk_at dall_X5_hasRoom_20_st05_0 (k := 14) rfl
theorem dX5_hasRoom_22 : decode cX5_hasRoom 22 = .ok (.iload_n 3, 1) := dchk_at dall_X5_hasRoom_20_st05_0 (k := 15) rfl
theorem dX5_hasRoom_23 : decode cX5_hasRoom 23 = .ok (.iadd, 1) := dchk_at dall_X5_hasRoom_20_st05_0 (k := 16) rfl
theorem dX5_hasRoom_24 : decode cX5_hasRoom 24 = .ok (.invokestatic 94, 3) := dchk_at dall_X5_hasRoom_20_st05_0 (k := 17) rfl
theorem dX5_hasRoom_27 : decode cX5_hasRoom 27 = .ok (.ldc 98, 2) := dchk_at dall_X5_hasRoom_20_st05_0 (k := 18) rfl
theorem dX5_hasRoom_29 : decode cX5_hasRoom 29 = .ok (.if_icmp .gt 7, 3) := dchk_at dall_X5_hasRoom_20_st05_0 (k := 19) rfl
theorem dX5_hasRoom_32 : decode cX5_hasRoom 32 = .ok (.iconst 1, 1) := dchk_at dall_X5_hasRoom_20_st05_0 (k := 20) rfl
theorem dX5_hasRoom_33 : decode cX5_hasRoom 33 = .ok (.goto 4, 3) := dchk_at dall_X5_hasRoom_20_st05_0 (k := 21) rfl
def dl_X5_isQuietWith_20_st05_0 : List (Nat × Instr × Nat) := [(0, .aload_n 0, 1), (1, .aload_n 0, 1), (2, .iload_n 1, 1), (3, .iconst 0, 1), (4, .invokevirtual 72, 3), (7, .iload_n 2, 1), (8, .iadd, 1), (9, .aload_n 0, 1), (10, .iload_n 1, 1), (11, .iconst 1, 1), (12, .invokevirtual 72, 3), (15, .iload_n 3, 1), (16, .iadd, 1), (17, .invokevirtual 87, 3), (20, .ireturn, 1)]
set_option maxRecDepth 100000 in
theorem dall_X5_isQuietWith_20_st05_0 : dchk cX5_isQuietWith dl_X5_isQuietWith_20_st05_0 = true := by decide +kernel
theorem dX5_isQuietWith_0 : decode cX5_isQuietWith 0 = .ok (.aload_n 0, 1) := dchk_at dall_X5_isQuietWith_20_st05_0 (k := 0) rfl
theorem dX5_isQuietWith_1 : decode cX5_isQuietWith 1 = .ok (.aload_n 0, 1) := dchk_at dall_X5_isQuietWith_20_st05_0 (k := 1) rfl
theorem dX5_isQuietWith_2 : decode cX5_isQuietWith 2 = .ok (.iload_n 1, 1) := dchk_at dall_X5_isQuietWith_20_st05_0 (k := 2) rfl
theorem dX5_isQuietWith_3 : decode cX5_isQuietWith 3 = .ok (.iconst 0, 1) := dchk_at dall_X5_isQuietWith_20_st05_0 (k := 3) rfl
theorem dX5_isQuietWith_4 : decode cX5_isQuietWith 4 = .ok (.invokevirtual 72, 3) := dchk_at dall_X5_isQuietWith_20_st05_0 (k := 4) rfl
theorem dX5_isQuietWith_7 : decode cX5_isQuietWith 7 = .ok (.iload_n 2, 1) := dchk_at dall_X5_isQuietWith_20_st05_0 (k := 5) rfl
theorem dX5_isQuietWith_8 : decode cX5_isQuietWith 8 = .ok (.iadd, 1) := dchk_at dall_X5_isQuietWith_20_st05_0 (k := 6) rfl
theorem dX5_isQuietWith_9 : decode cX5_isQuietWith 9 = .ok (.aload_n 0, 1) := dchk_at dall_X5_isQuietWith_20_st05_0 (k := 7) rfl
theorem dX5_isQuietWith_10 : decode cX5_isQuietWith 10 = .ok (.iload_n 1, 1) := dchk_at dall_X5_isQuietWith_20_st05_0 (k := 8) rfl
theorem dX5_isQuietWith_11 : decode cX5_isQuietWith 11 = .ok (.iconst 1, 1) := dchk_at dall_X5_isQuietWith_20_st05_0 (k := 9) rfl
theorem dX5_isQuietWith_12 : decode cX5_isQuietWith 12 = .ok (.invokevirtual 72, 3) := dchk_at dall_X5_isQuietWith_20_st05_0 (k := 10) rfl
theorem dX5_isQuietWith_15 : decode cX5_isQuietWith 15 = .ok (.iload_n 3, 1) := dchk_at dall_X5_isQuietWith_20_st05_0 (k := 11) rfl
theorem dX5_isQuietWith_16 : decode cX5_isQuietWith 16 = .ok (.iadd, 1) := dchk_at dall_X5_isQuietWith_20_st05_0 (k := 12) rfl
theorem dX5_isQuietWith_17 : decode cX5_isQuietWith 17 = .ok (.invokevirtual 87, 3) := dchk_at dall_X5_isQuietWith_20_st05_0 (k := 13) rfl
theorem dX5_isQuietWith_20 : decode cX5_isQuietWith 20 = .ok (.ireturn, 1) := dchk_at dall_X5_isQuietWith_20_st05_0 (k := 14) rfl
def dl_X7_isMovable_20_st05_0 : List (Nat × Instr × Nat) := [(0, .iload_n 0, 1), (1, .sipush (-9999), 3), (4, .if_icmp .lt 28, 3), (32, .iconst 0, 1), (33, .ireturn, 1), (7, .iload_n 0, 1), (8, .sipush 9999, 3), (11, .if_icmp .gt 21, 3), (14, .iload_n 1, 1), (15, .sipush (-9999), 3), (18, .if_icmp .lt 14, 3), (21, .iload_n 1, 1), (22, .sipush 9999, 3), (25, .if_icmp .gt 7, 3), (28, .iconst 1, 1), (29, .goto 4, 3)]
set_option maxRecDepth 100000 in
theorem dall_X7_isMovable_20_st05_0 : dchk cX7_isMovable dl_X7_isMovable_20_st05_0 = true := by decide +kernel
theorem dX7_isMovable_0 : decode cX7_isMovable 0 = .ok (.iload_n 0, 1) := dchk_at dall_X7_isMovable_20_st05_0 (k := 0) rfl
theorem dX7_isMovable_1 : decode cX7_isMovable 1 = .ok (.sipush (-9999), 3) := dchk_at dall_X7_isMovable_20_st05_0 (k := 1) rfl
theorem dX7_isMovable_4 : decode cX7_isMovable 4 = .ok (.if_icmp .lt 28, 3) := dchk_at dall_X7_isMovable_20_st05_0 (k := 2) rfl
theorem dX7_isMovable_32 : decode cX7_isMovable 32 = .ok (.iconst 0, 1) := dchk_at dall_X7_isMovable_20_st05_0 (k := 3) rfl
theorem dX7_isMovable_33 : decode cX7_isMovable 33 = .ok (.ireturn, 1) := dchk_at dall_X7_isMovable_20_st05_0 (k := 4) rfl
theorem dX7_isMovable_7 : decode cX7_isMovable 7 = .ok (.iload_n 0, 1) := dchk_at dall_X7_isMovable_20_st05_0 (k := 5) rfl
theorem dX7_isMovable_8 : decode cX7_isMovable 8 = .ok (.sipush 9999, 3) := dchk_at dall_X7_isMovable_20_st05_0 (k := 6) rfl
theorem dX7_isMovable_11 : decode cX7_isMovable 11 = .ok (.if_icmp .gt 21, 3) := dchk_at dall_X7_isMovable_20_st05_0 (k := 7) rfl
theorem dX7_isMovable_14 : decode cX7_isMovable 14 = .ok (.iload_n 1, 1) := dchk_at dall_X7_isMovable_20_st05_0 (k := 8) rfl
theorem dX7_isMovable_15 : decode cX7_isMovable 15 = .ok (.sipush (-9999), 3) := dchk_at dall_X7_isMovable_20_st05_0 (k := 9) rfl
theorem dX7_isMovable_18 : decode cX7_isMovable 18 = .ok (.if_icmp .lt 14, 3) := dchk_at dall_X7_isMovable_20_st05_0 (k := 10) rfl
theorem dX7_isMovable_21 : decode cX7_isMovable 21 = .ok (.iload_n 1, 1) := dchk_at dall_X7_isMovable_20_st05_0 (k := 11) rfl
theorem dX7_isMovable_22 : decode cX7_isMovable 22 = .ok (.sipush 9999, 3) := dchk_at dall_X7_isMovable_20_st05_0 (k := 12) rfl
theorem dX7_isMovable_25 : decode cX7_isMovable 25 = .ok (.if_icmp .gt 7, 3) := dchk_at dall_X7_isMovable_20_st05_0 (k := 13) rfl
theorem dX7_isMovable_28 : decode cX7_isMovable 28 = .ok (.iconst 1, 1) := dchk_at dall_X7_isMovable_20_st05_0 (k := 14) rfl
theorem dX7_isMovable_29 : decode cX7_isMovable 29 = .ok (.goto 4, 3) := dchk_at dall_X7_isMovable_20_st05_0 (k := 15) rfl
def dl_X5_moveRefusal_20_st05_0 : List (Nat × Instr × Nat) := [(0, .aload_n 0, 1), (1, .iload_n 1, 1), (2, .invokevirtual 79, 3), (5, .ifCond .ne 5, 3), (10, .iload_n 2, 1), (11, .iload_n 3, 1), (12, .invokestatic 124, 3), (15, .ifCond .eq 13, 3), (28, .iconst 1, 1), (29, .ireturn, 1), (18, .aload_n 0, 1), (19, .iload_n 1, 1), (20, .iload_n 2, 1), (21, .iload_n 3, 1), (22, .invokevirtual 127, 3), (25, .ifCond .ne 5, 3), (30, .iload_n 2, 1), (31, .ifCond .ne 7, 3), (38, .aload_n 0, 1), (39, .iload_n 1, 1), (40, .invokevirtual 131, 3), (43, .ifCond .eq 7, 3), (50, .iconst (-1), 1), (51, .ireturn, 1), (46, .iconst 2, 1), (47, .goto 4, 3), (34, .iload_n 3, 1), (35, .ifCond .eq 11, 3), (8, .iconst 0, 1), (9, .ireturn, 1)]
set_option maxRecDepth 100000 in
theorem dall_X5_moveRefusal_20_st05_0 : dchk cX5_moveRefusal dl_X5_moveRefusal_20_st05_0 = true := by decide +kernel
theorem dX5_moveRefusal_0 : decode cX5_moveRefusal 0 = .ok (.aload_n 0, 1) := dchk_at dall_X5_moveRefusal_20_st05_0 (k := 0) rfl
theorem dX5_moveRefusal_1 : decode cX5_moveRefusal 1 = .ok (.iload_n 1, 1) := dchk_at dall_X5_moveRefusal_20_st05_0 (k := 1) rfl
theorem dX5_moveRefusal_2 : decode cX5_moveRefusal 2 = .ok (.invokevirtual 79, 3) := dchk_at dall_X5_moveRefusal_20_st05_0 (k := 2) rfl
theorem dX5_moveRefusal_5 : decode cX5_moveRefusal 5 = .ok (.ifCond .ne 5, 3) := dchk_at dall_X5_moveRefusal_20_st05_0 (k := 3) rfl
theorem dX5_moveRefusal_10 : decode cX5_moveRefusal 10 = .ok (.iload_n 2, 1) := dchk_at dall_X5_moveRefusal_20_st05_0 (k := 4) rfl
theorem dX5_moveRefusal_11 : decode cX5_moveRefusal 11 = .ok (.iload_n 3, 1) := dchk_at dall_X5_moveRefusal_20_st05_0 (k := 5) rfl
theorem dX5_moveRefusal_12 : decode cX5_moveRefusal 12 = .ok (.invokestatic 124, 3) := dchk_at dall_X5_moveRefusal_20_st05_0 (k := 6) rfl
theorem dX5_moveRefusal_15 : decode cX5_moveRefusal 15 = .ok (.ifCond .eq 13, 3) := dchk_at dall_X5_moveRefusal_20_st05_0 (k := 7) rfl
theorem dX5_moveRefusal_28 : decode cX5_moveRefusal 28 = .ok (.iconst 1, 1) := dchk_at dall_X5_moveRefusal_20_st05_0 (k := 8) rfl
theorem dX5_moveRefusal_29 : decode cX5_moveRefusal 29 = .ok (.ireturn, 1) := dchk_at dall_X5_moveRefusal_20_st05_0 (k := 9) rfl
theorem dX5_moveRefusal_18 : decode cX5_moveRefusal 18 = .ok (.aload_n 0, 1) := dchk_at dall_X5_moveRefusal_20_st05_0 (k := 10) rfl
theorem dX5_moveRefusal_19 : decode cX5_moveRefusal 19 = .ok (.iload_n 1, 1) := dchk_at dall_X5_moveRefusal_20_st05_0 (k := 11) rfl
theorem dX5_moveRefusal_20 : decode cX5_moveRefusal 20 = .ok (.iload_n 2, 1) := dchk_at dall_X5_moveRefusal_20_st05_0 (k := 12) rfl
theorem dX5_moveRefusal_21 : decode cX5_moveRefusal 21 = .ok (.iload_n 3, 1) := dchk_at dall_X5_moveRefusal_20_st05_0 (k := 13) rfl
theorem dX5_moveRefusal_22 : decode cX5_moveRefusal 22 = .ok (.invokevirtual 127, 3) := dchk_at dall_X5_moveRefusal_20_st05_0 (k := 14) rfl
theorem dX5_moveRefusal_25 : decode cX5_moveRefusal 25 = .ok (.ifCond .ne 5, 3) := dchk_at dall_X5_moveRefusal_20_st05_0 (k := 15) rfl
theorem dX5_moveRefusal_30 : decode cX5_moveRefusal 30 = .ok (.iload_n 2, 1) := dchk_at dall_X5_moveRefusal_20_st05_0 (k := 16) rfl
theorem dX5_moveRefusal_31 : decode cX5_moveRefusal 31 = .ok (.ifCond .ne 7, 3) := dchk_at dall_X5_moveRefusal_20_st05_0 (k := 17) rfl
theorem dX5_moveRefusal_38 : decode cX5_moveRefusal 38 = .ok (.aload_n 0, 1) := dchk_at dall_X5_moveRefusal_20_st05_0 (k := 18) rfl
theorem dX5_moveRefusal_39 : decode cX5_moveRefusal 39 = .ok (.iload_n 1, 1) := dchk_at dall_X5_moveRefusal_20_st05_0 (k := 19) rfl
theorem dX5_moveRefusal_40 : decode cX5_moveRefusal 40 = .ok (.invokevirtual 131, 3) := dchk_at dall_X5_moveRefusal_20_st05_0 (k := 20) rfl
theorem dX5_moveRefusal_43 : decode cX5_moveRefusal 43 = .ok (.ifCond .eq 7, 3) := dchk_at dall_X5_moveRefusal_20_st05_0 (k := 21) rfl
theorem dX5_moveRefusal_50 : decode cX5_moveRefusal 50 = .ok (.iconst (-1), 1) := dchk_at dall_X5_moveRefusal_20_st05_0 (k := 22) rfl
theorem dX5_moveRefusal_51 : decode cX5_moveRefusal 51 = .ok (.ireturn, 1) := dchk_at dall_X5_moveRefusal_20_st05_0 (k := 23) rfl
theorem dX5_moveRefusal_46 : decode cX5_moveRefusal 46 = .ok (.iconst 2, 1) := dchk_at dall_X5_moveRefusal_20_st05_0 (k := 24) rfl
theorem dX5_moveRefusal_47 : decode cX5_moveRefusal 47 = .ok (.goto 4, 3) := dchk_at dall_X5_moveRefusal_20_st05_0 (k := 25) rfl
theorem dX5_moveRefusal_34 : decode cX5_moveRefusal 34 = .ok (.iload_n 3, 1) := dchk_at dall_X5_moveRefusal_20_st05_0 (k := 26) rfl
theorem dX5_moveRefusal_35 : decode cX5_moveRefusal 35 = .ok (.ifCond .eq 11, 3) := dchk_at dall_X5_moveRefusal_20_st05_0 (k := 27) rfl
theorem dX5_moveRefusal_8 : decode cX5_moveRefusal 8 = .ok (.iconst 0, 1) := dchk_at dall_X5_moveRefusal_20_st05_0 (k := 28) rfl
theorem dX5_moveRefusal_9 : decode cX5_moveRefusal 9 = .ok (.ireturn, 1) := dchk_at dall_X5_moveRefusal_20_st05_0 (k := 29) rfl
def dl_X5_point_20_st05_0 : List (Nat × Instr × Nat) := [(19, .aload_n 0, 1), (20, .getfield 11, 3), (23, .iconst 3, 1), (24, .iaload, 1), (25, .aload_n 0, 1), (26, .iload_n 1, 1), (27, .iload_n 2, 1), (28, .invokevirtual 72, 3), (31, .imul, 1), (32, .iadd, 1), (33, .ireturn, 1), (0, .iload_n 2, 1), (1, .ifCond .ne 12, 3), (13, .aload_n 0, 1), (14, .getfield 11, 3), (17, .iconst 5, 1), (18, .iaload, 1), (4, .aload_n 0, 1), (5, .getfield 11, 3), (8, .iconst 4, 1), (9, .iaload, 1), (10, .goto 9, 3)]
set_option maxRecDepth 100000 in
theorem dall_X5_point_20_st05_0 : dchk cX5_point dl_X5_point_20_st05_0 = true := by decide +kernel
theorem dX5_point_19 : decode cX5_point 19 = .ok (.aload_n 0, 1) := dchk_at dall_X5_point_20_st05_0 (k := 0) rfl
theorem dX5_point_20 : decode cX5_point 20 = .ok (.getfield 11, 3) := dchk_at dall_X5_point_20_st05_0 (k := 1) rfl
theorem dX5_point_23 : decode cX5_point 23 = .ok (.iconst 3, 1) := dchk_at dall_X5_point_20_st05_0 (k := 2) rfl
theorem dX5_point_24 : decode cX5_point 24 = .ok (.iaload, 1) := dchk_at dall_X5_point_20_st05_0 (k := 3) rfl
theorem dX5_point_25 : decode cX5_point 25 = .ok (.aload_n 0, 1) := dchk_at dall_X5_point_20_st05_0 (k := 4) rfl
theorem dX5_point_26 : decode cX5_point 26 = .ok (.iload_n 1, 1) := dchk_at dall_X5_point_20_st05_0 (k := 5) rfl
theorem dX5_point_27 : decode cX5_point 27 = .ok (.iload_n 2, 1) := dchk_at dall_X5_point_20_st05_0 (k := 6) rfl
theorem dX5_point_28 : decode cX5_point 28 = .ok (.invokevirtual 72, 3) := dchk_at dall_X5_point_20_st05_0 (k := 7) rfl
theorem dX5_point_31 : decode cX5_point 31 = .ok (.imul, 1) := dchk_at dall_X5_point_20_st05_0 (k := 8) rfl
theorem dX5_point_32 : decode cX5_point 32 = .ok (.iadd, 1) := dchk_at dall_X5_point_20_st05_0 (k := 9) rfl
theorem dX5_point_33 : decode cX5_point 33 = .ok (.ireturn, 1) := dchk_at dall_X5_point_20_st05_0 (k := 10) rfl
theorem dX5_point_0 : decode cX5_point 0 = .ok (.iload_n 2, 1) := dchk_at dall_X5_point_20_st05_0 (k := 11) rfl
theorem dX5_point_1 : decode cX5_point 1 = .ok (.ifCond .ne 12, 3) := dchk_at dall_X5_point_20_st05_0 (k := 12) rfl
theorem dX5_point_13 : decode cX5_point 13 = .ok (.aload_n 0, 1) := dchk_at dall_X5_point_20_st05_0 (k := 13) rfl
theorem dX5_point_14 : decode cX5_point 14 = .ok (.getfield 11, 3) := dchk_at dall_X5_point_20_st05_0 (k := 14) rfl
theorem dX5_point_17 : decode cX5_point 17 = .ok (.iconst 5, 1) := dchk_at dall_X5_point_20_st05_0 (k := 15) rfl
theorem dX5_point_18 : decode cX5_point 18 = .ok (.iaload, 1) := dchk_at dall_X5_point_20_st05_0 (k := 16) rfl
theorem dX5_point_4 : decode cX5_point 4 = .ok (.aload_n 0, 1) := dchk_at dall_X5_point_20_st05_0 (k := 17) rfl
theorem dX5_point_5 : decode cX5_point 5 = .ok (.getfield 11, 3) := dchk_at dall_X5_point_20_st05_0 (k := 18) rfl
theorem dX5_point_8 : decode cX5_point 8 = .ok (.iconst 4, 1) := dchk_at dall_X5_point_20_st05_0 (k := 19) rfl
theorem dX5_point_9 : decode cX5_point 9 = .ok (.iaload, 1) := dchk_at dall_X5_point_20_st05_0 (k := 20) rfl
theorem dX5_point_10 : decode cX5_point 10 = .ok (.goto 9, 3) := dchk_at dall_X5_point_20_st05_0 (k := 21) rfl
def dl_X5_pointValue_20_st05_0 : List (Nat × Instr × Nat) := [(0, .aload_n 0, 1), (1, .aload_n 0, 1), (2, .iload_n 1, 1), (3, .iconst 0, 1), (4, .invokevirtual 91, 3), (7, .aload_n 0, 1), (8, .getfield 11, 3), (11, .iconst 3, 1), (12, .iaload, 1), (13, .iload_n 2, 1), (14, .imul, 1), (15, .iadd, 1), (16, .i2l, 1), (17, .aload_n 0, 1), (18, .iload_n 1, 1), (19, .iconst 1, 1), (20, .invokevirtual 91, 3), (23, .aload_n 0, 1), (24, .getfield 11, 3), (27, .iconst 3, 1), (28, .iaload, 1), (29, .iload_n 3, 1), (30, .imul, 1), (31, .iadd, 1), (32, .i2l, 1), (33, .invokevirtual 75, 3), (36, .lreturn, 1)]
set_option maxRecDepth 100000 in
theorem dall_X5_pointValue_20_st05_0 : dchk cX5_pointValue dl_X5_pointValue_20_st05_0 = true := by decide +kernel
theorem dX5_pointValue_0 : decode cX5_pointValue 0 = .ok (.aload_n 0, 1) := dchk_at dall_X5_pointValue_20_st05_0 (k := 0) rfl
theorem dX5_pointValue_1 : decode cX5_pointValue 1 = .ok (.aload_n 0, 1) := dchk_at dall_X5_pointValue_20_st05_0 (k := 1) rfl
theorem dX5_pointValue_2 : decode cX5_pointValue 2 = .ok (.iload_n 1, 1) := dchk_at dall_X5_pointValue_20_st05_0 (k := 2) rfl
theorem dX5_pointValue_3 : decode cX5_pointValue 3 = .ok (.iconst 0, 1) := dchk_at dall_X5_pointValue_20_st05_0 (k := 3) rfl
theorem dX5_pointValue_4 : decode cX5_pointValue 4 = .ok (.invokevirtual 91, 3) := dchk_at dall_X5_pointValue_20_st05_0 (k := 4) rfl
theorem dX5_pointValue_7 : decode cX5_pointValue 7 = .ok (.aload_n 0, 1) := dchk_at dall_X5_pointValue_20_st05_0 (k := 5) rfl
theorem dX5_pointValue_8 : decode cX5_pointValue 8 = .ok (.getfield 11, 3) := dchk_at dall_X5_pointValue_20_st05_0 (k := 6) rfl
theorem dX5_pointValue_11 : decode cX5_pointValue 11 = .ok (.iconst 3, 1) := dchk_at dall_X5_pointValue_20_st05_0 (k := 7) rfl
theorem dX5_pointValue_12 : decode cX5_pointValue 12 = .ok (.iaload, 1) := dchk_at dall_X5_pointValue_20_st05_0 (k := 8) rfl
theorem dX5_pointValue_13 : decode cX5_pointValue 13 = .ok (.iload_n 2, 1) := dchk_at dall_X5_pointValue_20_st05_0 (k := 9) rfl
theorem dX5_pointValue_14 : decode cX5_pointValue 14 = .ok (.imul, 1) := dchk_at dall_X5_pointValue_20_st05_0 (k := 10) rfl
theorem dX5_pointValue_15 : decode cX5_pointValue 15 = .ok (.iadd, 1) := dchk_at dall_X5_pointValue_20_st05_0 (k := 11) rfl
theorem dX5_pointValue_16 : decode cX5_pointValue 16 = .ok (.i2l, 1) := dchk_at dall_X5_pointValue_20_st05_0 (k := 12) rfl
theorem dX5_pointValue_17 : decode cX5_pointValue 17 = .ok (.aload_n 0, 1) := dchk_at dall_X5_pointValue_20_st05_0 (k := 13) rfl
theorem dX5_pointValue_18 : decode cX5_pointValue 18 = .ok (.iload_n 1, 1) := dchk_at dall_X5_pointValue_20_st05_0 (k := 14) rfl
theorem dX5_pointValue_19 : decode cX5_pointValue 19 = .ok (.iconst 1, 1) := dchk_at dall_X5_pointValue_20_st05_0 (k := 15) rfl
theorem dX5_pointValue_20 : decode cX5_pointValue 20 = .ok (.invokevirtual 91, 3) := dchk_at dall_X5_pointValue_20_st05_0 (k := 16) rfl
theorem dX5_pointValue_23 : decode cX5_pointValue 23 = .ok (.aload_n 0, 1) := dchk_at dall_X5_pointValue_20_st05_0 (k := 17) rfl
theorem dX5_pointValue_24 : decode cX5_pointValue 24 = .ok (.getfield 11, 3) := dchk_at dall_X5_pointValue_20_st05_0 (k := 18) rfl
theorem dX5_pointValue_27 : decode cX5_pointValue 27 = .ok (.iconst 3, 1) := dchk_at dall_X5_pointValue_20_st05_0 (k := 19) rfl
theorem dX5_pointValue_28 : decode cX5_pointValue 28 = .ok (.iaload, 1) := dchk_at dall_X5_pointValue_20_st05_0 (k := 20) rfl
theorem dX5_pointValue_29 : decode cX5_pointValue 29 = .ok (.iload_n 3, 1) := dchk_at dall_X5_pointValue_20_st05_0 (k := 21) rfl
theorem dX5_pointValue_30 : decode cX5_pointValue 30 = .ok (.imul, 1) := dchk_at dall_X5_pointValue_20_st05_0 (k := 22) rfl
theorem dX5_pointValue_31 : decode cX5_pointValue 31 = .ok (.iadd, 1) := dchk_at dall_X5_pointValue_20_st05_0 (k := 23) rfl
theorem dX5_pointValue_32 : decode cX5_pointValue 32 = .ok (.i2l, 1) := dchk_at dall_X5_pointValue_20_st05_0 (k := 24) rfl
theorem dX5_pointValue_33 : decode cX5_pointValue 33 = .ok (.invokevirtual 75, 3) := dchk_at dall_X5_pointValue_20_st05_0 (k := 25) rfl
theorem dX5_pointValue_36 : decode cX5_pointValue 36 = .ok (.lreturn, 1) := dchk_at dall_X5_pointValue_20_st05_0 (k := 26) rfl
def dl_X5_quietSites_20_st05_0 : List (Nat × Instr × Nat) := [(4, .iload_n 2, 1), (5, .aload_n 0, 1), (6, .invokevirtual 45, 3), (9, .if_icmp .ge 27, 3), (12, .iload_n 1, 1), (13, .aload_n 0, 1), (14, .iload_n 2, 1), (15, .invokevirtual 99, 3), (18, .ifCond .eq 9, 3), (27, .iconst 0, 1), (28, .ior, 1), (29, .istore_n 1, 1), (30, .iinc 2 1, 3), (33, .goto (-29), 3), (21, .iconst 1, 1), (22, .iload_n 2, 1), (23, .ishl, 1), (24, .goto 4, 3), (0, .iconst 0, 1), (1, .istore_n 1, 1), (2, .iconst 0, 1), (3, .istore_n 2, 1), (36, .iload_n 1, 1), (37, .ireturn, 1)]
set_option maxRecDepth 100000 in
theorem dall_X5_quietSites_20_st05_0 : dchk cX5_quietSites dl_X5_quietSites_20_st05_0 = true := by decide +kernel
theorem dX5_quietSites_4 : decode cX5_quietSites 4 = .ok (.iload_n 2, 1) := dchk_at dall_X5_quietSites_20_st05_0 (k := 0) rfl
theorem dX5_quietSites_5 : decode cX5_quietSites 5 = .ok (.aload_n 0, 1) := dchk_at dall_X5_quietSites_20_st05_0 (k := 1) rfl
theorem dX5_quietSites_6 : decode cX5_quietSites 6 = .ok (.invokevirtual 45, 3) := dchk_at dall_X5_quietSites_20_st05_0 (k := 2) rfl
theorem dX5_quietSites_9 : decode cX5_quietSites 9 = .ok (.if_icmp .ge 27, 3) := dchk_at dall_X5_quietSites_20_st05_0 (k := 3) rfl
theorem dX5_quietSites_12 : decode cX5_quietSites 12 = .ok (.iload_n 1, 1) := dchk_at dall_X5_quietSites_20_st05_0 (k := 4) rfl
theorem dX5_quietSites_13 : decode cX5_quietSites 13 = .ok (.aload_n 0, 1) := dchk_at dall_X5_quietSites_20_st05_0 (k := 5) rfl
theorem dX5_quietSites_14 : decode cX5_quietSites 14 = .ok (.iload_n 2, 1) := dchk_at dall_X5_quietSites_20_st05_0 (k := 6) rfl
theorem dX5_quietSites_15 : decode cX5_quietSites 15 = .ok (.invokevirtual 99, 3) := dchk_at dall_X5_quietSites_20_st05_0 (k := 7) rfl
theorem dX5_quietSites_18 : decode cX5_quietSites 18 = .ok (.ifCond .eq 9, 3) := dchk_at dall_X5_quietSites_20_st05_0 (k := 8) rfl
theorem dX5_quietSites_27 : decode cX5_quietSites 27 = .ok (.iconst 0, 1) := dchk_at dall_X5_quietSites_20_st05_0 (k := 9) rfl
theorem dX5_quietSites_28 : decode cX5_quietSites 28 = .ok (.ior, 1) := dchk_at dall_X5_quietSites_20_st05_0 (k := 10) rfl
theorem dX5_quietSites_29 : decode cX5_quietSites 29 = .ok (.istore_n 1, 1) := dchk_at dall_X5_quietSites_20_st05_0 (k := 11) rfl
theorem dX5_quietSites_30 : decode cX5_quietSites 30 = .ok (.iinc 2 1, 3) := dchk_at dall_X5_quietSites_20_st05_0 (k := 12) rfl
theorem dX5_quietSites_33 : decode cX5_quietSites 33 = .ok (.goto (-29), 3) := dchk_at dall_X5_quietSites_20_st05_0 (k := 13) rfl
theorem dX5_quietSites_21 : decode cX5_quietSites 21 = .ok (.iconst 1, 1) := dchk_at dall_X5_quietSites_20_st05_0 (k := 14) rfl
theorem dX5_quietSites_22 : decode cX5_quietSites 22 = .ok (.iload_n 2, 1) := dchk_at dall_X5_quietSites_20_st05_0 (k := 15) rfl
theorem dX5_quietSites_23 : decode cX5_quietSites 23 = .ok (.ishl, 1) := dchk_at dall_X5_quietSites_20_st05_0 (k := 16) rfl
theorem dX5_quietSites_24 : decode cX5_quietSites 24 = .ok (.goto 4, 3) := dchk_at dall_X5_quietSites_20_st05_0 (k := 17) rfl
theorem dX5_quietSites_0 : decode cX5_quietSites 0 = .ok (.iconst 0, 1) := dchk_at dall_X5_quietSites_20_st05_0 (k := 18) rfl
theorem dX5_quietSites_1 : decode cX5_quietSites 1 = .ok (.istore_n 1, 1) := dchk_at dall_X5_quietSites_20_st05_0 (k := 19) rfl
theorem dX5_quietSites_2 : decode cX5_quietSites 2 = .ok (.iconst 0, 1) := dchk_at dall_X5_quietSites_20_st05_0 (k := 20) rfl
theorem dX5_quietSites_3 : decode cX5_quietSites 3 = .ok (.istore_n 2, 1) := dchk_at dall_X5_quietSites_20_st05_0 (k := 21) rfl
theorem dX5_quietSites_36 : decode cX5_quietSites 36 = .ok (.iload_n 1, 1) := dchk_at dall_X5_quietSites_20_st05_0 (k := 22) rfl
theorem dX5_quietSites_37 : decode cX5_quietSites 37 = .ok (.ireturn, 1) := dchk_at dall_X5_quietSites_20_st05_0 (k := 23) rfl
def dl_X5_stands_20_st05_0 : List (Nat × Instr × Nat) := [(0, .aload_n 0, 1), (1, .getfield 11, 3), (4, .iconst 3, 1), (5, .iaload, 1), (6, .ifCond .le 7, 3), (13, .iconst 0, 1), (14, .ireturn, 1), (9, .iconst 1, 1), (10, .goto 4, 3)]
set_option maxRecDepth 100000 in
theorem dall_X5_stands_20_st05_0 : dchk cX5_stands dl_X5_stands_20_st05_0 = true := by decide +kernel
theorem dX5_stands_0 : decode cX5_stands 0 = .ok (.aload_n 0, 1) := dchk_at dall_X5_stands_20_st05_0 (k := 0) rfl
theorem dX5_stands_1 : decode cX5_stands 1 = .ok (.getfield 11, 3) := dchk_at dall_X5_stands_20_st05_0 (k := 1) rfl
theorem dX5_stands_4 : decode cX5_stands 4 = .ok (.iconst 3, 1) := dchk_at dall_X5_stands_20_st05_0 (k := 2) rfl
theorem dX5_stands_5 : decode cX5_stands 5 = .ok (.iaload, 1) := dchk_at dall_X5_stands_20_st05_0 (k := 3) rfl
theorem dX5_stands_6 : decode cX5_stands 6 = .ok (.ifCond .le 7, 3) := dchk_at dall_X5_stands_20_st05_0 (k := 4) rfl
theorem dX5_stands_13 : decode cX5_stands 13 = .ok (.iconst 0, 1) := dchk_at dall_X5_stands_20_st05_0 (k := 5) rfl
theorem dX5_stands_14 : decode cX5_stands 14 = .ok (.ireturn, 1) := dchk_at dall_X5_stands_20_st05_0 (k := 6) rfl
theorem dX5_stands_9 : decode cX5_stands 9 = .ok (.iconst 1, 1) := dchk_at dall_X5_stands_20_st05_0 (k := 7) rfl
theorem dX5_stands_10 : decode cX5_stands 10 = .ok (.goto 4, 3) := dchk_at dall_X5_stands_20_st05_0 (k := 8) rfl
def dl_X5_setRefusal_20_st05_0 : List (Nat × Instr × Nat) := [(0, .iload_n 0, 1), (1, .iload_n 1, 1), (2, .if_icmp .lt 8, 3), (10, .iconst 1, 1), (11, .ireturn, 1), (5, .iload_n 0, 1), (6, .iload_n 2, 1), (7, .if_icmp .le 5, 3), (12, .iload_n 0, 1), (13, .iload_n 3, 1), (14, .if_icmp .ne 7, 3), (21, .iconst (-1), 1), (22, .ireturn, 1), (17, .iconst 2, 1), (18, .goto 4, 3)]
set_option maxRecDepth 100000 in
theorem dall_X5_setRefusal_20_st05_0 : dchk cX5_setRefusal dl_X5_setRefusal_20_st05_0 = true := by decide +kernel
theorem dX5_setRefusal_0 : decode cX5_setRefusal 0 = .ok (.iload_n 0, 1) := dchk_at dall_X5_setRefusal_20_st05_0 (k := 0) rfl
theorem dX5_setRefusal_1 : decode cX5_setRefusal 1 = .ok (.iload_n 1, 1) := dchk_at dall_X5_setRefusal_20_st05_0 (k := 1) rfl
theorem dX5_setRefusal_2 : decode cX5_setRefusal 2 = .ok (.if_icmp .lt 8, 3) := dchk_at dall_X5_setRefusal_20_st05_0 (k := 2) rfl
theorem dX5_setRefusal_10 : decode cX5_setRefusal 10 = .ok (.iconst 1, 1) := dchk_at dall_X5_setRefusal_20_st05_0 (k := 3) rfl
theorem dX5_setRefusal_11 : decode cX5_setRefusal 11 = .ok (.ireturn, 1) := dchk_at dall_X5_setRefusal_20_st05_0 (k := 4) rfl
theorem dX5_setRefusal_5 : decode cX5_setRefusal 5 = .ok (.iload_n 0, 1) := dchk_at dall_X5_setRefusal_20_st05_0 (k := 5) rfl
theorem dX5_setRefusal_6 : decode cX5_setRefusal 6 = .ok (.iload_n 2, 1) := dchk_at dall_X5_setRefusal_20_st05_0 (k := 6) rfl
theorem dX5_setRefusal_7 : decode cX5_setRefusal 7 = .ok (.if_icmp .le 5, 3) := dchk_at dall_X5_setRefusal_20_st05_0 (k := 7) rfl
theorem dX5_setRefusal_12 : decode cX5_setRefusal 12 = .ok (.iload_n 0, 1) := dchk_at dall_X5_setRefusal_20_st05_0 (k := 8) rfl
theorem dX5_setRefusal_13 : decode cX5_setRefusal 13 = .ok (.iload_n 3, 1) := dchk_at dall_X5_setRefusal_20_st05_0 (k := 9) rfl
theorem dX5_setRefusal_14 : decode cX5_setRefusal 14 = .ok (.if_icmp .ne 7, 3) := dchk_at dall_X5_setRefusal_20_st05_0 (k := 10) rfl
theorem dX5_setRefusal_21 : decode cX5_setRefusal 21 = .ok (.iconst (-1), 1) := dchk_at dall_X5_setRefusal_20_st05_0 (k := 11) rfl
theorem dX5_setRefusal_22 : decode cX5_setRefusal 22 = .ok (.ireturn, 1) := dchk_at dall_X5_setRefusal_20_st05_0 (k := 12) rfl
theorem dX5_setRefusal_17 : decode cX5_setRefusal 17 = .ok (.iconst 2, 1) := dchk_at dall_X5_setRefusal_20_st05_0 (k := 13) rfl
theorem dX5_setRefusal_18 : decode cX5_setRefusal 18 = .ok (.goto 4, 3) := dchk_at dall_X5_setRefusal_20_st05_0 (k := 14) rfl
def F_X5_doAct (K : Nat) (p1 : Int32) (p2 : Int32) (p3 : Int32) (p4 : Int32) (c_row : Nat → Int32) (c_partners : Nat → Int32) (c_askedCount : Int32) (c_outcome : Int32) (c_share : Nat → Int32) (c_leftOver : Nat → Int32) : Option (Int32 × (Nat → Int32) × (Nat → Int32) × Int32 × Int32 × (Nat → Int32) × (Nat → Int32)) :=
  if p1 = (0 : Int32) then bd7 (F_X5_moveSite K p2 p3 p4 c_row c_partners c_askedCount c_outcome c_share c_leftOver) (fun r_2 w_3 w_4 w_5 w_6 w_7 w_8 => nmF (upd w_3 11 ((w_3 11) + r_2)) (fun f_10 => some (r_2, f_10, w_4, w_5, w_6, w_7, w_8))) else if p1 = (1 : Int32) then bd2 (F_X5_hearByHand K c_row) (fun r_11 w_12 => nmF (upd w_12 11 ((w_12 11) + r_11)) (fun f_14 => some (r_11, f_14, c_partners, c_askedCount, c_outcome, c_share, c_leftOver))) else if p1 = (2 : Int32) then nmF (upd c_row 1 p2) (fun f_15 => bd2 (F_X5_hearByHand K f_15) (fun r_16 w_17 => nmF (upd w_17 11 ((w_17 11) + r_16)) (fun f_19 => some (r_16, f_19, c_partners, c_askedCount, c_outcome, c_share, c_leftOver)))) else if p1 = (3 : Int32) then nmF (upd c_row 0 p2) (fun f_20 => bd2 (F_X5_hearByHand K f_20) (fun r_21 w_22 => nmF (upd w_22 11 ((w_22 11) + r_21)) (fun f_24 => some (r_21, f_24, c_partners, c_askedCount, c_outcome, c_share, c_leftOver)))) else if p1 = (4 : Int32) then bd2 (F_X5_addTo K p2 p3 c_row) (fun r_25 w_26 => nmF (upd w_26 11 ((w_26 11) + r_25)) (fun f_28 => some (r_25, f_28, c_partners, c_askedCount, c_outcome, c_share, c_leftOver))) else if p1 = (5 : Int32) then bd1 (F_X5_startCounts K p2 c_row) (fun w_29 => nmF (upd w_29 11 ((w_29 11) + (0 : Int32))) (fun f_31 => some ((0 : Int32), f_31, c_partners, c_askedCount, c_outcome, c_share, c_leftOver))) else if p1 = (6 : Int32) then nmF (upd c_row 7 ((c_row 7) ^^^ ((1 : Int32) <<< (p2 &&& (31 : Int32))))) (fun f_32 => nmF (upd f_32 11 ((f_32 11) + (0 : Int32))) (fun f_33 => some ((0 : Int32), f_33, c_partners, c_askedCount, c_outcome, c_share, c_leftOver))) else nmF (upd c_row 11 ((c_row 11) + (0 : Int32))) (fun f_34 => some ((0 : Int32), f_34, c_partners, c_askedCount, c_outcome, c_share, c_leftOver))
abbrev w_X5_doAct (E : EE) (a_ a_row a_partners a_share a_leftOver : Nat) (c_askedCount : Int32) (c_outcome : Int32) (c_row : Nat → Int32) (c_partners : Nat → Int32) (c_share : Nat → Int32) (c_leftOver : Nat → Int32) : va_W := [(a_, .inr (6, [.ref a_row, .ref a_partners, .int c_askedCount, .int c_outcome, .ref a_share, .ref a_leftOver])), (a_row, .inl (E.2.1, 81, .inl c_row)), (a_partners, .inl (E.2.1, 8, .inl c_partners)), (a_share, .inl (E.2.1, 2, .inl c_share)), (a_leftOver, .inl (E.2.1, 2, .inl c_leftOver))]
def v_f_X5_doAct : List Cond := List.cons (.code yX5_doAct cX5_doAct 6 (some .int)) (HAppend.hAppend (α := List Cond) (β := List Cond) (γ := List Cond) [.fieldLink RX5 11 "HushWatch$State" "row" "[I", .methodLink RX5 137 yX5_moveSite, .instanceMethod yX5_moveSite, .selects RX5 yX5_moveSite yX5_moveSite, .initialized RX5, .methodLink RX5 140 yX5_hearByHand, .instanceMethod yX5_hearByHand, .selects RX5 yX5_hearByHand yX5_hearByHand, .methodLink RX5 143 yX5_addTo, .instanceMethod yX5_addTo, .selects RX5 yX5_addTo yX5_addTo, .methodLink RX5 146 yX5_startCounts, .instanceMethod yX5_startCounts, .selects RX5 yX5_startCounts yX5_startCounts] (HAppend.hAppend (α := List Cond) (β := List Cond) (γ := List Cond) v_f_X5_moveSite (HAppend.hAppend (α := List Cond) (β := List Cond) (γ := List Cond) wsX50 (HAppend.hAppend (α := List Cond) (β := List Cond) (γ := List Cond) v_f_X5_hearByHand (HAppend.hAppend (α := List Cond) (β := List Cond) (γ := List Cond) v_f_X5_addTo (HAppend.hAppend (α := List Cond) (β := List Cond) (γ := List Cond) v_f_X5_startCounts []))))))
theorem gw_f_X5_doAct : v_f_X5_doAct.all goodWord = true := by decide +kernel
theorem i_f_X5_doAct_X5 : ∀ w ∈ wsX50, w ∈ v_f_X5_doAct := fun _ h => List.mem_cons_of_mem _ (List.mem_append_right _ (List.mem_append_right _ (List.mem_append_left _ h)))
theorem g_f_X5_doAct_f_X5_moveSite_137 : GoodIn v_f_X5_doAct (wsV RX5 137 RX5 yX5_moveSite v_f_X5_moveSite) := goodIn_app (goodIn_of _ (by decide +kernel)) (goodIn_sub (fun _ h => List.mem_cons_of_mem _ (List.mem_append_right _ (List.mem_append_left _ h))) gw_f_X5_moveSite)
theorem g_f_X5_doAct_f_X5_hearByHand_140 : GoodIn v_f_X5_doAct (wsV RX5 140 RX5 yX5_hearByHand v_f_X5_hearByHand) := goodIn_app (goodIn_of _ (by decide +kernel)) (goodIn_sub (fun _ h => List.mem_cons_of_mem _ (List.mem_append_right _ (List.mem_append_right _ (List.mem_append_right _ (List.mem_append_left _ h))))) gw_f_X5_hearByHand)
theorem g_f_X5_doAct_f_X5_addTo_143 : GoodIn v_f_X5_doAct (wsV RX5 143 RX5 yX5_addTo v_f_X5_addTo) := goodIn_app (goodIn_of _ (by decide +kernel)) (goodIn_sub (fun _ h => List.mem_cons_of_mem _ (List.mem_append_right _ (List.mem_append_right _ (List.mem_append_right _ (List.mem_append_right _ (List.mem_append_left _ h)))))) gw_f_X5_addTo)
theorem g_f_X5_doAct_f_X5_startCounts_146 : GoodIn v_f_X5_doAct (wsV RX5 146 RX5 yX5_startCounts v_f_X5_startCounts) := goodIn_app (goodIn_of _ (by decide +kernel)) (goodIn_sub (fun _ h => List.mem_cons_of_mem _ (List.mem_append_right _ (List.mem_append_right _ (List.mem_append_right _ (List.mem_append_right _ (List.mem_append_right _ (List.mem_append_left _ h))))))) gw_f_X5_startCounts)
theorem hd_X5_doAct : yX5_doAct.cls = RX5 ∧ yX5_doAct.cls ≠ "java/lang/invoke/MethodHandle" ∧ yX5_doAct.cls ≠ "java/lang/invoke/VarHandle" ∧ (parseMethodDescriptor yX5_doAct.desc).map (fun d => d.parameters.length) = some 4 := by decide +kernel
set_option maxHeartbeats 4000000 in
set_option maxRecDepth 100000 in
theorem f_X5_doAct (l : Launch) (E : EE) (sz : Nat) (K : Nat) {a_ a_row a_partners a_share a_leftOver : Nat} {p1 : Int32} {p2 : Int32} {p3 : Int32} {p4 : Int32} {c_askedCount : Int32} {c_outcome : Int32} {c_row : Nat → Int32} {c_partners : Nat → Int32} {c_share : Nat → Int32} {c_leftOver : Nat → Int32} {rr : Int32} {n_row : Nat → Int32} {n_partners : Nat → Int32} {n_askedCount : Int32} {n_outcome : Int32} {n_share : Nat → Int32} {n_leftOver : Nat → Int32} (hF : F_X5_doAct K p1 p2 p3 p4 c_row c_partners c_askedCount c_outcome c_share c_leftOver = some (rr, n_row, n_partners, n_askedCount, n_outcome, n_share, n_leftOver)) : Met l yX5_doAct v_f_X5_doAct (({ frames := 4, cells := 0, slots := 0, locals := 99 } : Room)) (va_Pc [.ref a_, .int p1, .int p2, .int p3, .int p4] (pW E sz (w_X5_doAct E a_ a_row a_partners a_share a_leftOver c_askedCount c_outcome c_row c_partners c_share c_leftOver))) (va_Qi (fun (q : Int32) (_u : Unit) => q = rr) (fun (_u : Unit) tt => va_P E.1 vwCl (w_X5_doAct E a_ a_row a_partners a_share a_leftOver n_askedCount n_outcome n_row n_partners n_share n_leftOver) tt.heap ∧ va_D (va_A (w_X5_doAct E a_ a_row a_partners a_share a_leftOver c_askedCount c_outcome c_row c_partners c_share c_leftOver) sz) (w_X5_doAct E a_ a_row a_partners a_share a_leftOver n_askedCount n_outcome n_row n_partners n_share n_leftOver)) (va_A (w_X5_doAct E a_ a_row a_partners a_share a_leftOver c_askedCount c_outcome c_row c_partners c_share c_leftOver) sz)) 0 0 (va_A (w_X5_doAct E a_ a_row a_partners a_share a_leftOver c_askedCount c_outcome c_row c_partners c_share c_leftOver) sz) := by
  refine Met.ofW (cc := cX5_doAct) (maxL := 6) (ret := (some .int)) (by decide) rfl ?_
  intro p e s m args below meth c s₁ B hml hv
  obtain ⟨rfl, hsz, ⟨hK, hN⟩, hP, hD0⟩ := hv
  have hx := B.exec
  have hb := B.bytes
  have hr := B.returns
  have hts := atoms_spec (ws := v_f_X5_doAct) B.pre
  have hown : s.vm.findClass RX5 = some m.cls := own_of hd_X5_doAct.1 (findClass_of_methodNamed B.named)
  have hlocks : meth.locks = false := B.notSynchronized
  subst hsz
  have hD := hD0.self (sz := s.heap.size)
  generalize hAe : va_A (w_X5_doAct E a_ a_row a_partners a_share a_leftOver c_askedCount c_outcome c_row c_partners c_share c_leftOver) s.heap.size = A at hD ⊢
  have hA : ∀ q : Nat, s.heap.size ≤ q → A q := fun q h => by rw [← hAe]; exact Or.inr h
  have hS : va_S A s.heap s.heap [] := va_S.rf
  have hl := lv_entry ([.ref a_, .int p1, .int p2, .int p3, .int p4]) (n := 6) (Nat.le_of_ble_eq_true rfl)
  rw [lg_entry_eq]
  generalize (lg_sl ([.ref a_, .int p1, .int p2, .int p3, .int p4]) ++ List.replicate (6 - (lg_sl ([.ref a_, .int p1, .int p2, .int p3, .int p4])).length) Slot.unset).toArray = ls at hl ⊢
  have hl : lv_has ls 6 [(0, .ref a_), (1, .int p1), (2, .int p2), (3, .int p3), (4, .int p4)] := hl
  obtain ⟨Q, hQ⟩ : ∃ Q : State → Prop, Q = MQ below (va_Qi (fun (q : Int32) (_u : Unit) => q = rr) (fun (_u : Unit) tt => va_P E.1 vwCl (w_X5_doAct E a_ a_row a_partners a_share a_leftOver n_askedCount n_outcome n_row n_partners n_share n_leftOver) tt.heap ∧ va_D A (w_X5_doAct E a_ a_row a_partners a_share a_leftOver n_askedCount n_outcome n_row n_partners n_share n_leftOver)) A) #[Value.ref a_, Value.int p1, Value.int p2, Value.int p3, Value.int p4] s 0 0 A := ⟨_, rfl⟩
  rw [← hQ]
  change W p l e ({ frames := 4, cells := 0, slots := 0, locals := 99 } : Room) s m #[Value.ref a_, Value.int p1, Value.int p2, Value.int p3, Value.int p4] below meth c s.heap [] 0 0 Q (F0 m 0 ls [])
  suffices hh9 : ∀ (H : Heap) (locs : List Loc), va_P E.1 vwCl (w_X5_doAct E a_ a_row a_partners a_share a_leftOver c_askedCount c_outcome c_row c_partners c_share c_leftOver) H → va_D A (w_X5_doAct E a_ a_row a_partners a_share a_leftOver c_askedCount c_outcome c_row c_partners c_share c_leftOver) → va_S A s.heap H locs → W p l e ({ frames := 4, cells := 0, slots := 0, locals := 99 } : Room) s m #[Value.ref a_, Value.int p1, Value.int p2, Value.int p3, Value.int p4] below meth c H locs 0 0 Q (F0 m 0 ls []) from hh9 s.heap [] hP hD hS
  clear hP hD hS
  intro H locs hP hD hS
  replace hP : va_P E.1 vwCl [(a_, .inr (6, [.ref a_row, .ref a_partners, .int c_askedCount, .int c_outcome, .ref a_share, .ref a_leftOver])), (a_row, .inl (E.2.1, 81, .inl c_row)), (a_partners, .inl (E.2.1, 8, .inl c_partners)), (a_share, .inl (E.2.1, 2, .inl c_share)), (a_leftOver, .inl (E.2.1, 2, .inl c_leftOver))] H := hP
  replace hD : va_D A [(a_, .inr (6, [.ref a_row, .ref a_partners, .int c_askedCount, .int c_outcome, .ref a_share, .ref a_leftOver])), (a_row, .inl (E.2.1, 81, .inl c_row)), (a_partners, .inl (E.2.1, 8, .inl c_partners)), (a_share, .inl (E.2.1, 2, .inl c_share)), (a_leftOver, .inl (E.2.1, 2, .inl c_leftOver))] := hD
  unfold F_X5_doAct at hF
  refine lv_iconst (v := 0) hx hb dX5_doAct_0 (by decide) ?_
  refine lv_istore (lv' := [(5, .int (0 : Int32)), (0, .ref a_), (1, .int p1), (2, .int p2), (3, .int p3), (4, .int p4)]) hx hb dX5_doAct_1 hl (by decide) rfl (fun ls hl => ?_)
  refine lv_iload_n hx hb dX5_doAct_3 rfl (lv_at hl 2 rfl) ?_
  rcases Classical.em (p1 = (0 : Int32)) with c_1_0 | c_1_0
  ·
    replace hF := ip c_1_0 hF
    refine lv_tableIn (off := 44) (tgt := 48) hx hb dX5_doAct_4 (by rw [c_1_0]; decide) (by rw [c_1_0]; decide) (by rw [c_1_0]; decide) (by decide) ?_
    refine lv_aload_n hx hb dX5_doAct_48 rfl (lv_at hl 1 rfl) ?_
    refine lv_iload_n hx hb dX5_doAct_49 rfl (lv_at hl 3 rfl) ?_
    refine lv_iload_n hx hb dX5_doAct_50 rfl (lv_at hl 4 rfl) ?_
    refine lv_iload hx hb dX5_doAct_51 (lv_at hl 5 rfl) ?_
    replace hF := bd7_s hF
    obtain ⟨r_2, w_3, w_4, w_5, w_6, w_7, w_8, hc_9, hF⟩ := hF
    obtain ⟨hPc, hDc, hFc⟩ := wcut (wc := (w_X5_moveSite E a_ a_row a_partners a_share a_leftOver c_askedCount c_outcome c_row c_partners c_share c_leftOver)) hP hD hS hA [0, 1, 2, 3, 4] (by decide) rfl
    have hrc := va_recv hK hPc (ci := 6) (q0 := 0) rfl rfl
    refine cE_i (wc := (w_X5_moveSite E a_ a_row a_partners a_share a_leftOver c_askedCount c_outcome c_row c_partners c_share c_leftOver)) (wr := []) (w1 := (w_X5_moveSite E a_ a_row a_partners a_share a_leftOver w_5 w_6 w_3 w_4 w_7 w_8)) (va_runV (As := [.int p2, .int p3, .int p4]) (rest := [])  ⟨hx, hb, hml, hown, hts⟩ (f_X5_moveSite l E H.size K (a_ := a_) (a_row := a_row) (a_partners := a_partners) (a_share := a_share) (a_leftOver := a_leftOver) (p1 := p2) (p2 := p3) (p3 := p4) (c_askedCount := c_askedCount) (c_outcome := c_outcome) (c_row := c_row) (c_partners := c_partners) (c_share := c_share) (c_leftOver := c_leftOver) hc_9) (cwV 3 hts g_f_X5_doAct_f_X5_moveSite_137 rfl rfl rfl hd_X5_moveSite ⟨Nat.le_of_ble_eq_true rfl, Nat.le_of_ble_eq_true rfl⟩) ⟨pW.blind, hrc, (pW.pre ⟨hK, hN⟩ hPc hDc)⟩ rfl rfl hl.1 rfl (lv_room (Nat.le_of_ble_eq_true rfl)) dX5_doAct_53 ⟨Nat.le_of_ble_eq_true rfl, Nat.le_of_ble_eq_true rfl⟩) hS hFc hP hD [0, 1, 2, 3, 4] [] rfl rfl (by decide) (by decide) (fun H locs hP hD hS => ?_)
    replace hP : va_P E.1 vwCl [(a_, .inr (6, [.ref a_row, .ref a_partners, .int w_5, .int w_6, .ref a_share, .ref a_leftOver])), (a_row, .inl (E.2.1, 81, .inl w_3)), (a_partners, .inl (E.2.1, 8, .inl w_4)), (a_share, .inl (E.2.1, 2, .inl w_7)), (a_leftOver, .inl (E.2.1, 2, .inl w_8))] H := hP
    replace hD : va_D A [(a_, .inr (6, [.ref a_row, .ref a_partners, .int w_5, .int w_6, .ref a_share, .ref a_leftOver])), (a_row, .inl (E.2.1, 81, .inl w_3)), (a_partners, .inl (E.2.1, 8, .inl w_4)), (a_share, .inl (E.2.1, 2, .inl w_7)), (a_leftOver, .inl (E.2.1, 2, .inl w_8))] := hD
    refine lv_istore (lv' := [(5, .int r_2), (0, .ref a_), (1, .int p1), (2, .int p2), (3, .int p3), (4, .int p4)]) hx hb dX5_doAct_56 hl (by decide) rfl (fun ls hl => ?_)
    refine lv_goto (tgt := 137) hx hb dX5_doAct_58 (by decide) ?_
    refine lv_aload_n hx hb dX5_doAct_137 rfl (lv_at hl 1 rfl) ?_
    refine gt_X5_0 (v := .ref a_row) hx hb hts i_f_X5_doAct_X5 hown hK hP 0 rfl (hts (.fieldLink RX5 11 "HushWatch$State" "row" "[I") (List.mem_of_getElem? (i := 1) rfl)) rfl dX5_doAct_138 ?_
    refine lv_bipush (v := 11) hx hb dX5_doAct_141 (by decide) ?_
    refine lv_dup2_11 hx hb dX5_doAct_143 rfl rfl ?_
    refine va_iald hx hb hK hP 1 0 rfl rfl (vin rfl) dX5_doAct_144 ?_
    refine W.eq (g2 := F0 m 145 ls [.int (w_3 11), .int (11 : Int32), .ref a_row]) rfl ?_
    refine lv_iload hx hb dX5_doAct_145 (lv_at hl 0 rfl) ?_
    refine lv_iadd hx hb dX5_doAct_147 ?_
    refine va_iast hx hb hK hP hD hS 1 0 rfl rfl (vin rfl) dX5_doAct_148 (fun H locs hP hD hS => ?_)
    replace hP : va_P E.1 vwCl [(a_, .inr (6, [.ref a_row, .ref a_partners, .int w_5, .int w_6, .ref a_share, .ref a_leftOver])), (a_row, .inl (E.2.1, 81, .inl (upd w_3 11 ((w_3 11) + r_2)))), (a_partners, .inl (E.2.1, 8, .inl w_4)), (a_share, .inl (E.2.1, 2, .inl w_7)), (a_leftOver, .inl (E.2.1, 2, .inl w_8))] H := hP
    replace hD : va_D A [(a_, .inr (6, [.ref a_row, .ref a_partners, .int w_5, .int w_6, .ref a_share, .ref a_leftOver])), (a_row, .inl (E.2.1, 81, .inl (upd w_3 11 ((w_3 11) + r_2)))), (a_partners, .inl (E.2.1, 8, .inl w_4)), (a_share, .inl (E.2.1, 2, .inl w_7)), (a_leftOver, .inl (E.2.1, 2, .inl w_8))] := hD
    replace hF := nm_s hF
    obtain ⟨f_10, hf_10, hF⟩ := hF
    rw [← hf_10] at hP hD
    refine lv_iload hx hb dX5_doAct_149 (lv_at hl 0 rfl) ?_
    rw [hQ]
    have h9 := fin9 (P := fun u9 : Int32 × (Nat → Int32) × (Nat → Int32) × Int32 × Int32 × (Nat → Int32) × (Nat → Int32) => r_2 = u9.1 ∧ va_P E.1 vwCl (w_X5_doAct E a_ a_row a_partners a_share a_leftOver u9.2.2.2.1 u9.2.2.2.2.1 u9.2.1 u9.2.2.1 u9.2.2.2.2.2.1 u9.2.2.2.2.2.2) H ∧ va_D A (w_X5_doAct E a_ a_row a_partners a_share a_leftOver u9.2.2.2.1 u9.2.2.2.2.1 u9.2.1 u9.2.2.1 u9.2.2.2.2.2.1 u9.2.2.2.2.2.2)) hF ⟨rfl, hP, hD⟩
    obtain ⟨e9_0, hP9, hD9⟩ := h9
    exact W.iret (v := r_2) hx hb hr (fun tt ht hW => ⟨⟨_, (), rfl, e9_0, ht ▸ hP9, hD9⟩, hS.F ht⟩) hS.2.2 dX5_doAct_151
  replace hF := inn c_1_0 hF
  rcases Classical.em (p1 = (1 : Int32)) with c_1_1 | c_1_1
  ·
    replace hF := ip c_1_1 hF
    refine lv_tableIn (off := 57) (tgt := 61) hx hb dX5_doAct_4 (by rw [c_1_1]; decide) (by rw [c_1_1]; decide) (by rw [c_1_1]; decide) (by decide) ?_
    refine lv_aload_n hx hb dX5_doAct_61 rfl (lv_at hl 1 rfl) ?_
    replace hF := bd2_s hF
    obtain ⟨r_11, w_12, hc_13, hF⟩ := hF
    obtain ⟨hPc, hDc, hFc⟩ := wcut (wc := (w_X5_hearByHand E a_ a_row a_partners a_share a_leftOver c_askedCount c_outcome c_row)) hP hD hS hA [0, 1] (by decide) rfl
    have hrc := va_recv hK hPc (ci := 6) (q0 := 0) rfl rfl
    refine cE_i (wc := (w_X5_hearByHand E a_ a_row a_partners a_share a_leftOver c_askedCount c_outcome c_row)) (wr := [(a_partners, .inl (E.2.1, 8, .inl c_partners)), (a_share, .inl (E.2.1, 2, .inl c_share)), (a_leftOver, .inl (E.2.1, 2, .inl c_leftOver))]) (w1 := (w_X5_hearByHand E a_ a_row a_partners a_share a_leftOver c_askedCount c_outcome w_12)) (va_runV (As := []) (rest := [])  ⟨hx, hb, hml, hown, hts⟩ (f_X5_hearByHand l E H.size K (a_ := a_) (a_row := a_row) (a_partners := a_partners) (a_share := a_share) (a_leftOver := a_leftOver) (c_askedCount := c_askedCount) (c_outcome := c_outcome) (c_row := c_row) hc_13) (cwV 0 hts g_f_X5_doAct_f_X5_hearByHand_140 rfl rfl rfl hd_X5_hearByHand ⟨Nat.le_of_ble_eq_true rfl, Nat.le_of_ble_eq_true rfl⟩) ⟨pW.blind, hrc, (pW.pre ⟨hK, hN⟩ hPc hDc)⟩ rfl rfl hl.1 rfl (lv_room (Nat.le_of_ble_eq_true rfl)) dX5_doAct_62 ⟨Nat.le_of_ble_eq_true rfl, Nat.le_of_ble_eq_true rfl⟩) hS hFc hP hD [0, 1] [2, 3, 4] rfl rfl (by decide) (by decide) (fun H locs hP hD hS => ?_)
    replace hP : va_P E.1 vwCl [(a_partners, .inl (E.2.1, 8, .inl c_partners)), (a_share, .inl (E.2.1, 2, .inl c_share)), (a_leftOver, .inl (E.2.1, 2, .inl c_leftOver)), (a_, .inr (6, [.ref a_row, .ref a_partners, .int c_askedCount, .int c_outcome, .ref a_share, .ref a_leftOver])), (a_row, .inl (E.2.1, 81, .inl w_12))] H := hP
    replace hD : va_D A [(a_partners, .inl (E.2.1, 8, .inl c_partners)), (a_share, .inl (E.2.1, 2, .inl c_share)), (a_leftOver, .inl (E.2.1, 2, .inl c_leftOver)), (a_, .inr (6, [.ref a_row, .ref a_partners, .int c_askedCount, .int c_outcome, .ref a_share, .ref a_leftOver])), (a_row, .inl (E.2.1, 81, .inl w_12))] := hD
    refine lv_istore (lv' := [(5, .int r_11), (0, .ref a_), (1, .int p1), (2, .int p2), (3, .int p3), (4, .int p4)]) hx hb dX5_doAct_65 hl (by decide) rfl (fun ls hl => ?_)
    refine lv_goto (tgt := 137) hx hb dX5_doAct_67 (by decide) ?_
    refine lv_aload_n hx hb dX5_doAct_137 rfl (lv_at hl 1 rfl) ?_
    refine gt_X5_0 (v := .ref a_row) hx hb hts i_f_X5_doAct_X5 hown hK hP 3 rfl (hts (.fieldLink RX5 11 "HushWatch$State" "row" "[I") (List.mem_of_getElem? (i := 1) rfl)) rfl dX5_doAct_138 ?_
    refine lv_bipush (v := 11) hx hb dX5_doAct_141 (by decide) ?_
    refine lv_dup2_11 hx hb dX5_doAct_143 rfl rfl ?_
    refine va_iald hx hb hK hP 4 0 rfl rfl (vin rfl) dX5_doAct_144 ?_
    refine W.eq (g2 := F0 m 145 ls [.int (w_12 11), .int (11 : Int32), .ref a_row]) rfl ?_
    refine lv_iload hx hb dX5_doAct_145 (lv_at hl 0 rfl) ?_
    refine lv_iadd hx hb dX5_doAct_147 ?_
    refine va_iast hx hb hK hP hD hS 4 0 rfl rfl (vin rfl) dX5_doAct_148 (fun H locs hP hD hS => ?_)
    replace hP : va_P E.1 vwCl [(a_partners, .inl (E.2.1, 8, .inl c_partners)), (a_share, .inl (E.2.1, 2, .inl c_share)), (a_leftOver, .inl (E.2.1, 2, .inl c_leftOver)), (a_, .inr (6, [.ref a_row, .ref a_partners, .int c_askedCount, .int c_outcome, .ref a_share, .ref a_leftOver])), (a_row, .inl (E.2.1, 81, .inl (upd w_12 11 ((w_12 11) + r_11))))] H := hP
    replace hD : va_D A [(a_partners, .inl (E.2.1, 8, .inl c_partners)), (a_share, .inl (E.2.1, 2, .inl c_share)), (a_leftOver, .inl (E.2.1, 2, .inl c_leftOver)), (a_, .inr (6, [.ref a_row, .ref a_partners, .int c_askedCount, .int c_outcome, .ref a_share, .ref a_leftOver])), (a_row, .inl (E.2.1, 81, .inl (upd w_12 11 ((w_12 11) + r_11))))] := hD
    replace hF := nm_s hF
    obtain ⟨f_14, hf_14, hF⟩ := hF
    rw [← hf_14] at hP hD
    refine lv_iload hx hb dX5_doAct_149 (lv_at hl 0 rfl) ?_
    rw [hQ]
    have h9 := fin9 (P := fun u9 : Int32 × (Nat → Int32) × (Nat → Int32) × Int32 × Int32 × (Nat → Int32) × (Nat → Int32) => r_11 = u9.1 ∧ va_P E.1 vwCl (w_X5_doAct E a_ a_row a_partners a_share a_leftOver u9.2.2.2.1 u9.2.2.2.2.1 u9.2.1 u9.2.2.1 u9.2.2.2.2.2.1 u9.2.2.2.2.2.2) H ∧ va_D A (w_X5_doAct E a_ a_row a_partners a_share a_leftOver u9.2.2.2.1 u9.2.2.2.2.1 u9.2.1 u9.2.2.1 u9.2.2.2.2.2.1 u9.2.2.2.2.2.2)) hF ⟨rfl, hP.sub [3, 4, 0, 1, 2] rfl, hD.sub [3, 4, 0, 1, 2] (by decide) rfl⟩
    obtain ⟨e9_0, hP9, hD9⟩ := h9
    exact W.iret (v := r_11) hx hb hr (fun tt ht hW => ⟨⟨_, (), rfl, e9_0, ht ▸ hP9, hD9⟩, hS.F ht⟩) hS.2.2 dX5_doAct_151
  replace hF := inn c_1_1 hF
  rcases Classical.em (p1 = (2 : Int32)) with c_1_2 | c_1_2
  ·
    replace hF := ip c_1_2 hF
    refine lv_tableIn (off := 66) (tgt := 70) hx hb dX5_doAct_4 (by rw [c_1_2]; decide) (by rw [c_1_2]; decide) (by rw [c_1_2]; decide) (by decide) ?_
    refine lv_aload_n hx hb dX5_doAct_70 rfl (lv_at hl 1 rfl) ?_
    refine gt_X5_0 (v := .ref a_row) hx hb hts i_f_X5_doAct_X5 hown hK hP 0 rfl (hts (.fieldLink RX5 11 "HushWatch$State" "row" "[I") (List.mem_of_getElem? (i := 1) rfl)) rfl dX5_doAct_71 ?_
    refine lv_iconst (v := 1) hx hb dX5_doAct_74 (by decide) ?_
    refine lv_iload_n hx hb dX5_doAct_75 rfl (lv_at hl 3 rfl) ?_
    refine va_iast hx hb hK hP hD hS 1 0 rfl rfl (vin rfl) dX5_doAct_76 (fun H locs hP hD hS => ?_)
    replace hP : va_P E.1 vwCl [(a_, .inr (6, [.ref a_row, .ref a_partners, .int c_askedCount, .int c_outcome, .ref a_share, .ref a_leftOver])), (a_row, .inl (E.2.1, 81, .inl (upd c_row 1 p2))), (a_partners, .inl (E.2.1, 8, .inl c_partners)), (a_share, .inl (E.2.1, 2, .inl c_share)), (a_leftOver, .inl (E.2.1, 2, .inl c_leftOver))] H := hP
    replace hD : va_D A [(a_, .inr (6, [.ref a_row, .ref a_partners, .int c_askedCount, .int c_outcome, .ref a_share, .ref a_leftOver])), (a_row, .inl (E.2.1, 81, .inl (upd c_row 1 p2))), (a_partners, .inl (E.2.1, 8, .inl c_partners)), (a_share, .inl (E.2.1, 2, .inl c_share)), (a_leftOver, .inl (E.2.1, 2, .inl c_leftOver))] := hD
    replace hF := nm_s hF
    obtain ⟨f_15, hf_15, hF⟩ := hF
    rw [← hf_15] at hP hD
    refine lv_aload_n hx hb dX5_doAct_77 rfl (lv_at hl 1 rfl) ?_
    replace hF := bd2_s hF
    obtain ⟨r_16, w_17, hc_18, hF⟩ := hF
    obtain ⟨hPc, hDc, hFc⟩ := wcut (wc := (w_X5_hearByHand E a_ a_row a_partners a_share a_leftOver c_askedCount c_outcome f_15)) hP hD hS hA [0, 1] (by decide) rfl
    have hrc := va_recv hK hPc (ci := 6) (q0 := 0) rfl rfl
    refine cE_i (wc := (w_X5_hearByHand E a_ a_row a_partners a_share a_leftOver c_askedCount c_outcome f_15)) (wr := [(a_partners, .inl (E.2.1, 8, .inl c_partners)), (a_share, .inl (E.2.1, 2, .inl c_share)), (a_leftOver, .inl (E.2.1, 2, .inl c_leftOver))]) (w1 := (w_X5_hearByHand E a_ a_row a_partners a_share a_leftOver c_askedCount c_outcome w_17)) (va_runV (As := []) (rest := [])  ⟨hx, hb, hml, hown, hts⟩ (f_X5_hearByHand l E H.size K (a_ := a_) (a_row := a_row) (a_partners := a_partners) (a_share := a_share) (a_leftOver := a_leftOver) (c_askedCount := c_askedCount) (c_outcome := c_outcome) (c_row := f_15) hc_18) (cwV 0 hts g_f_X5_doAct_f_X5_hearByHand_140 rfl rfl rfl hd_X5_hearByHand ⟨Nat.le_of_ble_eq_true rfl, Nat.le_of_ble_eq_true rfl⟩) ⟨pW.blind, hrc, (pW.pre ⟨hK, hN⟩ hPc hDc)⟩ rfl rfl hl.1 rfl (lv_room (Nat.le_of_ble_eq_true rfl)) dX5_doAct_78 ⟨Nat.le_of_ble_eq_true rfl, Nat.le_of_ble_eq_true rfl⟩) hS hFc hP hD [0, 1] [2, 3, 4] rfl rfl (by decide) (by decide) (fun H locs hP hD hS => ?_)
    replace hP : va_P E.1 vwCl [(a_partners, .inl (E.2.1, 8, .inl c_partners)), (a_share, .inl (E.2.1, 2, .inl c_share)), (a_leftOver, .inl (E.2.1, 2, .inl c_leftOver)), (a_, .inr (6, [.ref a_row, .ref a_partners, .int c_askedCount, .int c_outcome, .ref a_share, .ref a_leftOver])), (a_row, .inl (E.2.1, 81, .inl w_17))] H := hP
    replace hD : va_D A [(a_partners, .inl (E.2.1, 8, .inl c_partners)), (a_share, .inl (E.2.1, 2, .inl c_share)), (a_leftOver, .inl (E.2.1, 2, .inl c_leftOver)), (a_, .inr (6, [.ref a_row, .ref a_partners, .int c_askedCount, .int c_outcome, .ref a_share, .ref a_leftOver])), (a_row, .inl (E.2.1, 81, .inl w_17))] := hD
    refine lv_istore (lv' := [(5, .int r_16), (0, .ref a_), (1, .int p1), (2, .int p2), (3, .int p3), (4, .int p4)]) hx hb dX5_doAct_81 hl (by decide) rfl (fun ls hl => ?_)
    refine lv_goto (tgt := 137) hx hb dX5_doAct_83 (by decide) ?_
    refine lv_aload_n hx hb dX5_doAct_137 rfl (lv_at hl 1 rfl) ?_
    refine gt_X5_0 (v := .ref a_row) hx hb hts i_f_X5_doAct_X5 hown hK hP 3 rfl (hts (.fieldLink RX5 11 "HushWatch$State" "row" "[I") (List.mem_of_getElem? (i := 1) rfl)) rfl dX5_doAct_138 ?_
    refine lv_bipush (v := 11) hx hb dX5_doAct_141 (by decide) ?_
    refine lv_dup2_11 hx hb dX5_doAct_143 rfl rfl ?_
    refine va_iald hx hb hK hP 4 0 rfl rfl (vin rfl) dX5_doAct_144 ?_
    refine W.eq (g2 := F0 m 145 ls [.int (w_17 11), .int (11 : Int32), .ref a_row]) rfl ?_
    refine lv_iload hx hb dX5_doAct_145 (lv_at hl 0 rfl) ?_
    refine lv_iadd hx hb dX5_doAct_147 ?_
    refine va_iast hx hb hK hP hD hS 4 0 rfl rfl (vin rfl) dX5_doAct_148 (fun H locs hP hD hS => ?_)
    replace hP : va_P E.1 vwCl [(a_partners, .inl (E.2.1, 8, .inl c_partners)), (a_share, .inl (E.2.1, 2, .inl c_share)), (a_leftOver, .inl (E.2.1, 2, .inl c_leftOver)), (a_, .inr (6, [.ref a_row, .ref a_partners, .int c_askedCount, .int c_outcome, .ref a_share, .ref a_leftOver])), (a_row, .inl (E.2.1, 81, .inl (upd w_17 11 ((w_17 11) + r_16))))] H := hP
    replace hD : va_D A [(a_partners, .inl (E.2.1, 8, .inl c_partners)), (a_share, .inl (E.2.1, 2, .inl c_share)), (a_leftOver, .inl (E.2.1, 2, .inl c_leftOver)), (a_, .inr (6, [.ref a_row, .ref a_partners, .int c_askedCount, .int c_outcome, .ref a_share, .ref a_leftOver])), (a_row, .inl (E.2.1, 81, .inl (upd w_17 11 ((w_17 11) + r_16))))] := hD
    replace hF := nm_s hF
    obtain ⟨f_19, hf_19, hF⟩ := hF
    rw [← hf_19] at hP hD
    refine lv_iload hx hb dX5_doAct_149 (lv_at hl 0 rfl) ?_
    rw [hQ]
    have h9 := fin9 (P := fun u9 : Int32 × (Nat → Int32) × (Nat → Int32) × Int32 × Int32 × (Nat → Int32) × (Nat → Int32) => r_16 = u9.1 ∧ va_P E.1 vwCl (w_X5_doAct E a_ a_row a_partners a_share a_leftOver u9.2.2.2.1 u9.2.2.2.2.1 u9.2.1 u9.2.2.1 u9.2.2.2.2.2.1 u9.2.2.2.2.2.2) H ∧ va_D A (w_X5_doAct E a_ a_row a_partners a_share a_leftOver u9.2.2.2.1 u9.2.2.2.2.1 u9.2.1 u9.2.2.1 u9.2.2.2.2.2.1 u9.2.2.2.2.2.2)) hF ⟨rfl, hP.sub [3, 4, 0, 1, 2] rfl, hD.sub [3, 4, 0, 1, 2] (by decide) rfl⟩
    obtain ⟨e9_0, hP9, hD9⟩ := h9
    exact W.iret (v := r_16) hx hb hr (fun tt ht hW => ⟨⟨_, (), rfl, e9_0, ht ▸ hP9, hD9⟩, hS.F ht⟩) hS.2.2 dX5_doAct_151
  replace hF := inn c_1_2 hF
  rcases Classical.em (p1 = (3 : Int32)) with c_1_3 | c_1_3
  ·
    replace hF := ip c_1_3 hF
    refine lv_tableIn (off := 82) (tgt := 86) hx hb dX5_doAct_4 (by rw [c_1_3]; decide) (by rw [c_1_3]; decide) (by rw [c_1_3]; decide) (by decide) ?_
    refine lv_aload_n hx hb dX5_doAct_86 rfl (lv_at hl 1 rfl) ?_
    refine gt_X5_0 (v := .ref a_row) hx hb hts i_f_X5_doAct_X5 hown hK hP 0 rfl (hts (.fieldLink RX5 11 "HushWatch$State" "row" "[I") (List.mem_of_getElem? (i := 1) rfl)) rfl dX5_doAct_87 ?_
    refine lv_iconst (v := 0) hx hb dX5_doAct_90 (by decide) ?_
    refine lv_iload_n hx hb dX5_doAct_91 rfl (lv_at hl 3 rfl) ?_
    refine va_iast hx hb hK hP hD hS 1 0 rfl rfl (vin rfl) dX5_doAct_92 (fun H locs hP hD hS => ?_)
    replace hP : va_P E.1 vwCl [(a_, .inr (6, [.ref a_row, .ref a_partners, .int c_askedCount, .int c_outcome, .ref a_share, .ref a_leftOver])), (a_row, .inl (E.2.1, 81, .inl (upd c_row 0 p2))), (a_partners, .inl (E.2.1, 8, .inl c_partners)), (a_share, .inl (E.2.1, 2, .inl c_share)), (a_leftOver, .inl (E.2.1, 2, .inl c_leftOver))] H := hP
    replace hD : va_D A [(a_, .inr (6, [.ref a_row, .ref a_partners, .int c_askedCount, .int c_outcome, .ref a_share, .ref a_leftOver])), (a_row, .inl (E.2.1, 81, .inl (upd c_row 0 p2))), (a_partners, .inl (E.2.1, 8, .inl c_partners)), (a_share, .inl (E.2.1, 2, .inl c_share)), (a_leftOver, .inl (E.2.1, 2, .inl c_leftOver))] := hD
    replace hF := nm_s hF
    obtain ⟨f_20, hf_20, hF⟩ := hF
    rw [← hf_20] at hP hD
    refine lv_aload_n hx hb dX5_doAct_93 rfl (lv_at hl 1 rfl) ?_
    replace hF := bd2_s hF
    obtain ⟨r_21, w_22, hc_23, hF⟩ := hF
    obtain ⟨hPc, hDc, hFc⟩ := wcut (wc := (w_X5_hearByHand E a_ a_row a_partners a_share a_leftOver c_askedCount c_outcome f_20)) hP hD hS hA [0, 1] (by decide) rfl
    have hrc := va_recv hK hPc (ci := 6) (q0 := 0) rfl rfl
    refine cE_i (wc := (w_X5_hearByHand E a_ a_row a_partners a_share a_leftOver c_askedCount c_outcome f_20)) (wr := [(a_partners, .inl (E.2.1, 8, .inl c_partners)), (a_share, .inl (E.2.1, 2, .inl c_share)), (a_leftOver, .inl (E.2.1, 2, .inl c_leftOver))]) (w1 := (w_X5_hearByHand E a_ a_row a_partners a_share a_leftOver c_askedCount c_outcome w_22)) (va_runV (As := []) (rest := [])  ⟨hx, hb, hml, hown, hts⟩ (f_X5_hearByHand l E H.size K (a_ := a_) (a_row := a_row) (a_partners := a_partners) (a_share := a_share) (a_leftOver := a_leftOver) (c_askedCount := c_askedCount) (c_outcome := c_outcome) (c_row := f_20) hc_23) (cwV 0 hts g_f_X5_doAct_f_X5_hearByHand_140 rfl rfl rfl hd_X5_hearByHand ⟨Nat.le_of_ble_eq_true rfl, Nat.le_of_ble_eq_true rfl⟩) ⟨pW.blind, hrc, (pW.pre ⟨hK, hN⟩ hPc hDc)⟩ rfl rfl hl.1 rfl (lv_room (Nat.le_of_ble_eq_true rfl)) dX5_doAct_94 ⟨Nat.le_of_ble_eq_true rfl, Nat.le_of_ble_eq_true rfl⟩) hS hFc hP hD [0, 1] [2, 3, 4] rfl rfl (by decide) (by decide) (fun H locs hP hD hS => ?_)
    replace hP : va_P E.1 vwCl [(a_partners, .inl (E.2.1, 8, .inl c_partners)), (a_share, .inl (E.2.1, 2, .inl c_share)), (a_leftOver, .inl (E.2.1, 2, .inl c_leftOver)), (a_, .inr (6, [.ref a_row, .ref a_partners, .int c_askedCount, .int c_outcome, .ref a_share, .ref a_leftOver])), (a_row, .inl (E.2.1, 81, .inl w_22))] H := hP
    replace hD : va_D A [(a_partners, .inl (E.2.1, 8, .inl c_partners)), (a_share, .inl (E.2.1, 2, .inl c_share)), (a_leftOver, .inl (E.2.1, 2, .inl c_leftOver)), (a_, .inr (6, [.ref a_row, .ref a_partners, .int c_askedCount, .int c_outcome, .ref a_share, .ref a_leftOver])), (a_row, .inl (E.2.1, 81, .inl w_22))] := hD
    refine lv_istore (lv' := [(5, .int r_21), (0, .ref a_), (1, .int p1), (2, .int p2), (3, .int p3), (4, .int p4)]) hx hb dX5_doAct_97 hl (by decide) rfl (fun ls hl => ?_)
    refine lv_goto (tgt := 137) hx hb dX5_doAct_99 (by decide) ?_
    refine lv_aload_n hx hb dX5_doAct_137 rfl (lv_at hl 1 rfl) ?_
    refine gt_X5_0 (v := .ref a_row) hx hb hts i_f_X5_doAct_X5 hown hK hP 3 rfl (hts (.fieldLink RX5 11 "HushWatch$State" "row" "[I") (List.mem_of_getElem? (i := 1) rfl)) rfl dX5_doAct_138 ?_
    refine lv_bipush (v := 11) hx hb dX5_doAct_141 (by decide) ?_
    refine lv_dup2_11 hx hb dX5_doAct_143 rfl rfl ?_
    refine va_iald hx hb hK hP 4 0 rfl rfl (vin rfl) dX5_doAct_144 ?_
    refine W.eq (g2 := F0 m 145 ls [.int (w_22 11), .int (11 : Int32), .ref a_row]) rfl ?_
    refine lv_iload hx hb dX5_doAct_145 (lv_at hl 0 rfl) ?_
    refine lv_iadd hx hb dX5_doAct_147 ?_
    refine va_iast hx hb hK hP hD hS 4 0 rfl rfl (vin rfl) dX5_doAct_148 (fun H locs hP hD hS => ?_)
    replace hP : va_P E.1 vwCl [(a_partners, .inl (E.2.1, 8, .inl c_partners)), (a_share, .inl (E.2.1, 2, .inl c_share)), (a_leftOver, .inl (E.2.1, 2, .inl c_leftOver)), (a_, .inr (6, [.ref a_row, .ref a_partners, .int c_askedCount, .int c_outcome, .ref a_share, .ref a_leftOver])), (a_row, .inl (E.2.1, 81, .inl (upd w_22 11 ((w_22 11) + r_21))))] H := hP
    replace hD : va_D A [(a_partners, .inl (E.2.1, 8, .inl c_partners)), (a_share, .inl (E.2.1, 2, .inl c_share)), (a_leftOver, .inl (E.2.1, 2, .inl c_leftOver)), (a_, .inr (6, [.ref a_row, .ref a_partners, .int c_askedCount, .int c_outcome, .ref a_share, .ref a_leftOver])), (a_row, .inl (E.2.1, 81, .inl (upd w_22 11 ((w_22 11) + r_21))))] := hD
    replace hF := nm_s hF
    obtain ⟨f_24, hf_24, hF⟩ := hF
    rw [← hf_24] at hP hD
    refine lv_iload hx hb dX5_doAct_149 (lv_at hl 0 rfl) ?_
    rw [hQ]
    have h9 := fin9 (P := fun u9 : Int32 × (Nat → Int32) × (Nat → Int32) × Int32 × Int32 × (Nat → Int32) × (Nat → Int32) => r_21 = u9.1 ∧ va_P E.1 vwCl (w_X5_doAct E a_ a_row a_partners a_share a_leftOver u9.2.2.2.1 u9.2.2.2.2.1 u9.2.1 u9.2.2.1 u9.2.2.2.2.2.1 u9.2.2.2.2.2.2) H ∧ va_D A (w_X5_doAct E a_ a_row a_partners a_share a_leftOver u9.2.2.2.1 u9.2.2.2.2.1 u9.2.1 u9.2.2.1 u9.2.2.2.2.2.1 u9.2.2.2.2.2.2)) hF ⟨rfl, hP.sub [3, 4, 0, 1, 2] rfl, hD.sub [3, 4, 0, 1, 2] (by decide) rfl⟩
    obtain ⟨e9_0, hP9, hD9⟩ := h9
    exact W.iret (v := r_21) hx hb hr (fun tt ht hW => ⟨⟨_, (), rfl, e9_0, ht ▸ hP9, hD9⟩, hS.F ht⟩) hS.2.2 dX5_doAct_151
  replace hF := inn c_1_3 hF
  rcases Classical.em (p1 = (4 : Int32)) with c_1_4 | c_1_4
  ·
    replace hF := ip c_1_4 hF
    refine lv_tableIn (off := 98) (tgt := 102) hx hb dX5_doAct_4 (by rw [c_1_4]; decide) (by rw [c_1_4]; decide) (by rw [c_1_4]; decide) (by decide) ?_
    refine lv_aload_n hx hb dX5_doAct_102 rfl (lv_at hl 1 rfl) ?_
    refine lv_iload_n hx hb dX5_doAct_103 rfl (lv_at hl 3 rfl) ?_
    refine lv_iload_n hx hb dX5_doAct_104 rfl (lv_at hl 4 rfl) ?_
    replace hF := bd2_s hF
    obtain ⟨r_25, w_26, hc_27, hF⟩ := hF
    obtain ⟨hPc, hDc, hFc⟩ := wcut (wc := (w_X5_addTo E a_ a_row a_partners a_share a_leftOver c_askedCount c_outcome c_row)) hP hD hS hA [0, 1] (by decide) rfl
    have hrc := va_recv hK hPc (ci := 6) (q0 := 0) rfl rfl
    refine cE_i (wc := (w_X5_addTo E a_ a_row a_partners a_share a_leftOver c_askedCount c_outcome c_row)) (wr := [(a_partners, .inl (E.2.1, 8, .inl c_partners)), (a_share, .inl (E.2.1, 2, .inl c_share)), (a_leftOver, .inl (E.2.1, 2, .inl c_leftOver))]) (w1 := (w_X5_addTo E a_ a_row a_partners a_share a_leftOver c_askedCount c_outcome w_26)) (va_runV (As := [.int p2, .int p3]) (rest := [])  ⟨hx, hb, hml, hown, hts⟩ (f_X5_addTo l E H.size K (a_ := a_) (a_row := a_row) (a_partners := a_partners) (a_share := a_share) (a_leftOver := a_leftOver) (p1 := p2) (p2 := p3) (c_askedCount := c_askedCount) (c_outcome := c_outcome) (c_row := c_row) hc_27) (cwV 2 hts g_f_X5_doAct_f_X5_addTo_143 rfl rfl rfl hd_X5_addTo ⟨Nat.le_of_ble_eq_true rfl, Nat.le_of_ble_eq_true rfl⟩) ⟨pW.blind, hrc, (pW.pre ⟨hK, hN⟩ hPc hDc)⟩ rfl rfl hl.1 rfl (lv_room (Nat.le_of_ble_eq_true rfl)) dX5_doAct_105 ⟨Nat.le_of_ble_eq_true rfl, Nat.le_of_ble_eq_true rfl⟩) hS hFc hP hD [0, 1] [2, 3, 4] rfl rfl (by decide) (by decide) (fun H locs hP hD hS => ?_)
    replace hP : va_P E.1 vwCl [(a_partners, .inl (E.2.1, 8, .inl c_partners)), (a_share, .inl (E.2.1, 2, .inl c_share)), (a_leftOver, .inl (E.2.1, 2, .inl c_leftOver)), (a_, .inr (6, [.ref a_row, .ref a_partners, .int c_askedCount, .int c_outcome, .ref a_share, .ref a_leftOver])), (a_row, .inl (E.2.1, 81, .inl w_26))] H := hP
    replace hD : va_D A [(a_partners, .inl (E.2.1, 8, .inl c_partners)), (a_share, .inl (E.2.1, 2, .inl c_share)), (a_leftOver, .inl (E.2.1, 2, .inl c_leftOver)), (a_, .inr (6, [.ref a_row, .ref a_partners, .int c_askedCount, .int c_outcome, .ref a_share, .ref a_leftOver])), (a_row, .inl (E.2.1, 81, .inl w_26))] := hD
    refine lv_istore (lv' := [(5, .int r_25), (0, .ref a_), (1, .int p1), (2, .int p2), (3, .int p3), (4, .int p4)]) hx hb dX5_doAct_108 hl (by decide) rfl (fun ls hl => ?_)
    refine lv_goto (tgt := 137) hx hb dX5_doAct_110 (by decide) ?_
    refine lv_aload_n hx hb dX5_doAct_137 rfl (lv_at hl 1 rfl) ?_
    refine gt_X5_0 (v := .ref a_row) hx hb hts i_f_X5_doAct_X5 hown hK hP 3 rfl (hts (.fieldLink RX5 11 "HushWatch$State" "row" "[I") (List.mem_of_getElem? (i := 1) rfl)) rfl dX5_doAct_138 ?_
    refine lv_bipush (v := 11) hx hb dX5_doAct_141 (by decide) ?_
    refine lv_dup2_11 hx hb dX5_doAct_143 rfl rfl ?_
    refine va_iald hx hb hK hP 4 0 rfl rfl (vin rfl) dX5_doAct_144 ?_
    refine W.eq (g2 := F0 m 145 ls [.int (w_26 11), .int (11 : Int32), .ref a_row]) rfl ?_
    refine lv_iload hx hb dX5_doAct_145 (lv_at hl 0 rfl) ?_
    refine lv_iadd hx hb dX5_doAct_147 ?_
    refine va_iast hx hb hK hP hD hS 4 0 rfl rfl (vin rfl) dX5_doAct_148 (fun H locs hP hD hS => ?_)
    replace hP : va_P E.1 vwCl [(a_partners, .inl (E.2.1, 8, .inl c_partners)), (a_share, .inl (E.2.1, 2, .inl c_share)), (a_leftOver, .inl (E.2.1, 2, .inl c_leftOver)), (a_, .inr (6, [.ref a_row, .ref a_partners, .int c_askedCount, .int c_outcome, .ref a_share, .ref a_leftOver])), (a_row, .inl (E.2.1, 81, .inl (upd w_26 11 ((w_26 11) + r_25))))] H := hP
    replace hD : va_D A [(a_partners, .inl (E.2.1, 8, .inl c_partners)), (a_share, .inl (E.2.1, 2, .inl c_share)), (a_leftOver, .inl (E.2.1, 2, .inl c_leftOver)), (a_, .inr (6, [.ref a_row, .ref a_partners, .int c_askedCount, .int c_outcome, .ref a_share, .ref a_leftOver])), (a_row, .inl (E.2.1, 81, .inl (upd w_26 11 ((w_26 11) + r_25))))] := hD
    replace hF := nm_s hF
    obtain ⟨f_28, hf_28, hF⟩ := hF
    rw [← hf_28] at hP hD
    refine lv_iload hx hb dX5_doAct_149 (lv_at hl 0 rfl) ?_
    rw [hQ]
    have h9 := fin9 (P := fun u9 : Int32 × (Nat → Int32) × (Nat → Int32) × Int32 × Int32 × (Nat → Int32) × (Nat → Int32) => r_25 = u9.1 ∧ va_P E.1 vwCl (w_X5_doAct E a_ a_row a_partners a_share a_leftOver u9.2.2.2.1 u9.2.2.2.2.1 u9.2.1 u9.2.2.1 u9.2.2.2.2.2.1 u9.2.2.2.2.2.2) H ∧ va_D A (w_X5_doAct E a_ a_row a_partners a_share a_leftOver u9.2.2.2.1 u9.2.2.2.2.1 u9.2.1 u9.2.2.1 u9.2.2.2.2.2.1 u9.2.2.2.2.2.2)) hF ⟨rfl, hP.sub [3, 4, 0, 1, 2] rfl, hD.sub [3, 4, 0, 1, 2] (by decide) rfl⟩
    obtain ⟨e9_0, hP9, hD9⟩ := h9
    exact W.iret (v := r_25) hx hb hr (fun tt ht hW => ⟨⟨_, (), rfl, e9_0, ht ▸ hP9, hD9⟩, hS.F ht⟩) hS.2.2 dX5_doAct_151
  replace hF := inn c_1_4 hF
  rcases Classical.em (p1 = (5 : Int32)) with c_1_5 | c_1_5
  ·
    replace hF := ip c_1_5 hF
    refine lv_tableIn (off := 109) (tgt := 113) hx hb dX5_doAct_4 (by rw [c_1_5]; decide) (by rw [c_1_5]; decide) (by rw [c_1_5]; decide) (by decide) ?_
    refine lv_aload_n hx hb dX5_doAct_113 rfl (lv_at hl 1 rfl) ?_
    refine lv_iload_n hx hb dX5_doAct_114 rfl (lv_at hl 3 rfl) ?_
    replace hF := bd1_s hF
    obtain ⟨w_29, hc_30, hF⟩ := hF
    obtain ⟨hPc, hDc, hFc⟩ := wcut (wc := (w_X5_startCounts E a_ a_row a_partners a_share a_leftOver c_askedCount c_outcome c_row)) hP hD hS hA [0, 1] (by decide) rfl
    have hrc := va_recv hK hPc (ci := 6) (q0 := 0) rfl rfl
    refine cE_v (wc := (w_X5_startCounts E a_ a_row a_partners a_share a_leftOver c_askedCount c_outcome c_row)) (wr := [(a_partners, .inl (E.2.1, 8, .inl c_partners)), (a_share, .inl (E.2.1, 2, .inl c_share)), (a_leftOver, .inl (E.2.1, 2, .inl c_leftOver))]) (w1 := (w_X5_startCounts E a_ a_row a_partners a_share a_leftOver c_askedCount c_outcome w_29)) (va_runV (As := [.int p2]) (rest := [])  ⟨hx, hb, hml, hown, hts⟩ (f_X5_startCounts l E H.size K (a_ := a_) (a_row := a_row) (a_partners := a_partners) (a_share := a_share) (a_leftOver := a_leftOver) (p1 := p2) (c_askedCount := c_askedCount) (c_outcome := c_outcome) (c_row := c_row) hc_30) (cwV 1 hts g_f_X5_doAct_f_X5_startCounts_146 rfl rfl rfl hd_X5_startCounts ⟨Nat.le_of_ble_eq_true rfl, Nat.le_of_ble_eq_true rfl⟩) ⟨pW.blind, hrc, (pW.pre ⟨hK, hN⟩ hPc hDc)⟩ rfl rfl hl.1 rfl (lv_room (Nat.le_of_ble_eq_true rfl)) dX5_doAct_115 ⟨Nat.le_of_ble_eq_true rfl, Nat.le_of_ble_eq_true rfl⟩) hS hFc hP hD [0, 1] [2, 3, 4] rfl rfl (by decide) (by decide) (fun H locs hP hD hS => ?_)
    replace hP : va_P E.1 vwCl [(a_partners, .inl (E.2.1, 8, .inl c_partners)), (a_share, .inl (E.2.1, 2, .inl c_share)), (a_leftOver, .inl (E.2.1, 2, .inl c_leftOver)), (a_, .inr (6, [.ref a_row, .ref a_partners, .int c_askedCount, .int c_outcome, .ref a_share, .ref a_leftOver])), (a_row, .inl (E.2.1, 81, .inl w_29))] H := hP
    replace hD : va_D A [(a_partners, .inl (E.2.1, 8, .inl c_partners)), (a_share, .inl (E.2.1, 2, .inl c_share)), (a_leftOver, .inl (E.2.1, 2, .inl c_leftOver)), (a_, .inr (6, [.ref a_row, .ref a_partners, .int c_askedCount, .int c_outcome, .ref a_share, .ref a_leftOver])), (a_row, .inl (E.2.1, 81, .inl w_29))] := hD
    refine lv_goto (tgt := 137) hx hb dX5_doAct_118 (by decide) ?_
    refine lv_aload_n hx hb dX5_doAct_137 rfl (lv_at hl 1 rfl) ?_
    refine gt_X5_0 (v := .ref a_row) hx hb hts i_f_X5_doAct_X5 hown hK hP 3 rfl (hts (.fieldLink RX5 11 "HushWatch$State" "row" "[I") (List.mem_of_getElem? (i := 1) rfl)) rfl dX5_doAct_138 ?_
    refine lv_bipush (v := 11) hx hb dX5_doAct_141 (by decide) ?_
    refine lv_dup2_11 hx hb dX5_doAct_143 rfl rfl ?_
    refine va_iald hx hb hK hP 4 0 rfl rfl (vin rfl) dX5_doAct_144 ?_
    refine W.eq (g2 := F0 m 145 ls [.int (w_29 11), .int (11 : Int32), .ref a_row]) rfl ?_
    refine lv_iload hx hb dX5_doAct_145 (lv_at hl 0 rfl) ?_
    refine lv_iadd hx hb dX5_doAct_147 ?_
    refine va_iast hx hb hK hP hD hS 4 0 rfl rfl (vin rfl) dX5_doAct_148 (fun H locs hP hD hS => ?_)
    replace hP : va_P E.1 vwCl [(a_partners, .inl (E.2.1, 8, .inl c_partners)), (a_share, .inl (E.2.1, 2, .inl c_share)), (a_leftOver, .inl (E.2.1, 2, .inl c_leftOver)), (a_, .inr (6, [.ref a_row, .ref a_partners, .int c_askedCount, .int c_outcome, .ref a_share, .ref a_leftOver])), (a_row, .inl (E.2.1, 81, .inl (upd w_29 11 ((w_29 11) + (0 : Int32)))))] H := hP
    replace hD : va_D A [(a_partners, .inl (E.2.1, 8, .inl c_partners)), (a_share, .inl (E.2.1, 2, .inl c_share)), (a_leftOver, .inl (E.2.1, 2, .inl c_leftOver)), (a_, .inr (6, [.ref a_row, .ref a_partners, .int c_askedCount, .int c_outcome, .ref a_share, .ref a_leftOver])), (a_row, .inl (E.2.1, 81, .inl (upd w_29 11 ((w_29 11) + (0 : Int32)))))] := hD
    replace hF := nm_s hF
    obtain ⟨f_31, hf_31, hF⟩ := hF
    rw [← hf_31] at hP hD
    refine lv_iload hx hb dX5_doAct_149 (lv_at hl 0 rfl) ?_
    rw [hQ]
    have h9 := fin9 (P := fun u9 : Int32 × (Nat → Int32) × (Nat → Int32) × Int32 × Int32 × (Nat → Int32) × (Nat → Int32) => (0 : Int32) = u9.1 ∧ va_P E.1 vwCl (w_X5_doAct E a_ a_row a_partners a_share a_leftOver u9.2.2.2.1 u9.2.2.2.2.1 u9.2.1 u9.2.2.1 u9.2.2.2.2.2.1 u9.2.2.2.2.2.2) H ∧ va_D A (w_X5_doAct E a_ a_row a_partners a_share a_leftOver u9.2.2.2.1 u9.2.2.2.2.1 u9.2.1 u9.2.2.1 u9.2.2.2.2.2.1 u9.2.2.2.2.2.2)) hF ⟨rfl, hP.sub [3, 4, 0, 1, 2] rfl, hD.sub [3, 4, 0, 1, 2] (by decide) rfl⟩
    obtain ⟨e9_0, hP9, hD9⟩ := h9
    exact W.iret (v := (0 : Int32)) hx hb hr (fun tt ht hW => ⟨⟨_, (), rfl, e9_0, ht ▸ hP9, hD9⟩, hS.F ht⟩) hS.2.2 dX5_doAct_151
  replace hF := inn c_1_5 hF
  rcases Classical.em (p1 = (6 : Int32)) with c_1_6 | c_1_6
  ·
    replace hF := ip c_1_6 hF
    refine lv_tableIn (off := 117) (tgt := 121) hx hb dX5_doAct_4 (by rw [c_1_6]; decide) (by rw [c_1_6]; decide) (by rw [c_1_6]; decide) (by decide) ?_
    refine lv_aload_n hx hb dX5_doAct_121 rfl (lv_at hl 1 rfl) ?_
    refine gt_X5_0 (v := .ref a_row) hx hb hts i_f_X5_doAct_X5 hown hK hP 0 rfl (hts (.fieldLink RX5 11 "HushWatch$State" "row" "[I") (List.mem_of_getElem? (i := 1) rfl)) rfl dX5_doAct_122 ?_
    refine lv_bipush (v := 7) hx hb dX5_doAct_125 (by decide) ?_
    refine lv_dup2_11 hx hb dX5_doAct_127 rfl rfl ?_
    refine va_iald hx hb hK hP 1 0 rfl rfl (vin rfl) dX5_doAct_128 ?_
    refine W.eq (g2 := F0 m 129 ls [.int (c_row 7), .int (7 : Int32), .ref a_row]) rfl ?_
    refine lv_iconst (v := 1) hx hb dX5_doAct_129 (by decide) ?_
    refine lv_iload_n hx hb dX5_doAct_130 rfl (lv_at hl 3 rfl) ?_
    refine lv_ishl hx hb dX5_doAct_131 ?_
    refine lv_ixor hx hb dX5_doAct_132 ?_
    refine va_iast hx hb hK hP hD hS 1 0 rfl rfl (vin rfl) dX5_doAct_133 (fun H locs hP hD hS => ?_)
    replace hP : va_P E.1 vwCl [(a_, .inr (6, [.ref a_row, .ref a_partners, .int c_askedCount, .int c_outcome, .ref a_share, .ref a_leftOver])), (a_row, .inl (E.2.1, 81, .inl (upd c_row 7 ((c_row 7) ^^^ ((1 : Int32) <<< (p2 &&& (31 : Int32))))))), (a_partners, .inl (E.2.1, 8, .inl c_partners)), (a_share, .inl (E.2.1, 2, .inl c_share)), (a_leftOver, .inl (E.2.1, 2, .inl c_leftOver))] H := hP
    replace hD : va_D A [(a_, .inr (6, [.ref a_row, .ref a_partners, .int c_askedCount, .int c_outcome, .ref a_share, .ref a_leftOver])), (a_row, .inl (E.2.1, 81, .inl (upd c_row 7 ((c_row 7) ^^^ ((1 : Int32) <<< (p2 &&& (31 : Int32))))))), (a_partners, .inl (E.2.1, 8, .inl c_partners)), (a_share, .inl (E.2.1, 2, .inl c_share)), (a_leftOver, .inl (E.2.1, 2, .inl c_leftOver))] := hD
    replace hF := nm_s hF
    obtain ⟨f_32, hf_32, hF⟩ := hF
    rw [← hf_32] at hP hD
    refine lv_goto (tgt := 137) hx hb dX5_doAct_134 (by decide) ?_
    refine lv_aload_n hx hb dX5_doAct_137 rfl (lv_at hl 1 rfl) ?_
    refine gt_X5_0 (v := .ref a_row) hx hb hts i_f_X5_doAct_X5 hown hK hP 0 rfl (hts (.fieldLink RX5 11 "HushWatch$State" "row" "[I") (List.mem_of_getElem? (i := 1) rfl)) rfl dX5_doAct_138 ?_
    refine lv_bipush (v := 11) hx hb dX5_doAct_141 (by decide) ?_
    refine lv_dup2_11 hx hb dX5_doAct_143 rfl rfl ?_
    refine va_iald hx hb hK hP 1 0 rfl rfl (vin rfl) dX5_doAct_144 ?_
    refine W.eq (g2 := F0 m 145 ls [.int (f_32 11), .int (11 : Int32), .ref a_row]) rfl ?_
    refine lv_iload hx hb dX5_doAct_145 (lv_at hl 0 rfl) ?_
    refine lv_iadd hx hb dX5_doAct_147 ?_
    refine va_iast hx hb hK hP hD hS 1 0 rfl rfl (vin rfl) dX5_doAct_148 (fun H locs hP hD hS => ?_)
    replace hP : va_P E.1 vwCl [(a_, .inr (6, [.ref a_row, .ref a_partners, .int c_askedCount, .int c_outcome, .ref a_share, .ref a_leftOver])), (a_row, .inl (E.2.1, 81, .inl (upd f_32 11 ((f_32 11) + (0 : Int32))))), (a_partners, .inl (E.2.1, 8, .inl c_partners)), (a_share, .inl (E.2.1, 2, .inl c_share)), (a_leftOver, .inl (E.2.1, 2, .inl c_leftOver))] H := hP
    replace hD : va_D A [(a_, .inr (6, [.ref a_row, .ref a_partners, .int c_askedCount, .int c_outcome, .ref a_share, .ref a_leftOver])), (a_row, .inl (E.2.1, 81, .inl (upd f_32 11 ((f_32 11) + (0 : Int32))))), (a_partners, .inl (E.2.1, 8, .inl c_partners)), (a_share, .inl (E.2.1, 2, .inl c_share)), (a_leftOver, .inl (E.2.1, 2, .inl c_leftOver))] := hD
    replace hF := nm_s hF
    obtain ⟨f_33, hf_33, hF⟩ := hF
    rw [← hf_33] at hP hD
    refine lv_iload hx hb dX5_doAct_149 (lv_at hl 0 rfl) ?_
    rw [hQ]
    have h9 := fin9 (P := fun u9 : Int32 × (Nat → Int32) × (Nat → Int32) × Int32 × Int32 × (Nat → Int32) × (Nat → Int32) => (0 : Int32) = u9.1 ∧ va_P E.1 vwCl (w_X5_doAct E a_ a_row a_partners a_share a_leftOver u9.2.2.2.1 u9.2.2.2.2.1 u9.2.1 u9.2.2.1 u9.2.2.2.2.2.1 u9.2.2.2.2.2.2) H ∧ va_D A (w_X5_doAct E a_ a_row a_partners a_share a_leftOver u9.2.2.2.1 u9.2.2.2.2.1 u9.2.1 u9.2.2.1 u9.2.2.2.2.2.1 u9.2.2.2.2.2.2)) hF ⟨rfl, hP, hD⟩
    obtain ⟨e9_0, hP9, hD9⟩ := h9
    exact W.iret (v := (0 : Int32)) hx hb hr (fun tt ht hW => ⟨⟨_, (), rfl, e9_0, ht ▸ hP9, hD9⟩, hS.F ht⟩) hS.2.2 dX5_doAct_151
  replace hF := inn c_1_6 hF
  refine lv_tableOut (tgt := 137) hx hb dX5_doAct_4 (by have t0 : (0 : Int32).toInt = 0 := (by decide); have t1 : (1 : Int32).toInt = 1 := (by decide); have t2 : (2 : Int32).toInt = 2 := (by decide); have t3 : (3 : Int32).toInt = 3 := (by decide); have t4 : (4 : Int32).toInt = 4 := (by decide); have t5 : (5 : Int32).toInt = 5 := (by decide); have t6 : (6 : Int32).toInt = 6 := (by decide); simp only [← Int32.toInt_inj, t0, t1, t2, t3, t4, t5, t6] at c_1_0 c_1_1 c_1_2 c_1_3 c_1_4 c_1_5 c_1_6; omega) (by decide) ?_
  refine lv_aload_n hx hb dX5_doAct_137 rfl (lv_at hl 1 rfl) ?_
  refine gt_X5_0 (v := .ref a_row) hx hb hts i_f_X5_doAct_X5 hown hK hP 0 rfl (hts (.fieldLink RX5 11 "HushWatch$State" "row" "[I") (List.mem_of_getElem? (i := 1) rfl)) rfl dX5_doAct_138 ?_
  refine lv_bipush (v := 11) hx hb dX5_doAct_141 (by decide) ?_
  refine lv_dup2_11 hx hb dX5_doAct_143 rfl rfl ?_
  refine va_iald hx hb hK hP 1 0 rfl rfl (vin rfl) dX5_doAct_144 ?_
  refine W.eq (g2 := F0 m 145 ls [.int (c_row 11), .int (11 : Int32), .ref a_row]) rfl ?_
  refine lv_iload hx hb dX5_doAct_145 (lv_at hl 0 rfl) ?_
  refine lv_iadd hx hb dX5_doAct_147 ?_
  refine va_iast hx hb hK hP hD hS 1 0 rfl rfl (vin rfl) dX5_doAct_148 (fun H locs hP hD hS => ?_)
  replace hP : va_P E.1 vwCl [(a_, .inr (6, [.ref a_row, .ref a_partners, .int c_askedCount, .int c_outcome, .ref a_share, .ref a_leftOver])), (a_row, .inl (E.2.1, 81, .inl (upd c_row 11 ((c_row 11) + (0 : Int32))))), (a_partners, .inl (E.2.1, 8, .inl c_partners)), (a_share, .inl (E.2.1, 2, .inl c_share)), (a_leftOver, .inl (E.2.1, 2, .inl c_leftOver))] H := hP
  replace hD : va_D A [(a_, .inr (6, [.ref a_row, .ref a_partners, .int c_askedCount, .int c_outcome, .ref a_share, .ref a_leftOver])), (a_row, .inl (E.2.1, 81, .inl (upd c_row 11 ((c_row 11) + (0 : Int32))))), (a_partners, .inl (E.2.1, 8, .inl c_partners)), (a_share, .inl (E.2.1, 2, .inl c_share)), (a_leftOver, .inl (E.2.1, 2, .inl c_leftOver))] := hD
  replace hF := nm_s hF
  obtain ⟨f_34, hf_34, hF⟩ := hF
  rw [← hf_34] at hP hD
  refine lv_iload hx hb dX5_doAct_149 (lv_at hl 0 rfl) ?_
  rw [hQ]
  have h9 := fin9 (P := fun u9 : Int32 × (Nat → Int32) × (Nat → Int32) × Int32 × Int32 × (Nat → Int32) × (Nat → Int32) => (0 : Int32) = u9.1 ∧ va_P E.1 vwCl (w_X5_doAct E a_ a_row a_partners a_share a_leftOver u9.2.2.2.1 u9.2.2.2.2.1 u9.2.1 u9.2.2.1 u9.2.2.2.2.2.1 u9.2.2.2.2.2.2) H ∧ va_D A (w_X5_doAct E a_ a_row a_partners a_share a_leftOver u9.2.2.2.1 u9.2.2.2.2.1 u9.2.1 u9.2.2.1 u9.2.2.2.2.2.1 u9.2.2.2.2.2.2)) hF ⟨rfl, hP, hD⟩
  obtain ⟨e9_0, hP9, hD9⟩ := h9
  exact W.iret (v := (0 : Int32)) hx hb hr (fun tt ht hW => ⟨⟨_, (), rfl, e9_0, ht ▸ hP9, hD9⟩, hS.F ht⟩) hS.2.2 dX5_doAct_151

def F_X5_freezeRefusal (p1 : Int32) (c_row : Nat → Int32) : Option (Int32) :=
  bd1 (F_X5_hasSite p1 c_row) (fun r_1 => if r_1 = (0 : Int32) then some (0 : Int32) else if (c_row 7) ||| ((1 : Int32) <<< (p1 &&& (31 : Int32))) = ((1 : Int32) <<< ((c_row 3) &&& (31 : Int32))) - (1 : Int32) then bd1 (F_X5_isFrozen p1 c_row) (fun r_6 => if r_6 = (0 : Int32) then some (2 : Int32) else some (-1 : Int32)) else some (-1 : Int32))
abbrev w_X5_freezeRefusal (E : EE) (a_ a_row a_partners a_share a_leftOver : Nat) (c_askedCount : Int32) (c_outcome : Int32) (c_row : Nat → Int32) : va_W := [(a_, .inr (6, [.ref a_row, .ref a_partners, .int c_askedCount, .int c_outcome, .ref a_share, .ref a_leftOver])), (a_row, .inl (E.2.1, 81, .inl c_row))]
def v_f_X5_freezeRefusal : List Cond := List.cons (.code yX5_freezeRefusal cX5_freezeRefusal 3 (some .int)) (HAppend.hAppend (α := List Cond) (β := List Cond) (γ := List Cond) [.fieldLink RX5 11 "HushWatch$State" "row" "[I", .methodLink RX5 79 yX5_hasSite, .instanceMethod yX5_hasSite, .selects RX5 yX5_hasSite yX5_hasSite, .initialized RX5, .methodLink RX5 131 yX5_isFrozen, .instanceMethod yX5_isFrozen, .selects RX5 yX5_isFrozen yX5_isFrozen] (HAppend.hAppend (α := List Cond) (β := List Cond) (γ := List Cond) v_f_X5_hasSite (HAppend.hAppend (α := List Cond) (β := List Cond) (γ := List Cond) wsX50 (HAppend.hAppend (α := List Cond) (β := List Cond) (γ := List Cond) v_f_X5_isFrozen []))))
theorem gw_f_X5_freezeRefusal : v_f_X5_freezeRefusal.all goodWord = true := by decide +kernel
theorem i_f_X5_freezeRefusal_X5 : ∀ w ∈ wsX50, w ∈ v_f_X5_freezeRefusal := fun _ h => List.mem_cons_of_mem _ (List.mem_append_right _ (List.mem_append_right _ (List.mem_append_left _ h)))
theorem g_f_X5_freezeRefusal_f_X5_hasSite_79 : GoodIn v_f_X5_freezeRefusal (wsV RX5 79 RX5 yX5_hasSite v_f_X5_hasSite) := goodIn_app (goodIn_of _ (by decide +kernel)) (goodIn_sub (fun _ h => List.mem_cons_of_mem _ (List.mem_append_right _ (List.mem_append_left _ h))) gw_f_X5_hasSite)
theorem g_f_X5_freezeRefusal_f_X5_isFrozen_131 : GoodIn v_f_X5_freezeRefusal (wsV RX5 131 RX5 yX5_isFrozen v_f_X5_isFrozen) := goodIn_app (goodIn_of _ (by decide +kernel)) (goodIn_sub (fun _ h => List.mem_cons_of_mem _ (List.mem_append_right _ (List.mem_append_right _ (List.mem_append_right _ (List.mem_append_left _ h))))) gw_f_X5_isFrozen)
theorem hd_X5_freezeRefusal : yX5_freezeRefusal.cls = RX5 ∧ yX5_freezeRefusal.cls ≠ "java/lang/invoke/MethodHandle" ∧ yX5_freezeRefusal.cls ≠ "java/lang/invoke/VarHandle" ∧ (parseMethodDescriptor yX5_freezeRefusal.desc).map (fun d => d.parameters.length) = some 1 := by decide +kernel
set_option maxHeartbeats 4000000 in
set_option maxRecDepth 100000 in
theorem f_X5_freezeRefusal (l : Launch) (E : EE) {a_ a_row a_partners a_share a_leftOver : Nat} {p1 : Int32} {c_askedCount : Int32} {c_outcome : Int32} {c_row : Nat → Int32} {rr : Int32} (hF : F_X5_freezeRefusal p1 c_row = some rr) : Met l yX5_freezeRefusal v_f_X5_freezeRefusal (({ frames := 2, cells := 0, slots := 0, locals := 42 } : Room)) (va_Pc [.ref a_, .int p1] (pP E (w_X5_freezeRefusal E a_ a_row a_partners a_share a_leftOver c_askedCount c_outcome c_row))) (vp_Si (fun q : Int32 => q = rr)) 0 0 (fun _ => False) := by
  refine Met.ofW (cc := cX5_freezeRefusal) (maxL := 3) (ret := (some .int)) (by decide) rfl ?_
  intro p e s m args below meth c s₁ B hml hv
  obtain ⟨rfl, ⟨hK, hN⟩, hP⟩ := hv
  have hx := B.exec
  have hb := B.bytes
  have hr := B.returns
  have hts := atoms_spec (ws := v_f_X5_freezeRefusal) B.pre
  have hown : s.vm.findClass RX5 = some m.cls := own_of hd_X5_freezeRefusal.1 (findClass_of_methodNamed B.named)
  have hlocks : meth.locks = false := B.notSynchronized
  replace hP : va_P E.1 vwCl [(a_, .inr (6, [.ref a_row, .ref a_partners, .int c_askedCount, .int c_outcome, .ref a_share, .ref a_leftOver])), (a_row, .inl (E.2.1, 81, .inl c_row))] s.heap := hP
  have hl := lv_entry ([.ref a_, .int p1]) (n := 3) (Nat.le_of_ble_eq_true rfl)
  rw [lg_entry_eq]
  generalize (lg_sl ([.ref a_, .int p1]) ++ List.replicate (3 - (lg_sl ([.ref a_, .int p1])).length) Slot.unset).toArray = ls at hl ⊢
  have hl : lv_has ls 3 [(0, .ref a_), (1, .int p1)] := hl
  obtain ⟨Q, hQ⟩ : ∃ Q : State → Prop, Q = MQ below (vp_Si (fun q : Int32 => q = rr)) #[Value.ref a_, Value.int p1] s 0 0 (fun _ => False) := ⟨_, rfl⟩
  rw [← hQ]
  change W p l e ({ frames := 2, cells := 0, slots := 0, locals := 42 } : Room) s m #[Value.ref a_, Value.int p1] below meth c s.heap [] 0 0 Q (F0 m 0 ls [])
  unfold F_X5_freezeRefusal at hF
  refine lv_aload_n hx hb dX5_freezeRefusal_0 rfl (lv_at hl 0 rfl) ?_
  refine lv_iload_n hx hb dX5_freezeRefusal_1 rfl (lv_at hl 1 rfl) ?_
  replace hF := bd1_s hF
  obtain ⟨r_1, hc_2, hF⟩ := hF
  have hPc : va_P E.1 vwCl (w_X5_hasSite E a_ a_row a_partners a_share a_leftOver c_askedCount c_outcome c_row) s.heap := hP.sub (ws' := [(a_, .inr (6, [.ref a_row, .ref a_partners, .int c_askedCount, .int c_outcome, .ref a_share, .ref a_leftOver])), (a_row, .inl (E.2.1, 81, .inl c_row))]) [0, 1] rfl
  have hrc := va_recv hK hPc (ci := 6) (q0 := 0) rfl rfl
  refine pE_z (va_runV (As := [.int p1]) (rest := [])  ⟨hx, hb, hml, hown, hts⟩ (f_X5_hasSite l E (a_ := a_) (a_row := a_row) (a_partners := a_partners) (a_share := a_share) (a_leftOver := a_leftOver) (p1 := p1) (c_askedCount := c_askedCount) (c_outcome := c_outcome) (c_row := c_row) hc_2) (cwV 1 hts g_f_X5_freezeRefusal_f_X5_hasSite_79 rfl rfl rfl hd_X5_hasSite ⟨Nat.le_of_ble_eq_true rfl, Nat.le_of_ble_eq_true rfl⟩) ⟨pP.blind, hrc, (pP.pre ⟨hK, hN⟩ hPc)⟩ rfl rfl hl.1 rfl (lv_room (Nat.le_of_ble_eq_true rfl)) dX5_freezeRefusal_2 ⟨Nat.le_of_ble_eq_true rfl, Nat.le_of_ble_eq_true rfl⟩) (fun hb_3 => ?_)
  refine lv_if_ne (tgt := 10) hx hb dX5_freezeRefusal_5 (by decide) (fun c_4 => ?_) (fun c_4 => ?_)
  ·
    replace hF := inn c_4 hF
    refine lv_iconst (v := 1) hx hb dX5_freezeRefusal_10 (by decide) ?_
    refine lv_aload_n hx hb dX5_freezeRefusal_11 rfl (lv_at hl 0 rfl) ?_
    refine gt_X5_0 (v := .ref a_row) hx hb hts i_f_X5_freezeRefusal_X5 hown hK hP 0 rfl (hts (.fieldLink RX5 11 "HushWatch$State" "row" "[I") (List.mem_of_getElem? (i := 1) rfl)) rfl dX5_freezeRefusal_12 ?_
    refine lv_iconst (v := 3) hx hb dX5_freezeRefusal_15 (by decide) ?_
    refine va_iald hx hb hK hP 1 0 rfl rfl (vin rfl) dX5_freezeRefusal_16 ?_
    refine W.eq (g2 := F0 m 17 ls [.int (c_row 3), .int (1 : Int32)]) rfl ?_
    refine lv_ishl hx hb dX5_freezeRefusal_17 ?_
    refine lv_iconst (v := 1) hx hb dX5_freezeRefusal_18 (by decide) ?_
    refine lv_isub hx hb dX5_freezeRefusal_19 ?_
    refine lv_istore_n (lv' := [(2, .int (((1 : Int32) <<< ((c_row 3) &&& (31 : Int32))) - (1 : Int32))), (0, .ref a_), (1, .int p1)]) hx hb dX5_freezeRefusal_20 rfl hl (by decide) rfl (fun ls hl => ?_)
    refine lv_aload_n hx hb dX5_freezeRefusal_21 rfl (lv_at hl 1 rfl) ?_
    refine gt_X5_0 (v := .ref a_row) hx hb hts i_f_X5_freezeRefusal_X5 hown hK hP 0 rfl (hts (.fieldLink RX5 11 "HushWatch$State" "row" "[I") (List.mem_of_getElem? (i := 1) rfl)) rfl dX5_freezeRefusal_22 ?_
    refine lv_bipush (v := 7) hx hb dX5_freezeRefusal_25 (by decide) ?_
    refine va_iald hx hb hK hP 1 0 rfl rfl (vin rfl) dX5_freezeRefusal_27 ?_
    refine W.eq (g2 := F0 m 28 ls [.int (c_row 7)]) rfl ?_
    refine lv_iconst (v := 1) hx hb dX5_freezeRefusal_28 (by decide) ?_
    refine lv_iload_n hx hb dX5_freezeRefusal_29 rfl (lv_at hl 2 rfl) ?_
    refine lv_ishl hx hb dX5_freezeRefusal_30 ?_
    refine lv_ior hx hb dX5_freezeRefusal_31 ?_
    refine lv_iload_n hx hb dX5_freezeRefusal_32 rfl (lv_at hl 0 rfl) ?_
    refine lv_icmp_ne (tgt := 48) hx hb dX5_freezeRefusal_33 (by decide) (fun c_5 => ?_) (fun c_5 => ?_)
    ·
      replace hF := inn c_5 hF
      refine lv_iconst (v := -1) hx hb dX5_freezeRefusal_48 (by decide) ?_
      rw [hQ]
      obtain e9_0 := inj1 hF
      exact W.iret (v := (-1 : Int32)) hx hb hr (fun tt ht hW => ⟨_, rfl, e9_0, ht⟩) (fun _ h => by cases h) dX5_freezeRefusal_49
    ·
      replace hF := ip c_5 hF
      refine lv_aload_n hx hb dX5_freezeRefusal_36 rfl (lv_at hl 1 rfl) ?_
      refine lv_iload_n hx hb dX5_freezeRefusal_37 rfl (lv_at hl 2 rfl) ?_
      replace hF := bd1_s hF
      obtain ⟨r_6, hc_7, hF⟩ := hF
      have hPc : va_P E.1 vwCl (w_X5_isFrozen E a_ a_row a_partners a_share a_leftOver c_askedCount c_outcome c_row) s.heap := hP.sub (ws' := [(a_, .inr (6, [.ref a_row, .ref a_partners, .int c_askedCount, .int c_outcome, .ref a_share, .ref a_leftOver])), (a_row, .inl (E.2.1, 81, .inl c_row))]) [0, 1] rfl
      have hrc := va_recv hK hPc (ci := 6) (q0 := 0) rfl rfl
      refine pE_z (va_runV (As := [.int p1]) (rest := [])  ⟨hx, hb, hml, hown, hts⟩ (f_X5_isFrozen l E (a_ := a_) (a_row := a_row) (a_partners := a_partners) (a_share := a_share) (a_leftOver := a_leftOver) (p1 := p1) (c_askedCount := c_askedCount) (c_outcome := c_outcome) (c_row := c_row) hc_7) (cwV 1 hts g_f_X5_freezeRefusal_f_X5_isFrozen_131 rfl rfl rfl hd_X5_isFrozen ⟨Nat.le_of_ble_eq_true rfl, Nat.le_of_ble_eq_true rfl⟩) ⟨pP.blind, hrc, (pP.pre ⟨hK, hN⟩ hPc)⟩ rfl rfl hl.1 rfl (lv_room (Nat.le_of_ble_eq_true rfl)) dX5_freezeRefusal_38 ⟨Nat.le_of_ble_eq_true rfl, Nat.le_of_ble_eq_true rfl⟩) (fun hb_8 => ?_)
      refine lv_if_ne (tgt := 48) hx hb dX5_freezeRefusal_41 (by decide) (fun c_9 => ?_) (fun c_9 => ?_)
      ·
        replace hF := inn c_9 hF
        refine lv_iconst (v := -1) hx hb dX5_freezeRefusal_48 (by decide) ?_
        rw [hQ]
        obtain e9_0 := inj1 hF
        exact W.iret (v := (-1 : Int32)) hx hb hr (fun tt ht hW => ⟨_, rfl, e9_0, ht⟩) (fun _ h => by cases h) dX5_freezeRefusal_49
      ·
        replace hF := ip c_9 hF
        refine lv_iconst (v := 2) hx hb dX5_freezeRefusal_44 (by decide) ?_
        refine lv_goto (tgt := 49) hx hb dX5_freezeRefusal_45 (by decide) ?_
        rw [hQ]
        obtain e9_0 := inj1 hF
        exact W.iret (v := (2 : Int32)) hx hb hr (fun tt ht hW => ⟨_, rfl, e9_0, ht⟩) (fun _ h => by cases h) dX5_freezeRefusal_49
  ·
    replace hF := ip c_4 hF
    refine lv_iconst (v := 0) hx hb dX5_freezeRefusal_8 (by decide) ?_
    rw [hQ]
    obtain e9_0 := inj1 hF
    exact W.iret (v := (0 : Int32)) hx hb hr (fun tt ht hW => ⟨_, rfl, e9_0, ht⟩) (fun _ h => by cases h) dX5_freezeRefusal_9

def F_X5_hasRoom (p1 : Int32) (p2 : Int32) (p3 : Int32) (c_row : Nat → Int32) : Option (Int32) :=
  bd1 (F_X5_of p1 (0 : Int32) c_row) (fun r_1 => if (99999 : Int32) < (absF (r_1 + p2)) then some (0 : Int32) else bd1 (F_X5_of p1 (1 : Int32) c_row) (fun r_4 => if (99999 : Int32) < (absF (r_4 + p3)) then some (0 : Int32) else some (1 : Int32)))
abbrev w_X5_hasRoom (E : EE) (a_ a_row a_partners a_share a_leftOver : Nat) (c_askedCount : Int32) (c_outcome : Int32) (c_row : Nat → Int32) : va_W := [(a_, .inr (6, [.ref a_row, .ref a_partners, .int c_askedCount, .int c_outcome, .ref a_share, .ref a_leftOver])), (a_row, .inl (E.2.1, 81, .inl c_row))]
def v_f_X5_hasRoom : List Cond := List.cons (.code yX5_hasRoom cX5_hasRoom 4 (some .boolean)) (HAppend.hAppend (α := List Cond) (β := List Cond) (γ := List Cond) [.methodLink RX5 94 Lib.Math.abs.name, .static Lib.Math.abs.name, .initialized "java/lang/Math", .code Lib.Math.abs.name Lib.Math.abs.code 1 (some .int), .constant RX5 98 (99999), .methodLink RX5 69 yX5_of, .instanceMethod yX5_of, .selects RX5 yX5_of yX5_of, .initialized RX5] (HAppend.hAppend (α := List Cond) (β := List Cond) (γ := List Cond) v_f_X5_of []))
theorem gw_f_X5_hasRoom : v_f_X5_hasRoom.all goodWord = true := by decide +kernel
theorem g_f_X5_hasRoom_f_X5_of_69 : GoodIn v_f_X5_hasRoom (wsV RX5 69 RX5 yX5_of v_f_X5_of) := goodIn_app (goodIn_of _ (by decide +kernel)) (goodIn_sub (fun _ h => List.mem_cons_of_mem _ (List.mem_append_right _ (List.mem_append_left _ h))) gw_f_X5_of)
theorem hd_X5_hasRoom : yX5_hasRoom.cls = RX5 ∧ yX5_hasRoom.cls ≠ "java/lang/invoke/MethodHandle" ∧ yX5_hasRoom.cls ≠ "java/lang/invoke/VarHandle" ∧ (parseMethodDescriptor yX5_hasRoom.desc).map (fun d => d.parameters.length) = some 3 := by decide +kernel
set_option maxHeartbeats 4000000 in
set_option maxRecDepth 100000 in
theorem f_X5_hasRoom (l : Launch) (E : EE) {a_ a_row a_partners a_share a_leftOver : Nat} {p1 : Int32} {p2 : Int32} {p3 : Int32} {c_askedCount : Int32} {c_outcome : Int32} {c_row : Nat → Int32} {rr : Int32} (hF : F_X5_hasRoom p1 p2 p3 c_row = some rr) : Met l yX5_hasRoom v_f_X5_hasRoom (({ frames := 1, cells := 0, slots := 0, locals := 22 } : Room)) (va_Pc [.ref a_, .int p1, .int p2, .int p3] (pP E (w_X5_hasRoom E a_ a_row a_partners a_share a_leftOver c_askedCount c_outcome c_row))) (vp_Si (fun q : Int32 => q = rr ∧ (q = 0 ∨ q = 1))) 0 0 (fun _ => False) := by
  refine Met.ofW (cc := cX5_hasRoom) (maxL := 4) (ret := (some .boolean)) (by decide) rfl ?_
  intro p e s m args below meth c s₁ B hml hv
  obtain ⟨rfl, ⟨hK, hN⟩, hP⟩ := hv
  have hx := B.exec
  have hb := B.bytes
  have hr := B.returns
  have hts := atoms_spec (ws := v_f_X5_hasRoom) B.pre
  have hown : s.vm.findClass RX5 = some m.cls := own_of hd_X5_hasRoom.1 (findClass_of_methodNamed B.named)
  have hlocks : meth.locks = false := B.notSynchronized
  replace hP : va_P E.1 vwCl [(a_, .inr (6, [.ref a_row, .ref a_partners, .int c_askedCount, .int c_outcome, .ref a_share, .ref a_leftOver])), (a_row, .inl (E.2.1, 81, .inl c_row))] s.heap := hP
  have hl := lv_entry ([.ref a_, .int p1, .int p2, .int p3]) (n := 4) (Nat.le_of_ble_eq_true rfl)
  rw [lg_entry_eq]
  generalize (lg_sl ([.ref a_, .int p1, .int p2, .int p3]) ++ List.replicate (4 - (lg_sl ([.ref a_, .int p1, .int p2, .int p3])).length) Slot.unset).toArray = ls at hl ⊢
  have hl : lv_has ls 4 [(0, .ref a_), (1, .int p1), (2, .int p2), (3, .int p3)] := hl
  obtain ⟨Q, hQ⟩ : ∃ Q : State → Prop, Q = MQ below (vp_Si (fun q : Int32 => q = rr ∧ (q = 0 ∨ q = 1))) #[Value.ref a_, Value.int p1, Value.int p2, Value.int p3] s 0 0 (fun _ => False) := ⟨_, rfl⟩
  rw [← hQ]
  change W p l e ({ frames := 1, cells := 0, slots := 0, locals := 22 } : Room) s m #[Value.ref a_, Value.int p1, Value.int p2, Value.int p3] below meth c s.heap [] 0 0 Q (F0 m 0 ls [])
  unfold F_X5_hasRoom at hF
  refine lv_aload_n hx hb dX5_hasRoom_0 rfl (lv_at hl 0 rfl) ?_
  refine lv_iload_n hx hb dX5_hasRoom_1 rfl (lv_at hl 1 rfl) ?_
  refine lv_iconst (v := 0) hx hb dX5_hasRoom_2 (by decide) ?_
  replace hF := bd1_s hF
  obtain ⟨r_1, hc_2, hF⟩ := hF
  have hPc : va_P E.1 vwCl (w_X5_of E a_ a_row a_partners a_share a_leftOver c_askedCount c_outcome c_row) s.heap := hP.sub (ws' := [(a_, .inr (6, [.ref a_row, .ref a_partners, .int c_askedCount, .int c_outcome, .ref a_share, .ref a_leftOver])), (a_row, .inl (E.2.1, 81, .inl c_row))]) [0, 1] rfl
  have hrc := va_recv hK hPc (ci := 6) (q0 := 0) rfl rfl
  refine pE_i (va_runV (As := [.int p1, .int (0 : Int32)]) (rest := [])  ⟨hx, hb, hml, hown, hts⟩ (f_X5_of l E (a_ := a_) (a_row := a_row) (a_partners := a_partners) (a_share := a_share) (a_leftOver := a_leftOver) (p1 := p1) (p2 := (0 : Int32)) (c_askedCount := c_askedCount) (c_outcome := c_outcome) (c_row := c_row) hc_2) (cwV 2 hts g_f_X5_hasRoom_f_X5_of_69 rfl rfl rfl hd_X5_of ⟨Nat.le_of_ble_eq_true rfl, Nat.le_of_ble_eq_true rfl⟩) ⟨pP.blind, hrc, (pP.pre ⟨hK, hN⟩ hPc)⟩ rfl rfl hl.1 rfl (lv_room (Nat.le_of_ble_eq_true rfl)) dX5_hasRoom_3 ⟨Nat.le_of_ble_eq_true rfl, Nat.le_of_ble_eq_true rfl⟩) ?_
  refine lv_iload_n hx hb dX5_hasRoom_6 rfl (lv_at hl 2 rfl) ?_
  refine lv_iadd hx hb dX5_hasRoom_7 ?_
  refine va_mabs hx hb (hml.trans hl.1.symm) hown (hts (.methodLink RX5 94 Lib.Math.abs.name) (List.mem_of_getElem? (i := 1) rfl)) (hts (.static Lib.Math.abs.name) (List.mem_of_getElem? (i := 2) rfl)) (hts (.initialized "java/lang/Math") (List.mem_of_getElem? (i := 3) rfl)) (hts (.code Lib.Math.abs.name Lib.Math.abs.code 1 (some .int)) (List.mem_of_getElem? (i := 4) rfl)) (Nat.le_of_ble_eq_true rfl) (Nat.le_of_ble_eq_true rfl) (Nat.le_of_ble_eq_true rfl) (Nat.le_of_ble_eq_true rfl) dX5_hasRoom_8 ?_
  refine W.eq (g2 := F0 m 11 ls [.int (absF (r_1 + p2))]) rfl ?_
  refine lv_ldc (v := 99999) hx hb hown (hts (.constant RX5 98 (99999)) (List.mem_of_getElem? (i := 5) rfl)) dX5_hasRoom_11 ?_
  refine lv_icmp_gt (tgt := 36) hx hb dX5_hasRoom_13 (by decide) (fun c_3 => ?_) (fun c_3 => ?_)
  ·
    replace hF := ip c_3 hF
    refine lv_iconst (v := 0) hx hb dX5_hasRoom_36 (by decide) ?_
    rw [hQ]
    obtain e9_0 := inj1 hF
    exact W.zret (v := (0 : Int32)) hx hb hr rfl (fun tt ht hW => ⟨_, rfl, ⟨e9_0, Or.inl rfl⟩, ht⟩) (fun _ h => by cases h) dX5_hasRoom_37
  ·
    replace hF := inn c_3 hF
    refine lv_aload_n hx hb dX5_hasRoom_16 rfl (lv_at hl 0 rfl) ?_
    refine lv_iload_n hx hb dX5_hasRoom_17 rfl (lv_at hl 1 rfl) ?_
    refine lv_iconst (v := 1) hx hb dX5_hasRoom_18 (by decide) ?_
    replace hF := bd1_s hF
    obtain ⟨r_4, hc_5, hF⟩ := hF
    have hPc : va_P E.1 vwCl (w_X5_of E a_ a_row a_partners a_share a_leftOver c_askedCount c_outcome c_row) s.heap := hP.sub (ws' := [(a_, .inr (6, [.ref a_row, .ref a_partners, .int c_askedCount, .int c_outcome, .ref a_share, .ref a_leftOver])), (a_row, .inl (E.2.1, 81, .inl c_row))]) [0, 1] rfl
    have hrc := va_recv hK hPc (ci := 6) (q0 := 0) rfl rfl
    refine pE_i (va_runV (As := [.int p1, .int (1 : Int32)]) (rest := [])  ⟨hx, hb, hml, hown, hts⟩ (f_X5_of l E (a_ := a_) (a_row := a_row) (a_partners := a_partners) (a_share := a_share) (a_leftOver := a_leftOver) (p1 := p1) (p2 := (1 : Int32)) (c_askedCount := c_askedCount) (c_outcome := c_outcome) (c_row := c_row) hc_5) (cwV 2 hts g_f_X5_hasRoom_f_X5_of_69 rfl rfl rfl hd_X5_of ⟨Nat.le_of_ble_eq_true rfl, Nat.le_of_ble_eq_true rfl⟩) ⟨pP.blind, hrc, (pP.pre ⟨hK, hN⟩ hPc)⟩ rfl rfl hl.1 rfl (lv_room (Nat.le_of_ble_eq_true rfl)) dX5_hasRoom_19 ⟨Nat.le_of_ble_eq_true rfl, Nat.le_of_ble_eq_true rfl⟩) ?_
    refine lv_iload_n hx hb dX5_hasRoom_22 rfl (lv_at hl 3 rfl) ?_
    refine lv_iadd hx hb dX5_hasRoom_23 ?_
    refine va_mabs hx hb (hml.trans hl.1.symm) hown (hts (.methodLink RX5 94 Lib.Math.abs.name) (List.mem_of_getElem? (i := 1) rfl)) (hts (.static Lib.Math.abs.name) (List.mem_of_getElem? (i := 2) rfl)) (hts (.initialized "java/lang/Math") (List.mem_of_getElem? (i := 3) rfl)) (hts (.code Lib.Math.abs.name Lib.Math.abs.code 1 (some .int)) (List.mem_of_getElem? (i := 4) rfl)) (Nat.le_of_ble_eq_true rfl) (Nat.le_of_ble_eq_true rfl) (Nat.le_of_ble_eq_true rfl) (Nat.le_of_ble_eq_true rfl) dX5_hasRoom_24 ?_
    refine W.eq (g2 := F0 m 27 ls [.int (absF (r_4 + p3))]) rfl ?_
    refine lv_ldc (v := 99999) hx hb hown (hts (.constant RX5 98 (99999)) (List.mem_of_getElem? (i := 5) rfl)) dX5_hasRoom_27 ?_
    refine lv_icmp_gt (tgt := 36) hx hb dX5_hasRoom_29 (by decide) (fun c_6 => ?_) (fun c_6 => ?_)
    ·
      replace hF := ip c_6 hF
      refine lv_iconst (v := 0) hx hb dX5_hasRoom_36 (by decide) ?_
      rw [hQ]
      obtain e9_0 := inj1 hF
      exact W.zret (v := (0 : Int32)) hx hb hr rfl (fun tt ht hW => ⟨_, rfl, ⟨e9_0, Or.inl rfl⟩, ht⟩) (fun _ h => by cases h) dX5_hasRoom_37
    ·
      replace hF := inn c_6 hF
      refine lv_iconst (v := 1) hx hb dX5_hasRoom_32 (by decide) ?_
      refine lv_goto (tgt := 37) hx hb dX5_hasRoom_33 (by decide) ?_
      rw [hQ]
      obtain e9_0 := inj1 hF
      exact W.zret (v := (1 : Int32)) hx hb hr rfl (fun tt ht hW => ⟨_, rfl, ⟨e9_0, Or.inr rfl⟩, ht⟩) (fun _ h => by cases h) dX5_hasRoom_37

def F_X5_isQuietWith (p1 : Int32) (p2 : Int32) (p3 : Int32) (c_row : Nat → Int32) : Option (Int32) :=
  bd1 (F_X5_drift p1 (0 : Int32) c_row) (fun r_1 => bd1 (F_X5_drift p1 (1 : Int32) c_row) (fun r_3 => bd1 (F_X5_isQuietDrift (r_1 + p2) (r_3 + p3) c_row) (fun r_5 => some r_5)))
abbrev w_X5_isQuietWith (E : EE) (a_ a_row a_partners a_share a_leftOver : Nat) (c_askedCount : Int32) (c_outcome : Int32) (c_row : Nat → Int32) : va_W := [(a_, .inr (6, [.ref a_row, .ref a_partners, .int c_askedCount, .int c_outcome, .ref a_share, .ref a_leftOver])), (a_row, .inl (E.2.1, 81, .inl c_row))]
def v_f_X5_isQuietWith : List Cond := List.cons (.code yX5_isQuietWith cX5_isQuietWith 4 (some .boolean)) (HAppend.hAppend (α := List Cond) (β := List Cond) (γ := List Cond) [.methodLink RX5 72 yX5_drift, .instanceMethod yX5_drift, .selects RX5 yX5_drift yX5_drift, .initialized RX5, .methodLink RX5 87 yX5_isQuietDrift, .instanceMethod yX5_isQuietDrift, .selects RX5 yX5_isQuietDrift yX5_isQuietDrift] (HAppend.hAppend (α := List Cond) (β := List Cond) (γ := List Cond) v_f_X5_drift (HAppend.hAppend (α := List Cond) (β := List Cond) (γ := List Cond) v_f_X5_isQuietDrift [])))
theorem gw_f_X5_isQuietWith : v_f_X5_isQuietWith.all goodWord = true := by decide +kernel
theorem g_f_X5_isQuietWith_f_X5_drift_72 : GoodIn v_f_X5_isQuietWith (wsV RX5 72 RX5 yX5_drift v_f_X5_drift) := goodIn_app (goodIn_of _ (by decide +kernel)) (goodIn_sub (fun _ h => List.mem_cons_of_mem _ (List.mem_append_right _ (List.mem_append_left _ h))) gw_f_X5_drift)
theorem g_f_X5_isQuietWith_f_X5_isQuietDrift_87 : GoodIn v_f_X5_isQuietWith (wsV RX5 87 RX5 yX5_isQuietDrift v_f_X5_isQuietDrift) := goodIn_app (goodIn_of _ (by decide +kernel)) (goodIn_sub (fun _ h => List.mem_cons_of_mem _ (List.mem_append_right _ (List.mem_append_right _ (List.mem_append_left _ h)))) gw_f_X5_isQuietDrift)
theorem hd_X5_isQuietWith : yX5_isQuietWith.cls = RX5 ∧ yX5_isQuietWith.cls ≠ "java/lang/invoke/MethodHandle" ∧ yX5_isQuietWith.cls ≠ "java/lang/invoke/VarHandle" ∧ (parseMethodDescriptor yX5_isQuietWith.desc).map (fun d => d.parameters.length) = some 3 := by decide +kernel
set_option maxHeartbeats 4000000 in
set_option maxRecDepth 100000 in
theorem f_X5_isQuietWith (l : Launch) (E : EE) {a_ a_row a_partners a_share a_leftOver : Nat} {p1 : Int32} {p2 : Int32} {p3 : Int32} {c_askedCount : Int32} {c_outcome : Int32} {c_row : Nat → Int32} {rr : Int32} (hF : F_X5_isQuietWith p1 p2 p3 c_row = some rr) : Met l yX5_isQuietWith v_f_X5_isQuietWith (({ frames := 2, cells := 0, slots := 0, locals := 50 } : Room)) (va_Pc [.ref a_, .int p1, .int p2, .int p3] (pP E (w_X5_isQuietWith E a_ a_row a_partners a_share a_leftOver c_askedCount c_outcome c_row))) (vp_Si (fun q : Int32 => q = rr ∧ (q = 0 ∨ q = 1))) 0 0 (fun _ => False) := by
  refine Met.ofW (cc := cX5_isQuietWith) (maxL := 4) (ret := (some .boolean)) (by decide) rfl ?_
  intro p e s m args below meth c s₁ B hml hv
  obtain ⟨rfl, ⟨hK, hN⟩, hP⟩ := hv
  have hx := B.exec
  have hb := B.bytes
  have hr := B.returns
  have hts := atoms_spec (ws := v_f_X5_isQuietWith) B.pre
  have hown : s.vm.findClass RX5 = some m.cls := own_of hd_X5_isQuietWith.1 (findClass_of_methodNamed B.named)
  have hlocks : meth.locks = false := B.notSynchronized
  replace hP : va_P E.1 vwCl [(a_, .inr (6, [.ref a_row, .ref a_partners, .int c_askedCount, .int c_outcome, .ref a_share, .ref a_leftOver])), (a_row, .inl (E.2.1, 81, .inl c_row))] s.heap := hP
  have hl := lv_entry ([.ref a_, .int p1, .int p2, .int p3]) (n := 4) (Nat.le_of_ble_eq_true rfl)
  rw [lg_entry_eq]
  generalize (lg_sl ([.ref a_, .int p1, .int p2, .int p3]) ++ List.replicate (4 - (lg_sl ([.ref a_, .int p1, .int p2, .int p3])).length) Slot.unset).toArray = ls at hl ⊢
  have hl : lv_has ls 4 [(0, .ref a_), (1, .int p1), (2, .int p2), (3, .int p3)] := hl
  obtain ⟨Q, hQ⟩ : ∃ Q : State → Prop, Q = MQ below (vp_Si (fun q : Int32 => q = rr ∧ (q = 0 ∨ q = 1))) #[Value.ref a_, Value.int p1, Value.int p2, Value.int p3] s 0 0 (fun _ => False) := ⟨_, rfl⟩
  rw [← hQ]
  change W p l e ({ frames := 2, cells := 0, slots := 0, locals := 50 } : Room) s m #[Value.ref a_, Value.int p1, Value.int p2, Value.int p3] below meth c s.heap [] 0 0 Q (F0 m 0 ls [])
  unfold F_X5_isQuietWith at hF
  refine lv_aload_n hx hb dX5_isQuietWith_0 rfl (lv_at hl 0 rfl) ?_
  refine lv_aload_n hx hb dX5_isQuietWith_1 rfl (lv_at hl 0 rfl) ?_
  refine lv_iload_n hx hb dX5_isQuietWith_2 rfl (lv_at hl 1 rfl) ?_
  refine lv_iconst (v := 0) hx hb dX5_isQuietWith_3 (by decide) ?_
  replace hF := bd1_s hF
  obtain ⟨r_1, hc_2, hF⟩ := hF
  have hPc : va_P E.1 vwCl (w_X5_drift E a_ a_row a_partners a_share a_leftOver c_askedCount c_outcome c_row) s.heap := hP.sub (ws' := [(a_, .inr (6, [.ref a_row, .ref a_partners, .int c_askedCount, .int c_outcome, .ref a_share, .ref a_leftOver])), (a_row, .inl (E.2.1, 81, .inl c_row))]) [0, 1] rfl
  have hrc := va_recv hK hPc (ci := 6) (q0 := 0) rfl rfl
  refine pE_i (va_runV (As := [.int p1, .int (0 : Int32)]) (rest := [.ref a_])  ⟨hx, hb, hml, hown, hts⟩ (f_X5_drift l E (a_ := a_) (a_row := a_row) (a_partners := a_partners) (a_share := a_share) (a_leftOver := a_leftOver) (p1 := p1) (p2 := (0 : Int32)) (c_askedCount := c_askedCount) (c_outcome := c_outcome) (c_row := c_row) hc_2) (cwV 2 hts g_f_X5_isQuietWith_f_X5_drift_72 rfl rfl rfl hd_X5_drift ⟨Nat.le_of_ble_eq_true rfl, Nat.le_of_ble_eq_true rfl⟩) ⟨pP.blind, hrc, (pP.pre ⟨hK, hN⟩ hPc)⟩ rfl rfl hl.1 rfl (lv_room (Nat.le_of_ble_eq_true rfl)) dX5_isQuietWith_4 ⟨Nat.le_of_ble_eq_true rfl, Nat.le_of_ble_eq_true rfl⟩) ?_
  refine lv_iload_n hx hb dX5_isQuietWith_7 rfl (lv_at hl 2 rfl) ?_
  refine lv_iadd hx hb dX5_isQuietWith_8 ?_
  refine lv_aload_n hx hb dX5_isQuietWith_9 rfl (lv_at hl 0 rfl) ?_
  refine lv_iload_n hx hb dX5_isQuietWith_10 rfl (lv_at hl 1 rfl) ?_
  refine lv_iconst (v := 1) hx hb dX5_isQuietWith_11 (by decide) ?_
  replace hF := bd1_s hF
  obtain ⟨r_3, hc_4, hF⟩ := hF
  have hPc : va_P E.1 vwCl (w_X5_drift E a_ a_row a_partners a_share a_leftOver c_askedCount c_outcome c_row) s.heap := hP.sub (ws' := [(a_, .inr (6, [.ref a_row, .ref a_partners, .int c_askedCount, .int c_outcome, .ref a_share, .ref a_leftOver])), (a_row, .inl (E.2.1, 81, .inl c_row))]) [0, 1] rfl
  have hrc := va_recv hK hPc (ci := 6) (q0 := 0) rfl rfl
  refine pE_i (va_runV (As := [.int p1, .int (1 : Int32)]) (rest := [.int (r_1 + p2), .ref a_])  ⟨hx, hb, hml, hown, hts⟩ (f_X5_drift l E (a_ := a_) (a_row := a_row) (a_partners := a_partners) (a_share := a_share) (a_leftOver := a_leftOver) (p1 := p1) (p2 := (1 : Int32)) (c_askedCount := c_askedCount) (c_outcome := c_outcome) (c_row := c_row) hc_4) (cwV 2 hts g_f_X5_isQuietWith_f_X5_drift_72 rfl rfl rfl hd_X5_drift ⟨Nat.le_of_ble_eq_true rfl, Nat.le_of_ble_eq_true rfl⟩) ⟨pP.blind, hrc, (pP.pre ⟨hK, hN⟩ hPc)⟩ rfl rfl hl.1 rfl (lv_room (Nat.le_of_ble_eq_true rfl)) dX5_isQuietWith_12 ⟨Nat.le_of_ble_eq_true rfl, Nat.le_of_ble_eq_true rfl⟩) ?_
  refine lv_iload_n hx hb dX5_isQuietWith_15 rfl (lv_at hl 3 rfl) ?_
  refine lv_iadd hx hb dX5_isQuietWith_16 ?_
  replace hF := bd1_s hF
  obtain ⟨r_5, hc_6, hF⟩ := hF
  have hPc : va_P E.1 vwCl (w_X5_isQuietDrift E a_ a_row a_partners a_share a_leftOver c_askedCount c_outcome c_row) s.heap := hP.sub (ws' := [(a_, .inr (6, [.ref a_row, .ref a_partners, .int c_askedCount, .int c_outcome, .ref a_share, .ref a_leftOver])), (a_row, .inl (E.2.1, 81, .inl c_row))]) [0, 1] rfl
  have hrc := va_recv hK hPc (ci := 6) (q0 := 0) rfl rfl
  refine pE_z (va_runV (As := [.int (r_1 + p2), .int (r_3 + p3)]) (rest := [])  ⟨hx, hb, hml, hown, hts⟩ (f_X5_isQuietDrift l E (a_ := a_) (a_row := a_row) (a_partners := a_partners) (a_share := a_share) (a_leftOver := a_leftOver) (p1 := r_1 + p2) (p2 := r_3 + p3) (c_askedCount := c_askedCount) (c_outcome := c_outcome) (c_row := c_row) hc_6) (cwV 2 hts g_f_X5_isQuietWith_f_X5_isQuietDrift_87 rfl rfl rfl hd_X5_isQuietDrift ⟨Nat.le_of_ble_eq_true rfl, Nat.le_of_ble_eq_true rfl⟩) ⟨pP.blind, hrc, (pP.pre ⟨hK, hN⟩ hPc)⟩ rfl rfl hl.1 rfl (lv_room (Nat.le_of_ble_eq_true rfl)) dX5_isQuietWith_17 ⟨Nat.le_of_ble_eq_true rfl, Nat.le_of_ble_eq_true rfl⟩) (fun hb_7 => ?_)
  rw [hQ]
  obtain e9_0 := inj1 hF
  exact W.zret (v := r_5) hx hb hr (nar_bool hb_7) (fun tt ht hW => ⟨_, rfl, ⟨e9_0, hb_7⟩, ht⟩) (fun _ h => by cases h) dX5_isQuietWith_20

def F_X7_isMovable (p0 : Int32) (p1 : Int32) : Option (Int32) :=
  if p0 < (-9999 : Int32) then some (0 : Int32) else if (9999 : Int32) < p0 then some (0 : Int32) else if p1 < (-9999 : Int32) then some (0 : Int32) else if (9999 : Int32) < p1 then some (0 : Int32) else some (1 : Int32)

def v_f_X7_isMovable : List Cond := List.cons (.code yX7_isMovable cX7_isMovable 2 (some .boolean)) (HAppend.hAppend (α := List Cond) (β := List Cond) (γ := List Cond) [] [])
theorem gw_f_X7_isMovable : v_f_X7_isMovable.all goodWord = true := by decide +kernel
theorem hd_X7_isMovable : yX7_isMovable.cls = RX7 ∧ yX7_isMovable.cls ≠ "java/lang/invoke/MethodHandle" ∧ yX7_isMovable.cls ≠ "java/lang/invoke/VarHandle" ∧ (parseMethodDescriptor yX7_isMovable.desc).map (fun d => d.parameters.length) = some 2 := by decide +kernel
set_option maxHeartbeats 4000000 in
set_option maxRecDepth 100000 in
theorem f_X7_isMovable (l : Launch) (E : EE) {p0 : Int32} {p1 : Int32} {rr : Int32} (hF : F_X7_isMovable p0 p1 = some rr) : Met l yX7_isMovable v_f_X7_isMovable (({ frames := 0, cells := 0, slots := 0, locals := 0 } : Room)) (va_Pc [.int p0, .int p1] (pP E [])) (vp_Si (fun q : Int32 => q = rr ∧ (q = 0 ∨ q = 1))) 0 0 (fun _ => False) := by
  refine Met.ofW (cc := cX7_isMovable) (maxL := 2) (ret := (some .boolean)) (by decide) rfl ?_
  intro p e s m args below meth c s₁ B hml hv
  obtain ⟨rfl, ⟨hK, hN⟩, hP⟩ := hv
  have hx := B.exec
  have hb := B.bytes
  have hr := B.returns
  have hts := atoms_spec (ws := v_f_X7_isMovable) B.pre
  have hown : s.vm.findClass RX7 = some m.cls := own_of hd_X7_isMovable.1 (findClass_of_methodNamed B.named)
  have hlocks : meth.locks = false := B.notSynchronized
  replace hP : va_P E.1 vwCl [] s.heap := hP
  have hl := lv_entry ([.int p0, .int p1]) (n := 2) (Nat.le_of_ble_eq_true rfl)
  rw [lg_entry_eq]
  generalize (lg_sl ([.int p0, .int p1]) ++ List.replicate (2 - (lg_sl ([.int p0, .int p1])).length) Slot.unset).toArray = ls at hl ⊢
  have hl : lv_has ls 2 [(0, .int p0), (1, .int p1)] := hl
  obtain ⟨Q, hQ⟩ : ∃ Q : State → Prop, Q = MQ below (vp_Si (fun q : Int32 => q = rr ∧ (q = 0 ∨ q = 1))) #[Value.int p0, Value.int p1] s 0 0 (fun _ => False) := ⟨_, rfl⟩
  rw [← hQ]
  change W p l e ({ frames := 0, cells := 0, slots := 0, locals := 0 } : Room) s m #[Value.int p0, Value.int p1] below meth c s.heap [] 0 0 Q (F0 m 0 ls [])
  unfold F_X7_isMovable at hF
  refine lv_iload_n hx hb dX7_isMovable_0 rfl (lv_at hl 0 rfl) ?_
  refine lv_sipush (v := -9999) hx hb dX7_isMovable_1 (by decide) ?_
  refine lv_icmp_lt (tgt := 32) hx hb dX7_isMovable_4 (by decide) (fun c_1 => ?_) (fun c_1 => ?_)
  ·
    replace hF := ip c_1 hF
    refine lv_iconst (v := 0) hx hb dX7_isMovable_32 (by decide) ?_
    rw [hQ]
    obtain e9_0 := inj1 hF
    exact W.zret (v := (0 : Int32)) hx hb hr rfl (fun tt ht hW => ⟨_, rfl, ⟨e9_0, Or.inl rfl⟩, ht⟩) (fun _ h => by cases h) dX7_isMovable_33
  ·
    replace hF := inn c_1 hF
    refine lv_iload_n hx hb dX7_isMovable_7 rfl (lv_at hl 0 rfl) ?_
    refine lv_sipush (v := 9999) hx hb dX7_isMovable_8 (by decide) ?_
    refine lv_icmp_gt (tgt := 32) hx hb dX7_isMovable_11 (by decide) (fun c_2 => ?_) (fun c_2 => ?_)
    ·
      replace hF := ip c_2 hF
      refine lv_iconst (v := 0) hx hb dX7_isMovable_32 (by decide) ?_
      rw [hQ]
      obtain e9_0 := inj1 hF
      exact W.zret (v := (0 : Int32)) hx hb hr rfl (fun tt ht hW => ⟨_, rfl, ⟨e9_0, Or.inl rfl⟩, ht⟩) (fun _ h => by cases h) dX7_isMovable_33
    ·
      replace hF := inn c_2 hF
      refine lv_iload_n hx hb dX7_isMovable_14 rfl (lv_at hl 1 rfl) ?_
      refine lv_sipush (v := -9999) hx hb dX7_isMovable_15 (by decide) ?_
      refine lv_icmp_lt (tgt := 32) hx hb dX7_isMovable_18 (by decide) (fun c_3 => ?_) (fun c_3 => ?_)
      ·
        replace hF := ip c_3 hF
        refine lv_iconst (v := 0) hx hb dX7_isMovable_32 (by decide) ?_
        rw [hQ]
        obtain e9_0 := inj1 hF
        exact W.zret (v := (0 : Int32)) hx hb hr rfl (fun tt ht hW => ⟨_, rfl, ⟨e9_0, Or.inl rfl⟩, ht⟩) (fun _ h => by cases h) dX7_isMovable_33
      ·
        replace hF := inn c_3 hF
        refine lv_iload_n hx hb dX7_isMovable_21 rfl (lv_at hl 1 rfl) ?_
        refine lv_sipush (v := 9999) hx hb dX7_isMovable_22 (by decide) ?_
        refine lv_icmp_gt (tgt := 32) hx hb dX7_isMovable_25 (by decide) (fun c_4 => ?_) (fun c_4 => ?_)
        ·
          replace hF := ip c_4 hF
          refine lv_iconst (v := 0) hx hb dX7_isMovable_32 (by decide) ?_
          rw [hQ]
          obtain e9_0 := inj1 hF
          exact W.zret (v := (0 : Int32)) hx hb hr rfl (fun tt ht hW => ⟨_, rfl, ⟨e9_0, Or.inl rfl⟩, ht⟩) (fun _ h => by cases h) dX7_isMovable_33
        ·
          replace hF := inn c_4 hF
          refine lv_iconst (v := 1) hx hb dX7_isMovable_28 (by decide) ?_
          refine lv_goto (tgt := 33) hx hb dX7_isMovable_29 (by decide) ?_
          rw [hQ]
          obtain e9_0 := inj1 hF
          exact W.zret (v := (1 : Int32)) hx hb hr rfl (fun tt ht hW => ⟨_, rfl, ⟨e9_0, Or.inr rfl⟩, ht⟩) (fun _ h => by cases h) dX7_isMovable_33

def F_X5_moveRefusal (p1 : Int32) (p2 : Int32) (p3 : Int32) (c_row : Nat → Int32) : Option (Int32) :=
  bd1 (F_X5_hasSite p1 c_row) (fun r_1 => if r_1 = (0 : Int32) then some (0 : Int32) else bd1 (F_X7_isMovable p2 p3) (fun r_5 => if r_5 = (0 : Int32) then some (1 : Int32) else bd1 (F_X5_hasRoom p1 p2 p3 c_row) (fun r_9 => if r_9 = (0 : Int32) then some (1 : Int32) else if p2 = (0 : Int32) then if p3 = (0 : Int32) then some (2 : Int32) else bd1 (F_X5_isFrozen p1 c_row) (fun r_19 => if r_19 = (0 : Int32) then some (-1 : Int32) else some (2 : Int32)) else bd1 (F_X5_isFrozen p1 c_row) (fun r_14 => if r_14 = (0 : Int32) then some (-1 : Int32) else some (2 : Int32)))))
abbrev w_X5_moveRefusal (E : EE) (a_ a_row a_partners a_share a_leftOver : Nat) (c_askedCount : Int32) (c_outcome : Int32) (c_row : Nat → Int32) : va_W := [(a_, .inr (6, [.ref a_row, .ref a_partners, .int c_askedCount, .int c_outcome, .ref a_share, .ref a_leftOver])), (a_row, .inl (E.2.1, 81, .inl c_row))]
def v_f_X5_moveRefusal : List Cond := List.cons (.code yX5_moveRefusal cX5_moveRefusal 4 (some .int)) (HAppend.hAppend (α := List Cond) (β := List Cond) (γ := List Cond) [.initialized RX7, .static yX7_isMovable, .methodLink RX5 79 yX5_hasSite, .instanceMethod yX5_hasSite, .selects RX5 yX5_hasSite yX5_hasSite, .initialized RX5, .methodLink RX5 127 yX5_hasRoom, .instanceMethod yX5_hasRoom, .selects RX5 yX5_hasRoom yX5_hasRoom, .methodLink RX5 131 yX5_isFrozen, .instanceMethod yX5_isFrozen, .selects RX5 yX5_isFrozen yX5_isFrozen] (HAppend.hAppend (α := List Cond) (β := List Cond) (γ := List Cond) v_f_X5_hasSite (HAppend.hAppend (α := List Cond) (β := List Cond) (γ := List Cond) v_f_X7_isMovable (HAppend.hAppend (α := List Cond) (β := List Cond) (γ := List Cond) v_f_X5_hasRoom (HAppend.hAppend (α := List Cond) (β := List Cond) (γ := List Cond) v_f_X5_isFrozen [])))))
theorem gw_f_X5_moveRefusal : v_f_X5_moveRefusal.all goodWord = true := by decide +kernel
theorem g_f_X5_moveRefusal_f_X5_hasSite_79 : GoodIn v_f_X5_moveRefusal (wsV RX5 79 RX5 yX5_hasSite v_f_X5_hasSite) := goodIn_app (goodIn_of _ (by decide +kernel)) (goodIn_sub (fun _ h => List.mem_cons_of_mem _ (List.mem_append_right _ (List.mem_append_left _ h))) gw_f_X5_hasSite)
theorem g_f_X5_moveRefusal_f_X7_isMovable_124 : GoodIn v_f_X5_moveRefusal v_f_X7_isMovable := goodIn_sub (fun _ h => List.mem_cons_of_mem _ (List.mem_append_right _ (List.mem_append_right _ (List.mem_append_left _ h)))) gw_f_X7_isMovable
theorem g_f_X5_moveRefusal_f_X5_hasRoom_127 : GoodIn v_f_X5_moveRefusal (wsV RX5 127 RX5 yX5_hasRoom v_f_X5_hasRoom) := goodIn_app (goodIn_of _ (by decide +kernel)) (goodIn_sub (fun _ h => List.mem_cons_of_mem _ (List.mem_append_right _ (List.mem_append_right _ (List.mem_append_right _ (List.mem_append_left _ h))))) gw_f_X5_hasRoom)
theorem g_f_X5_moveRefusal_f_X5_isFrozen_131 : GoodIn v_f_X5_moveRefusal (wsV RX5 131 RX5 yX5_isFrozen v_f_X5_isFrozen) := goodIn_app (goodIn_of _ (by decide +kernel)) (goodIn_sub (fun _ h => List.mem_cons_of_mem _ (List.mem_append_right _ (List.mem_append_right _ (List.mem_append_right _ (List.mem_append_right _ (List.mem_append_left _ h)))))) gw_f_X5_isFrozen)
theorem hd_X5_moveRefusal : yX5_moveRefusal.cls = RX5 ∧ yX5_moveRefusal.cls ≠ "java/lang/invoke/MethodHandle" ∧ yX5_moveRefusal.cls ≠ "java/lang/invoke/VarHandle" ∧ (parseMethodDescriptor yX5_moveRefusal.desc).map (fun d => d.parameters.length) = some 3 := by decide +kernel
set_option maxHeartbeats 4000000 in
set_option maxRecDepth 100000 in
theorem f_X5_moveRefusal (l : Launch) (E : EE) {a_ a_row a_partners a_share a_leftOver : Nat} {p1 : Int32} {p2 : Int32} {p3 : Int32} {c_askedCount : Int32} {c_outcome : Int32} {c_row : Nat → Int32} {rr : Int32} (hF : F_X5_moveRefusal p1 p2 p3 c_row = some rr) : Met l yX5_moveRefusal v_f_X5_moveRefusal (({ frames := 2, cells := 0, slots := 0, locals := 45 } : Room)) (va_Pc [.ref a_, .int p1, .int p2, .int p3] (pP E (w_X5_moveRefusal E a_ a_row a_partners a_share a_leftOver c_askedCount c_outcome c_row))) (vp_Si (fun q : Int32 => q = rr)) 0 0 (fun _ => False) := by
  refine Met.ofW (cc := cX5_moveRefusal) (maxL := 4) (ret := (some .int)) (by decide) rfl ?_
  intro p e s m args below meth c s₁ B hml hv
  obtain ⟨rfl, ⟨hK, hN⟩, hP⟩ := hv
  have hx := B.exec
  have hb := B.bytes
  have hr := B.returns
  have hts := atoms_spec (ws := v_f_X5_moveRefusal) B.pre
  have hown : s.vm.findClass RX5 = some m.cls := own_of hd_X5_moveRefusal.1 (findClass_of_methodNamed B.named)
  have hlocks : meth.locks = false := B.notSynchronized
  replace hP : va_P E.1 vwCl [(a_, .inr (6, [.ref a_row, .ref a_partners, .int c_askedCount, .int c_outcome, .ref a_share, .ref a_leftOver])), (a_row, .inl (E.2.1, 81, .inl c_row))] s.heap := hP
  have hl := lv_entry ([.ref a_, .int p1, .int p2, .int p3]) (n := 4) (Nat.le_of_ble_eq_true rfl)
  rw [lg_entry_eq]
  generalize (lg_sl ([.ref a_, .int p1, .int p2, .int p3]) ++ List.replicate (4 - (lg_sl ([.ref a_, .int p1, .int p2, .int p3])).length) Slot.unset).toArray = ls at hl ⊢
  have hl : lv_has ls 4 [(0, .ref a_), (1, .int p1), (2, .int p2), (3, .int p3)] := hl
  obtain ⟨Q, hQ⟩ : ∃ Q : State → Prop, Q = MQ below (vp_Si (fun q : Int32 => q = rr)) #[Value.ref a_, Value.int p1, Value.int p2, Value.int p3] s 0 0 (fun _ => False) := ⟨_, rfl⟩
  rw [← hQ]
  change W p l e ({ frames := 2, cells := 0, slots := 0, locals := 45 } : Room) s m #[Value.ref a_, Value.int p1, Value.int p2, Value.int p3] below meth c s.heap [] 0 0 Q (F0 m 0 ls [])
  unfold F_X5_moveRefusal at hF
  refine lv_aload_n hx hb dX5_moveRefusal_0 rfl (lv_at hl 0 rfl) ?_
  refine lv_iload_n hx hb dX5_moveRefusal_1 rfl (lv_at hl 1 rfl) ?_
  replace hF := bd1_s hF
  obtain ⟨r_1, hc_2, hF⟩ := hF
  have hPc : va_P E.1 vwCl (w_X5_hasSite E a_ a_row a_partners a_share a_leftOver c_askedCount c_outcome c_row) s.heap := hP.sub (ws' := [(a_, .inr (6, [.ref a_row, .ref a_partners, .int c_askedCount, .int c_outcome, .ref a_share, .ref a_leftOver])), (a_row, .inl (E.2.1, 81, .inl c_row))]) [0, 1] rfl
  have hrc := va_recv hK hPc (ci := 6) (q0 := 0) rfl rfl
  refine pE_z (va_runV (As := [.int p1]) (rest := [])  ⟨hx, hb, hml, hown, hts⟩ (f_X5_hasSite l E (a_ := a_) (a_row := a_row) (a_partners := a_partners) (a_share := a_share) (a_leftOver := a_leftOver) (p1 := p1) (c_askedCount := c_askedCount) (c_outcome := c_outcome) (c_row := c_row) hc_2) (cwV 1 hts g_f_X5_moveRefusal_f_X5_hasSite_79 rfl rfl rfl hd_X5_hasSite ⟨Nat.le_of_ble_eq_true rfl, Nat.le_of_ble_eq_true rfl⟩) ⟨pP.blind, hrc, (pP.pre ⟨hK, hN⟩ hPc)⟩ rfl rfl hl.1 rfl (lv_room (Nat.le_of_ble_eq_true rfl)) dX5_moveRefusal_2 ⟨Nat.le_of_ble_eq_true rfl, Nat.le_of_ble_eq_true rfl⟩) (fun hb_3 => ?_)
  refine lv_if_ne (tgt := 10) hx hb dX5_moveRefusal_5 (by decide) (fun c_4 => ?_) (fun c_4 => ?_)
  ·
    replace hF := inn c_4 hF
    refine lv_iload_n hx hb dX5_moveRefusal_10 rfl (lv_at hl 2 rfl) ?_
    refine lv_iload_n hx hb dX5_moveRefusal_11 rfl (lv_at hl 3 rfl) ?_
    replace hF := bd1_s hF
    obtain ⟨r_5, hc_6, hF⟩ := hF
    have hPc : va_P E.1 vwCl [] s.heap := fun k q h => by simp at h
    refine pE_z (va_runSN (As := [.int p2, .int p3]) (rest := [])  ⟨hx, hb, hml, hown, hts⟩ (f_X7_isMovable l E (p0 := p2) (p1 := p3) hc_6) ⟨va_cnB 2 hts g_f_X5_moveRefusal_f_X7_isMovable_124 rfl rfl rfl (hN _ (List.mem_of_getElem? (i := 26) rfl)) (hts (.initialized RX7) (List.mem_of_getElem? (i := 1) rfl)) hd_X7_isMovable.2 ⟨Nat.le_of_ble_eq_true rfl, Nat.le_of_ble_eq_true rfl⟩, (hts (.static yX7_isMovable) (List.mem_of_getElem? (i := 2) rfl)), trivial⟩ ⟨pP.blind, (pP.pre ⟨hK, hN⟩ hPc)⟩ rfl rfl hl.1 rfl (lv_room (Nat.le_of_ble_eq_true rfl)) dX5_moveRefusal_12 ⟨Nat.le_of_ble_eq_true rfl, Nat.le_of_ble_eq_true rfl⟩) (fun hb_7 => ?_)
    refine lv_if_eq (tgt := 28) hx hb dX5_moveRefusal_15 (by decide) (fun c_8 => ?_) (fun c_8 => ?_)
    ·
      replace hF := ip c_8 hF
      refine lv_iconst (v := 1) hx hb dX5_moveRefusal_28 (by decide) ?_
      rw [hQ]
      obtain e9_0 := inj1 hF
      exact W.iret (v := (1 : Int32)) hx hb hr (fun tt ht hW => ⟨_, rfl, e9_0, ht⟩) (fun _ h => by cases h) dX5_moveRefusal_29
    ·
      replace hF := inn c_8 hF
      refine lv_aload_n hx hb dX5_moveRefusal_18 rfl (lv_at hl 0 rfl) ?_
      refine lv_iload_n hx hb dX5_moveRefusal_19 rfl (lv_at hl 1 rfl) ?_
      refine lv_iload_n hx hb dX5_moveRefusal_20 rfl (lv_at hl 2 rfl) ?_
      refine lv_iload_n hx hb dX5_moveRefusal_21 rfl (lv_at hl 3 rfl) ?_
      replace hF := bd1_s hF
      obtain ⟨r_9, hc_10, hF⟩ := hF
      have hPc : va_P E.1 vwCl (w_X5_hasRoom E a_ a_row a_partners a_share a_leftOver c_askedCount c_outcome c_row) s.heap := hP.sub (ws' := [(a_, .inr (6, [.ref a_row, .ref a_partners, .int c_askedCount, .int c_outcome, .ref a_share, .ref a_leftOver])), (a_row, .inl (E.2.1, 81, .inl c_row))]) [0, 1] rfl
      have hrc := va_recv hK hPc (ci := 6) (q0 := 0) rfl rfl
      refine pE_z (va_runV (As := [.int p1, .int p2, .int p3]) (rest := [])  ⟨hx, hb, hml, hown, hts⟩ (f_X5_hasRoom l E (a_ := a_) (a_row := a_row) (a_partners := a_partners) (a_share := a_share) (a_leftOver := a_leftOver) (p1 := p1) (p2 := p2) (p3 := p3) (c_askedCount := c_askedCount) (c_outcome := c_outcome) (c_row := c_row) hc_10) (cwV 3 hts g_f_X5_moveRefusal_f_X5_hasRoom_127 rfl rfl rfl hd_X5_hasRoom ⟨Nat.le_of_ble_eq_true rfl, Nat.le_of_ble_eq_true rfl⟩) ⟨pP.blind, hrc, (pP.pre ⟨hK, hN⟩ hPc)⟩ rfl rfl hl.1 rfl (lv_room (Nat.le_of_ble_eq_true rfl)) dX5_moveRefusal_22 ⟨Nat.le_of_ble_eq_true rfl, Nat.le_of_ble_eq_true rfl⟩) (fun hb_11 => ?_)
      refine lv_if_ne (tgt := 30) hx hb dX5_moveRefusal_25 (by decide) (fun c_12 => ?_) (fun c_12 => ?_)
      ·
        replace hF := inn c_12 hF
        refine lv_iload_n hx hb dX5_moveRefusal_30 rfl (lv_at hl 2 rfl) ?_
        refine lv_if_ne (tgt := 38) hx hb dX5_moveRefusal_31 (by decide) (fun c_13 => ?_) (fun c_13 => ?_)
        ·
          replace hF := inn c_13 hF
          refine lv_aload_n hx hb dX5_moveRefusal_38 rfl (lv_at hl 0 rfl) ?_
          refine lv_iload_n hx hb dX5_moveRefusal_39 rfl (lv_at hl 1 rfl) ?_
          replace hF := bd1_s hF
          obtain ⟨r_14, hc_15, hF⟩ := hF
          have hPc : va_P E.1 vwCl (w_X5_isFrozen E a_ a_row a_partners a_share a_leftOver c_askedCount c_outcome c_row) s.heap := hP.sub (ws' := [(a_, .inr (6, [.ref a_row, .ref a_partners, .int c_askedCount, .int c_outcome, .ref a_share, .ref a_leftOver])), (a_row, .inl (E.2.1, 81, .inl c_row))]) [0, 1] rfl
          have hrc := va_recv hK hPc (ci := 6) (q0 := 0) rfl rfl
          refine pE_z (va_runV (As := [.int p1]) (rest := [])  ⟨hx, hb, hml, hown, hts⟩ (f_X5_isFrozen l E (a_ := a_) (a_row := a_row) (a_partners := a_partners) (a_share := a_share) (a_leftOver := a_leftOver) (p1 := p1) (c_askedCount := c_askedCount) (c_outcome := c_outcome) (c_row := c_row) hc_15) (cwV 1 hts g_f_X5_moveRefusal_f_X5_isFrozen_131 rfl rfl rfl hd_X5_isFrozen ⟨Nat.le_of_ble_eq_true rfl, Nat.le_of_ble_eq_true rfl⟩) ⟨pP.blind, hrc, (pP.pre ⟨hK, hN⟩ hPc)⟩ rfl rfl hl.1 rfl (lv_room (Nat.le_of_ble_eq_true rfl)) dX5_moveRefusal_40 ⟨Nat.le_of_ble_eq_true rfl, Nat.le_of_ble_eq_true rfl⟩) (fun hb_16 => ?_)
          refine lv_if_eq (tgt := 50) hx hb dX5_moveRefusal_43 (by decide) (fun c_17 => ?_) (fun c_17 => ?_)
          ·
            replace hF := ip c_17 hF
            refine lv_iconst (v := -1) hx hb dX5_moveRefusal_50 (by decide) ?_
            rw [hQ]
            obtain e9_0 := inj1 hF
            exact W.iret (v := (-1 : Int32)) hx hb hr (fun tt ht hW => ⟨_, rfl, e9_0, ht⟩) (fun _ h => by cases h) dX5_moveRefusal_51
          ·
            replace hF := inn c_17 hF
            refine lv_iconst (v := 2) hx hb dX5_moveRefusal_46 (by decide) ?_
            refine lv_goto (tgt := 51) hx hb dX5_moveRefusal_47 (by decide) ?_
            rw [hQ]
            obtain e9_0 := inj1 hF
            exact W.iret (v := (2 : Int32)) hx hb hr (fun tt ht hW => ⟨_, rfl, e9_0, ht⟩) (fun _ h => by cases h) dX5_moveRefusal_51
        ·
          replace hF := ip c_13 hF
          refine lv_iload_n hx hb dX5_moveRefusal_34 rfl (lv_at hl 3 rfl) ?_
          refine lv_if_eq (tgt := 46) hx hb dX5_moveRefusal_35 (by decide) (fun c_18 => ?_) (fun c_18 => ?_)
          ·
            replace hF := ip c_18 hF
            refine lv_iconst (v := 2) hx hb dX5_moveRefusal_46 (by decide) ?_
            refine lv_goto (tgt := 51) hx hb dX5_moveRefusal_47 (by decide) ?_
            rw [hQ]
            obtain e9_0 := inj1 hF
            exact W.iret (v := (2 : Int32)) hx hb hr (fun tt ht hW => ⟨_, rfl, e9_0, ht⟩) (fun _ h => by cases h) dX5_moveRefusal_51
          ·
            replace hF := inn c_18 hF
            refine lv_aload_n hx hb dX5_moveRefusal_38 rfl (lv_at hl 0 rfl) ?_
            refine lv_iload_n hx hb dX5_moveRefusal_39 rfl (lv_at hl 1 rfl) ?_
            replace hF := bd1_s hF
            obtain ⟨r_19, hc_20, hF⟩ := hF
            have hPc : va_P E.1 vwCl (w_X5_isFrozen E a_ a_row a_partners a_share a_leftOver c_askedCount c_outcome c_row) s.heap := hP.sub (ws' := [(a_, .inr (6, [.ref a_row, .ref a_partners, .int c_askedCount, .int c_outcome, .ref a_share, .ref a_leftOver])), (a_row, .inl (E.2.1, 81, .inl c_row))]) [0, 1] rfl
            have hrc := va_recv hK hPc (ci := 6) (q0 := 0) rfl rfl
            refine pE_z (va_runV (As := [.int p1]) (rest := [])  ⟨hx, hb, hml, hown, hts⟩ (f_X5_isFrozen l E (a_ := a_) (a_row := a_row) (a_partners := a_partners) (a_share := a_share) (a_leftOver := a_leftOver) (p1 := p1) (c_askedCount := c_askedCount) (c_outcome := c_outcome) (c_row := c_row) hc_20) (cwV 1 hts g_f_X5_moveRefusal_f_X5_isFrozen_131 rfl rfl rfl hd_X5_isFrozen ⟨Nat.le_of_ble_eq_true rfl, Nat.le_of_ble_eq_true rfl⟩) ⟨pP.blind, hrc, (pP.pre ⟨hK, hN⟩ hPc)⟩ rfl rfl hl.1 rfl (lv_room (Nat.le_of_ble_eq_true rfl)) dX5_moveRefusal_40 ⟨Nat.le_of_ble_eq_true rfl, Nat.le_of_ble_eq_true rfl⟩) (fun hb_21 => ?_)
            refine lv_if_eq (tgt := 50) hx hb dX5_moveRefusal_43 (by decide) (fun c_22 => ?_) (fun c_22 => ?_)
            ·
              replace hF := ip c_22 hF
              refine lv_iconst (v := -1) hx hb dX5_moveRefusal_50 (by decide) ?_
              rw [hQ]
              obtain e9_0 := inj1 hF
              exact W.iret (v := (-1 : Int32)) hx hb hr (fun tt ht hW => ⟨_, rfl, e9_0, ht⟩) (fun _ h => by cases h) dX5_moveRefusal_51
            ·
              replace hF := inn c_22 hF
              refine lv_iconst (v := 2) hx hb dX5_moveRefusal_46 (by decide) ?_
              refine lv_goto (tgt := 51) hx hb dX5_moveRefusal_47 (by decide) ?_
              rw [hQ]
              obtain e9_0 := inj1 hF
              exact W.iret (v := (2 : Int32)) hx hb hr (fun tt ht hW => ⟨_, rfl, e9_0, ht⟩) (fun _ h => by cases h) dX5_moveRefusal_51
      ·
        replace hF := ip c_12 hF
        refine lv_iconst (v := 1) hx hb dX5_moveRefusal_28 (by decide) ?_
        rw [hQ]
        obtain e9_0 := inj1 hF
        exact W.iret (v := (1 : Int32)) hx hb hr (fun tt ht hW => ⟨_, rfl, e9_0, ht⟩) (fun _ h => by cases h) dX5_moveRefusal_29
  ·
    replace hF := ip c_4 hF
    refine lv_iconst (v := 0) hx hb dX5_moveRefusal_8 (by decide) ?_
    rw [hQ]
    obtain e9_0 := inj1 hF
    exact W.iret (v := (0 : Int32)) hx hb hr (fun tt ht hW => ⟨_, rfl, e9_0, ht⟩) (fun _ h => by cases h) dX5_moveRefusal_9

def J_X5_point_19 (p1 : Int32) (p2 : Int32) (c_row : Nat → Int32) (k0 : Int32) : Option (Int32) :=
  bd1 (F_X5_drift p1 p2 c_row) (fun r_2 => some (k0 + ((c_row 3) * r_2)))
def F_X5_point (p1 : Int32) (p2 : Int32) (c_row : Nat → Int32) : Option (Int32) :=
  if p2 = (0 : Int32) then J_X5_point_19 p1 p2 c_row (c_row 4) else J_X5_point_19 p1 p2 c_row (c_row 5)
abbrev w_X5_point (E : EE) (a_ a_row a_partners a_share a_leftOver : Nat) (c_askedCount : Int32) (c_outcome : Int32) (c_row : Nat → Int32) : va_W := [(a_, .inr (6, [.ref a_row, .ref a_partners, .int c_askedCount, .int c_outcome, .ref a_share, .ref a_leftOver])), (a_row, .inl (E.2.1, 81, .inl c_row))]
def v_f_X5_point : List Cond := List.cons (.code yX5_point cX5_point 3 (some .int)) (HAppend.hAppend (α := List Cond) (β := List Cond) (γ := List Cond) [.fieldLink RX5 11 "HushWatch$State" "row" "[I", .methodLink RX5 72 yX5_drift, .instanceMethod yX5_drift, .selects RX5 yX5_drift yX5_drift, .initialized RX5] (HAppend.hAppend (α := List Cond) (β := List Cond) (γ := List Cond) wsX50 (HAppend.hAppend (α := List Cond) (β := List Cond) (γ := List Cond) v_f_X5_drift [])))
theorem gw_f_X5_point : v_f_X5_point.all goodWord = true := by decide +kernel
theorem i_f_X5_point_X5 : ∀ w ∈ wsX50, w ∈ v_f_X5_point := fun _ h => List.mem_cons_of_mem _ (List.mem_append_right _ (List.mem_append_left _ h))
theorem g_f_X5_point_f_X5_drift_72 : GoodIn v_f_X5_point (wsV RX5 72 RX5 yX5_drift v_f_X5_drift) := goodIn_app (goodIn_of _ (by decide +kernel)) (goodIn_sub (fun _ h => List.mem_cons_of_mem _ (List.mem_append_right _ (List.mem_append_right _ (List.mem_append_left _ h)))) gw_f_X5_drift)
theorem hd_X5_point : yX5_point.cls = RX5 ∧ yX5_point.cls ≠ "java/lang/invoke/MethodHandle" ∧ yX5_point.cls ≠ "java/lang/invoke/VarHandle" ∧ (parseMethodDescriptor yX5_point.desc).map (fun d => d.parameters.length) = some 2 := by decide +kernel
set_option maxHeartbeats 4000000 in
set_option maxRecDepth 100000 in
theorem j_X5_point_19 {p : Program} (l : Launch) {e : Env} {s : State} {m : MethodId} {below : List Frame} {meth : Method} {c : Code} {Q : State → Prop} (E : EE) {a_ a_row a_partners a_share a_leftOver : Nat} {p1 : Int32} {p2 : Int32} {c_askedCount : Int32} {c_outcome : Int32} {c_row : Nat → Int32} {k0 : Int32} (hx : p.tables.exec = Jvm.exec) (hb : c.code = cX5_point) (hml : c.maxLocals = 3) (hown : s.vm.findClass RX5 = some m.cls) (hts : ∀ w ∈ v_f_X5_point, w.before #[Value.ref a_, Value.int p1, Value.int p2] s = true) (hK : va_K E.1 vwCl (TY E) s) (hN : NX s) {rr : Int32} (hr : meth.sig.returnType = (some .int)) (hlocks : meth.locks = false) (hQ : Q = MQ below (vp_Si (fun q : Int32 => q = rr)) #[Value.ref a_, Value.int p1, Value.int p2] s 0 0 (fun _ => False)) (hF : J_X5_point_19 p1 p2 c_row k0 = some rr) (hP : va_P E.1 vwCl (w_X5_point E a_ a_row a_partners a_share a_leftOver c_askedCount c_outcome c_row) s.heap) : ∀ (ls : Array Slot), lv_has ls 3 [(0, .ref a_), (1, .int p1), (2, .int p2)] → W p l e ({ frames := 1, cells := 0, slots := 0, locals := 23 } : Room) s m #[Value.ref a_, Value.int p1, Value.int p2] below meth c s.heap [] 0 0 Q (F0 m 19 ls [.int k0]) := by
  unfold J_X5_point_19 at hF
  replace hP : va_P E.1 vwCl [(a_, .inr (6, [.ref a_row, .ref a_partners, .int c_askedCount, .int c_outcome, .ref a_share, .ref a_leftOver])), (a_row, .inl (E.2.1, 81, .inl c_row))] s.heap := hP
  intro ls hl
  refine lv_aload_n hx hb dX5_point_19 rfl (lv_at hl 0 rfl) ?_
  refine gt_X5_0 (v := .ref a_row) hx hb hts i_f_X5_point_X5 hown hK hP 0 rfl (hts (.fieldLink RX5 11 "HushWatch$State" "row" "[I") (List.mem_of_getElem? (i := 1) rfl)) rfl dX5_point_20 ?_
  refine lv_iconst (v := 3) hx hb dX5_point_23 (by decide) ?_
  refine va_iald hx hb hK hP 1 0 rfl rfl (vin rfl) dX5_point_24 ?_
  refine W.eq (g2 := F0 m 25 ls [.int (c_row 3), .int k0]) rfl ?_
  refine lv_aload_n hx hb dX5_point_25 rfl (lv_at hl 0 rfl) ?_
  refine lv_iload_n hx hb dX5_point_26 rfl (lv_at hl 1 rfl) ?_
  refine lv_iload_n hx hb dX5_point_27 rfl (lv_at hl 2 rfl) ?_
  replace hF := bd1_s hF
  obtain ⟨r_2, hc_3, hF⟩ := hF
  have hPc : va_P E.1 vwCl (w_X5_drift E a_ a_row a_partners a_share a_leftOver c_askedCount c_outcome c_row) s.heap := hP.sub (ws' := [(a_, .inr (6, [.ref a_row, .ref a_partners, .int c_askedCount, .int c_outcome, .ref a_share, .ref a_leftOver])), (a_row, .inl (E.2.1, 81, .inl c_row))]) [0, 1] rfl
  have hrc := va_recv hK hPc (ci := 6) (q0 := 0) rfl rfl
  refine pE_i (va_runV (As := [.int p1, .int p2]) (rest := [.int (c_row 3), .int k0])  ⟨hx, hb, hml, hown, hts⟩ (f_X5_drift l E (a_ := a_) (a_row := a_row) (a_partners := a_partners) (a_share := a_share) (a_leftOver := a_leftOver) (p1 := p1) (p2 := p2) (c_askedCount := c_askedCount) (c_outcome := c_outcome) (c_row := c_row) hc_3) (cwV 2 hts g_f_X5_point_f_X5_drift_72 rfl rfl rfl hd_X5_drift ⟨Nat.le_of_ble_eq_true rfl, Nat.le_of_ble_eq_true rfl⟩) ⟨pP.blind, hrc, (pP.pre ⟨hK, hN⟩ hPc)⟩ rfl rfl hl.1 rfl (lv_room (Nat.le_of_ble_eq_true rfl)) dX5_point_28 ⟨Nat.le_of_ble_eq_true rfl, Nat.le_of_ble_eq_true rfl⟩) ?_
  refine lv_imul hx hb dX5_point_31 ?_
  refine lv_iadd hx hb dX5_point_32 ?_
  rw [hQ]
  obtain e9_0 := inj1 hF
  exact W.iret (v := k0 + ((c_row 3) * r_2)) hx hb hr (fun tt ht hW => ⟨_, rfl, e9_0, ht⟩) (fun _ h => by cases h) dX5_point_33

set_option maxHeartbeats 4000000 in
set_option maxRecDepth 100000 in
theorem f_X5_point (l : Launch) (E : EE) {a_ a_row a_partners a_share a_leftOver : Nat} {p1 : Int32} {p2 : Int32} {c_askedCount : Int32} {c_outcome : Int32} {c_row : Nat → Int32} {rr : Int32} (hF : F_X5_point p1 p2 c_row = some rr) : Met l yX5_point v_f_X5_point (({ frames := 1, cells := 0, slots := 0, locals := 23 } : Room)) (va_Pc [.ref a_, .int p1, .int p2] (pP E (w_X5_point E a_ a_row a_partners a_share a_leftOver c_askedCount c_outcome c_row))) (vp_Si (fun q : Int32 => q = rr)) 0 0 (fun _ => False) := by
  refine Met.ofW (cc := cX5_point) (maxL := 3) (ret := (some .int)) (by decide) rfl ?_
  intro p e s m args below meth c s₁ B hml hv
  obtain ⟨rfl, ⟨hK, hN⟩, hP⟩ := hv
  have hx := B.exec
  have hb := B.bytes
  have hr := B.returns
  have hts := atoms_spec (ws := v_f_X5_point) B.pre
  have hown : s.vm.findClass RX5 = some m.cls := own_of hd_X5_point.1 (findClass_of_methodNamed B.named)
  have hlocks : meth.locks = false := B.notSynchronized
  replace hP : va_P E.1 vwCl [(a_, .inr (6, [.ref a_row, .ref a_partners, .int c_askedCount, .int c_outcome, .ref a_share, .ref a_leftOver])), (a_row, .inl (E.2.1, 81, .inl c_row))] s.heap := hP
  have hl := lv_entry ([.ref a_, .int p1, .int p2]) (n := 3) (Nat.le_of_ble_eq_true rfl)
  rw [lg_entry_eq]
  generalize (lg_sl ([.ref a_, .int p1, .int p2]) ++ List.replicate (3 - (lg_sl ([.ref a_, .int p1, .int p2])).length) Slot.unset).toArray = ls at hl ⊢
  have hl : lv_has ls 3 [(0, .ref a_), (1, .int p1), (2, .int p2)] := hl
  obtain ⟨Q, hQ⟩ : ∃ Q : State → Prop, Q = MQ below (vp_Si (fun q : Int32 => q = rr)) #[Value.ref a_, Value.int p1, Value.int p2] s 0 0 (fun _ => False) := ⟨_, rfl⟩
  rw [← hQ]
  change W p l e ({ frames := 1, cells := 0, slots := 0, locals := 23 } : Room) s m #[Value.ref a_, Value.int p1, Value.int p2] below meth c s.heap [] 0 0 Q (F0 m 0 ls [])
  unfold F_X5_point at hF
  refine lv_iload_n hx hb dX5_point_0 rfl (lv_at hl 2 rfl) ?_
  refine lv_if_ne (tgt := 13) hx hb dX5_point_1 (by decide) (fun c_1 => ?_) (fun c_1 => ?_)
  ·
    replace hF := inn c_1 hF
    refine lv_aload_n hx hb dX5_point_13 rfl (lv_at hl 0 rfl) ?_
    refine gt_X5_0 (v := .ref a_row) hx hb hts i_f_X5_point_X5 hown hK hP 0 rfl (hts (.fieldLink RX5 11 "HushWatch$State" "row" "[I") (List.mem_of_getElem? (i := 1) rfl)) rfl dX5_point_14 ?_
    refine lv_iconst (v := 5) hx hb dX5_point_17 (by decide) ?_
    refine va_iald hx hb hK hP 1 0 rfl rfl (vin rfl) dX5_point_18 ?_
    refine W.eq (g2 := F0 m 19 ls [.int (c_row 5)]) rfl ?_
    exact j_X5_point_19 l E (p1 := p1) (p2 := p2) (c_askedCount := c_askedCount) (c_outcome := c_outcome) (c_row := c_row) (k0 := c_row 5) hx hb hml hown hts hK hN hr hlocks hQ hF hP ls (lv_sub hl [0, 1, 2] rfl)
  ·
    replace hF := ip c_1 hF
    refine lv_aload_n hx hb dX5_point_4 rfl (lv_at hl 0 rfl) ?_
    refine gt_X5_0 (v := .ref a_row) hx hb hts i_f_X5_point_X5 hown hK hP 0 rfl (hts (.fieldLink RX5 11 "HushWatch$State" "row" "[I") (List.mem_of_getElem? (i := 1) rfl)) rfl dX5_point_5 ?_
    refine lv_iconst (v := 4) hx hb dX5_point_8 (by decide) ?_
    refine va_iald hx hb hK hP 1 0 rfl rfl (vin rfl) dX5_point_9 ?_
    refine W.eq (g2 := F0 m 10 ls [.int (c_row 4)]) rfl ?_
    refine lv_goto (tgt := 19) hx hb dX5_point_10 (by decide) ?_
    exact j_X5_point_19 l E (p1 := p1) (p2 := p2) (c_askedCount := c_askedCount) (c_outcome := c_outcome) (c_row := c_row) (k0 := c_row 4) hx hb hml hown hts hK hN hr hlocks hQ hF hP ls (lv_sub hl [0, 1, 2] rfl)

def F_X5_pointValue (p1 : Int32) (p2 : Int32) (p3 : Int32) (c_row : Nat → Int32) : Option (Int64) :=
  bd1 (F_X5_point p1 (0 : Int32) c_row) (fun r_1 => bd1 (F_X5_point p1 (1 : Int32) c_row) (fun r_3 => bd1 (F_X5_valueOf ((r_1 + ((c_row 3) * p2)).toInt64) ((r_3 + ((c_row 3) * p3)).toInt64) c_row) (fun r_5 => some r_5)))
abbrev w_X5_pointValue (E : EE) (a_ a_row a_partners a_share a_leftOver : Nat) (c_askedCount : Int32) (c_outcome : Int32) (c_row : Nat → Int32) : va_W := [(a_, .inr (6, [.ref a_row, .ref a_partners, .int c_askedCount, .int c_outcome, .ref a_share, .ref a_leftOver])), (a_row, .inl (E.2.1, 81, .inl c_row))]
def v_f_X5_pointValue : List Cond := List.cons (.code yX5_pointValue cX5_pointValue 4 (some .long)) (HAppend.hAppend (α := List Cond) (β := List Cond) (γ := List Cond) [.fieldLink RX5 11 "HushWatch$State" "row" "[I", .methodLink RX5 91 yX5_point, .instanceMethod yX5_point, .selects RX5 yX5_point yX5_point, .initialized RX5, .methodLink RX5 75 yX5_valueOf, .instanceMethod yX5_valueOf, .selects RX5 yX5_valueOf yX5_valueOf] (HAppend.hAppend (α := List Cond) (β := List Cond) (γ := List Cond) v_f_X5_point (HAppend.hAppend (α := List Cond) (β := List Cond) (γ := List Cond) wsX50 (HAppend.hAppend (α := List Cond) (β := List Cond) (γ := List Cond) v_f_X5_valueOf []))))
theorem gw_f_X5_pointValue : v_f_X5_pointValue.all goodWord = true := by decide +kernel
theorem i_f_X5_pointValue_X5 : ∀ w ∈ wsX50, w ∈ v_f_X5_pointValue := fun _ h => List.mem_cons_of_mem _ (List.mem_append_right _ (List.mem_append_right _ (List.mem_append_left _ h)))
theorem g_f_X5_pointValue_f_X5_point_91 : GoodIn v_f_X5_pointValue (wsV RX5 91 RX5 yX5_point v_f_X5_point) := goodIn_app (goodIn_of _ (by decide +kernel)) (goodIn_sub (fun _ h => List.mem_cons_of_mem _ (List.mem_append_right _ (List.mem_append_left _ h))) gw_f_X5_point)
theorem g_f_X5_pointValue_f_X5_valueOf_75 : GoodIn v_f_X5_pointValue (wsV RX5 75 RX5 yX5_valueOf v_f_X5_valueOf) := goodIn_app (goodIn_of _ (by decide +kernel)) (goodIn_sub (fun _ h => List.mem_cons_of_mem _ (List.mem_append_right _ (List.mem_append_right _ (List.mem_append_right _ (List.mem_append_left _ h))))) gw_f_X5_valueOf)
theorem hd_X5_pointValue : yX5_pointValue.cls = RX5 ∧ yX5_pointValue.cls ≠ "java/lang/invoke/MethodHandle" ∧ yX5_pointValue.cls ≠ "java/lang/invoke/VarHandle" ∧ (parseMethodDescriptor yX5_pointValue.desc).map (fun d => d.parameters.length) = some 3 := by decide +kernel
set_option maxHeartbeats 4000000 in
set_option maxRecDepth 100000 in
theorem f_X5_pointValue (l : Launch) (E : EE) {a_ a_row a_partners a_share a_leftOver : Nat} {p1 : Int32} {p2 : Int32} {p3 : Int32} {c_askedCount : Int32} {c_outcome : Int32} {c_row : Nat → Int32} {rr : Int64} (hF : F_X5_pointValue p1 p2 p3 c_row = some rr) : Met l yX5_pointValue v_f_X5_pointValue (({ frames := 2, cells := 0, slots := 0, locals := 45 } : Room)) (va_Pc [.ref a_, .int p1, .int p2, .int p3] (pP E (w_X5_pointValue E a_ a_row a_partners a_share a_leftOver c_askedCount c_outcome c_row))) (vp_Sl (fun q : Int64 => q = rr)) 0 0 (fun _ => False) := by
  refine Met.ofW (cc := cX5_pointValue) (maxL := 4) (ret := (some .long)) (by decide) rfl ?_
  intro p e s m args below meth c s₁ B hml hv
  obtain ⟨rfl, ⟨hK, hN⟩, hP⟩ := hv
  have hx := B.exec
  have hb := B.bytes
  have hr := B.returns
  have hts := atoms_spec (ws := v_f_X5_pointValue) B.pre
  have hown : s.vm.findClass RX5 = some m.cls := own_of hd_X5_pointValue.1 (findClass_of_methodNamed B.named)
  have hlocks : meth.locks = false := B.notSynchronized
  replace hP : va_P E.1 vwCl [(a_, .inr (6, [.ref a_row, .ref a_partners, .int c_askedCount, .int c_outcome, .ref a_share, .ref a_leftOver])), (a_row, .inl (E.2.1, 81, .inl c_row))] s.heap := hP
  have hl := lv_entry ([.ref a_, .int p1, .int p2, .int p3]) (n := 4) (Nat.le_of_ble_eq_true rfl)
  rw [lg_entry_eq]
  generalize (lg_sl ([.ref a_, .int p1, .int p2, .int p3]) ++ List.replicate (4 - (lg_sl ([.ref a_, .int p1, .int p2, .int p3])).length) Slot.unset).toArray = ls at hl ⊢
  have hl : lv_has ls 4 [(0, .ref a_), (1, .int p1), (2, .int p2), (3, .int p3)] := hl
  obtain ⟨Q, hQ⟩ : ∃ Q : State → Prop, Q = MQ below (vp_Sl (fun q : Int64 => q = rr)) #[Value.ref a_, Value.int p1, Value.int p2, Value.int p3] s 0 0 (fun _ => False) := ⟨_, rfl⟩
  rw [← hQ]
  change W p l e ({ frames := 2, cells := 0, slots := 0, locals := 45 } : Room) s m #[Value.ref a_, Value.int p1, Value.int p2, Value.int p3] below meth c s.heap [] 0 0 Q (F0 m 0 ls [])
  unfold F_X5_pointValue at hF
  refine lv_aload_n hx hb dX5_pointValue_0 rfl (lv_at hl 0 rfl) ?_
  refine lv_aload_n hx hb dX5_pointValue_1 rfl (lv_at hl 0 rfl) ?_
  refine lv_iload_n hx hb dX5_pointValue_2 rfl (lv_at hl 1 rfl) ?_
  refine lv_iconst (v := 0) hx hb dX5_pointValue_3 (by decide) ?_
  replace hF := bd1_s hF
  obtain ⟨r_1, hc_2, hF⟩ := hF
  have hPc : va_P E.1 vwCl (w_X5_point E a_ a_row a_partners a_share a_leftOver c_askedCount c_outcome c_row) s.heap := hP.sub (ws' := [(a_, .inr (6, [.ref a_row, .ref a_partners, .int c_askedCount, .int c_outcome, .ref a_share, .ref a_leftOver])), (a_row, .inl (E.2.1, 81, .inl c_row))]) [0, 1] rfl
  have hrc := va_recv hK hPc (ci := 6) (q0 := 0) rfl rfl
  refine pE_i (va_runV (As := [.int p1, .int (0 : Int32)]) (rest := [.ref a_])  ⟨hx, hb, hml, hown, hts⟩ (f_X5_point l E (a_ := a_) (a_row := a_row) (a_partners := a_partners) (a_share := a_share) (a_leftOver := a_leftOver) (p1 := p1) (p2 := (0 : Int32)) (c_askedCount := c_askedCount) (c_outcome := c_outcome) (c_row := c_row) hc_2) (cwV 2 hts g_f_X5_pointValue_f_X5_point_91 rfl rfl rfl hd_X5_point ⟨Nat.le_of_ble_eq_true rfl, Nat.le_of_ble_eq_true rfl⟩) ⟨pP.blind, hrc, (pP.pre ⟨hK, hN⟩ hPc)⟩ rfl rfl hl.1 rfl (lv_room (Nat.le_of_ble_eq_true rfl)) dX5_pointValue_4 ⟨Nat.le_of_ble_eq_true rfl, Nat.le_of_ble_eq_true rfl⟩) ?_
  refine lv_aload_n hx hb dX5_pointValue_7 rfl (lv_at hl 0 rfl) ?_
  refine gt_X5_0 (v := .ref a_row) hx hb hts i_f_X5_pointValue_X5 hown hK hP 0 rfl (hts (.fieldLink RX5 11 "HushWatch$State" "row" "[I") (List.mem_of_getElem? (i := 1) rfl)) rfl dX5_pointValue_8 ?_
  refine lv_iconst (v := 3) hx hb dX5_pointValue_11 (by decide) ?_
  refine va_iald hx hb hK hP 1 0 rfl rfl (vin rfl) dX5_pointValue_12 ?_
  refine W.eq (g2 := F0 m 13 ls [.int (c_row 3), .int r_1, .ref a_]) rfl ?_
  refine lv_iload_n hx hb dX5_pointValue_13 rfl (lv_at hl 2 rfl) ?_
  refine lv_imul hx hb dX5_pointValue_14 ?_
  refine lv_iadd hx hb dX5_pointValue_15 ?_
  refine lv_i2l (v := (r_1 + ((c_row 3) * p2)).toInt64) hx hb dX5_pointValue_16 rfl ?_
  refine lv_aload_n hx hb dX5_pointValue_17 rfl (lv_at hl 0 rfl) ?_
  refine lv_iload_n hx hb dX5_pointValue_18 rfl (lv_at hl 1 rfl) ?_
  refine lv_iconst (v := 1) hx hb dX5_pointValue_19 (by decide) ?_
  replace hF := bd1_s hF
  obtain ⟨r_3, hc_4, hF⟩ := hF
  have hPc : va_P E.1 vwCl (w_X5_point E a_ a_row a_partners a_share a_leftOver c_askedCount c_outcome c_row) s.heap := hP.sub (ws' := [(a_, .inr (6, [.ref a_row, .ref a_partners, .int c_askedCount, .int c_outcome, .ref a_share, .ref a_leftOver])), (a_row, .inl (E.2.1, 81, .inl c_row))]) [0, 1] rfl
  have hrc := va_recv hK hPc (ci := 6) (q0 := 0) rfl rfl
  refine pE_i (va_runV (As := [.int p1, .int (1 : Int32)]) (rest := [.long ((r_1 + ((c_row 3) * p2)).toInt64), .ref a_])  ⟨hx, hb, hml, hown, hts⟩ (f_X5_point l E (a_ := a_) (a_row := a_row) (a_partners := a_partners) (a_share := a_share) (a_leftOver := a_leftOver) (p1 := p1) (p2 := (1 : Int32)) (c_askedCount := c_askedCount) (c_outcome := c_outcome) (c_row := c_row) hc_4) (cwV 2 hts g_f_X5_pointValue_f_X5_point_91 rfl rfl rfl hd_X5_point ⟨Nat.le_of_ble_eq_true rfl, Nat.le_of_ble_eq_true rfl⟩) ⟨pP.blind, hrc, (pP.pre ⟨hK, hN⟩ hPc)⟩ rfl rfl hl.1 rfl (lv_room (Nat.le_of_ble_eq_true rfl)) dX5_pointValue_20 ⟨Nat.le_of_ble_eq_true rfl, Nat.le_of_ble_eq_true rfl⟩) ?_
  refine lv_aload_n hx hb dX5_pointValue_23 rfl (lv_at hl 0 rfl) ?_
  refine gt_X5_0 (v := .ref a_row) hx hb hts i_f_X5_pointValue_X5 hown hK hP 0 rfl (hts (.fieldLink RX5 11 "HushWatch$State" "row" "[I") (List.mem_of_getElem? (i := 1) rfl)) rfl dX5_pointValue_24 ?_
  refine lv_iconst (v := 3) hx hb dX5_pointValue_27 (by decide) ?_
  refine va_iald hx hb hK hP 1 0 rfl rfl (vin rfl) dX5_pointValue_28 ?_
  refine W.eq (g2 := F0 m 29 ls [.int (c_row 3), .int r_3, .long ((r_1 + ((c_row 3) * p2)).toInt64), .ref a_]) rfl ?_
  refine lv_iload_n hx hb dX5_pointValue_29 rfl (lv_at hl 3 rfl) ?_
  refine lv_imul hx hb dX5_pointValue_30 ?_
  refine lv_iadd hx hb dX5_pointValue_31 ?_
  refine lv_i2l (v := (r_3 + ((c_row 3) * p3)).toInt64) hx hb dX5_pointValue_32 rfl ?_
  replace hF := bd1_s hF
  obtain ⟨r_5, hc_6, hF⟩ := hF
  have hPc : va_P E.1 vwCl (w_X5_valueOf E a_ a_row a_partners a_share a_leftOver c_askedCount c_outcome c_row) s.heap := hP.sub (ws' := [(a_, .inr (6, [.ref a_row, .ref a_partners, .int c_askedCount, .int c_outcome, .ref a_share, .ref a_leftOver])), (a_row, .inl (E.2.1, 81, .inl c_row))]) [0, 1] rfl
  have hrc := va_recv hK hPc (ci := 6) (q0 := 0) rfl rfl
  refine pE_l (va_runV (As := [.long ((r_1 + ((c_row 3) * p2)).toInt64), .long ((r_3 + ((c_row 3) * p3)).toInt64)]) (rest := [])  ⟨hx, hb, hml, hown, hts⟩ (f_X5_valueOf l E (a_ := a_) (a_row := a_row) (a_partners := a_partners) (a_share := a_share) (a_leftOver := a_leftOver) (p1 := (r_1 + ((c_row 3) * p2)).toInt64) (p2 := (r_3 + ((c_row 3) * p3)).toInt64) (c_askedCount := c_askedCount) (c_outcome := c_outcome) (c_row := c_row) hc_6) (cwV 2 hts g_f_X5_pointValue_f_X5_valueOf_75 rfl rfl rfl hd_X5_valueOf ⟨Nat.le_of_ble_eq_true rfl, Nat.le_of_ble_eq_true rfl⟩) ⟨pP.blind, hrc, (pP.pre ⟨hK, hN⟩ hPc)⟩ rfl rfl hl.1 rfl (lv_room (Nat.le_of_ble_eq_true rfl)) dX5_pointValue_33 ⟨Nat.le_of_ble_eq_true rfl, Nat.le_of_ble_eq_true rfl⟩) ?_
  rw [hQ]
  obtain e9_0 := inj1 hF
  exact W.lret (v := r_5) hx hb hr (fun tt ht hW => ⟨_, rfl, e9_0, ht⟩) (fun _ h => by cases h) dX5_pointValue_36

def B_X5_quietSites_4 (c_row : Nat → Int32) (x1 : Int32) (x2 : Int32) : Option ((Int32 × Int32) ⊕ (Int32)) :=
  bd1 (F_X5_sites c_row) (fun r_1 => if r_1 ≤ x2 then some (.inr x1) else bd1 (F_X5_isQuiet x2 c_row) (fun r_4 => if r_4 = (0 : Int32) then some (.inl (x1 ||| (0 : Int32), x2 + (1 : Int32))) else some (.inl (x1 ||| ((1 : Int32) <<< (x2 &&& (31 : Int32))), x2 + (1 : Int32)))))
def F_X5_quietSites (K : Nat) (c_row : Nat → Int32) : Option (Int32) :=
  bd1 (lpF (fun u9 : Int32 × Int32 => B_X5_quietSites_4 c_row u9.1 u9.2) K ((0 : Int32), (0 : Int32))) (fun x1_8 => some x1_8)
abbrev w_X5_quietSites (E : EE) (a_ a_row a_partners a_share a_leftOver : Nat) (c_askedCount : Int32) (c_outcome : Int32) (c_row : Nat → Int32) : va_W := [(a_, .inr (6, [.ref a_row, .ref a_partners, .int c_askedCount, .int c_outcome, .ref a_share, .ref a_leftOver])), (a_row, .inl (E.2.1, 81, .inl c_row))]
def v_f_X5_quietSites : List Cond := List.cons (.code yX5_quietSites cX5_quietSites 3 (some .int)) (HAppend.hAppend (α := List Cond) (β := List Cond) (γ := List Cond) [.methodLink RX5 45 yX5_sites, .instanceMethod yX5_sites, .selects RX5 yX5_sites yX5_sites, .initialized RX5, .methodLink RX5 99 yX5_isQuiet, .instanceMethod yX5_isQuiet, .selects RX5 yX5_isQuiet yX5_isQuiet] (HAppend.hAppend (α := List Cond) (β := List Cond) (γ := List Cond) v_f_X5_sites (HAppend.hAppend (α := List Cond) (β := List Cond) (γ := List Cond) v_f_X5_isQuiet [])))
theorem gw_f_X5_quietSites : v_f_X5_quietSites.all goodWord = true := by decide +kernel
theorem g_f_X5_quietSites_f_X5_sites_45 : GoodIn v_f_X5_quietSites (wsV RX5 45 RX5 yX5_sites v_f_X5_sites) := goodIn_app (goodIn_of _ (by decide +kernel)) (goodIn_sub (fun _ h => List.mem_cons_of_mem _ (List.mem_append_right _ (List.mem_append_left _ h))) gw_f_X5_sites)
theorem g_f_X5_quietSites_f_X5_isQuiet_99 : GoodIn v_f_X5_quietSites (wsV RX5 99 RX5 yX5_isQuiet v_f_X5_isQuiet) := goodIn_app (goodIn_of _ (by decide +kernel)) (goodIn_sub (fun _ h => List.mem_cons_of_mem _ (List.mem_append_right _ (List.mem_append_right _ (List.mem_append_left _ h)))) gw_f_X5_isQuiet)
theorem hd_X5_quietSites : yX5_quietSites.cls = RX5 ∧ yX5_quietSites.cls ≠ "java/lang/invoke/MethodHandle" ∧ yX5_quietSites.cls ≠ "java/lang/invoke/VarHandle" ∧ (parseMethodDescriptor yX5_quietSites.desc).map (fun d => d.parameters.length) = some 0 := by decide +kernel
set_option maxHeartbeats 4000000 in
set_option maxRecDepth 100000 in
theorem wb_X5_quietSites_4 {p : Program} (l : Launch) {e : Env} {s : State} {m : MethodId} {below : List Frame} {meth : Method} {c : Code} {Q : State → Prop} (E : EE) (K : Nat) {a_ a_row a_partners a_share a_leftOver : Nat} {c_askedCount : Int32} {c_outcome : Int32} {c_row : Nat → Int32} {x1 : Int32} {x2 : Int32} (hx : p.tables.exec = Jvm.exec) (hb : c.code = cX5_quietSites) (hml : c.maxLocals = 3) (hown : s.vm.findClass RX5 = some m.cls) (hts : ∀ w ∈ v_f_X5_quietSites, w.before #[Value.ref a_] s = true) (hK : va_K E.1 vwCl (TY E) s) (hN : NX s) {xx : (Int32 × Int32) ⊕ (Int32)} (hC : ∀ (x1 : Int32), ∀ (x2 : Int32), xx = .inl (x1, x2) → ∀ (ls : Array Slot), lv_has ls 3 [(0, .ref a_), (1, .int x1), (2, .int x2)] → W p l e ({ frames := 3, cells := 0, slots := 0, locals := 71 } : Room) s m #[Value.ref a_] below meth c s.heap [] 0 0 Q (F0 m 4 ls [])) (hE : ∀ (x1 : Int32), xx = .inr x1 → ((∀ (ls : Array Slot), lv_has ls 3 [(1, .int x1)] → W p l e ({ frames := 3, cells := 0, slots := 0, locals := 71 } : Room) s m #[Value.ref a_] below meth c s.heap [] 0 0 Q (F0 m 36 ls [])))) (hF : B_X5_quietSites_4 c_row x1 x2 = some xx) (hP : va_P E.1 vwCl (w_X5_quietSites E a_ a_row a_partners a_share a_leftOver c_askedCount c_outcome c_row) s.heap) : ∀ (ls : Array Slot), lv_has ls 3 [(0, .ref a_), (1, .int x1), (2, .int x2)] → W p l e ({ frames := 3, cells := 0, slots := 0, locals := 71 } : Room) s m #[Value.ref a_] below meth c s.heap [] 0 0 Q (F0 m 4 ls []) := by
  unfold B_X5_quietSites_4 at hF
  replace hP : va_P E.1 vwCl [(a_, .inr (6, [.ref a_row, .ref a_partners, .int c_askedCount, .int c_outcome, .ref a_share, .ref a_leftOver])), (a_row, .inl (E.2.1, 81, .inl c_row))] s.heap := hP
  intro ls hl
  refine lv_iload_n hx hb dX5_quietSites_4 rfl (lv_at hl 2 rfl) ?_
  refine lv_aload_n hx hb dX5_quietSites_5 rfl (lv_at hl 0 rfl) ?_
  replace hF := bd1_s hF
  obtain ⟨r_1, hc_2, hF⟩ := hF
  have hPc : va_P E.1 vwCl (w_X5_sites E a_ a_row a_partners a_share a_leftOver c_askedCount c_outcome c_row) s.heap := hP.sub (ws' := [(a_, .inr (6, [.ref a_row, .ref a_partners, .int c_askedCount, .int c_outcome, .ref a_share, .ref a_leftOver])), (a_row, .inl (E.2.1, 81, .inl c_row))]) [0, 1] rfl
  have hrc := va_recv hK hPc (ci := 6) (q0 := 0) rfl rfl
  refine pE_i (va_runV (As := []) (rest := [.int x2])  ⟨hx, hb, hml, hown, hts⟩ (f_X5_sites l E (a_ := a_) (a_row := a_row) (a_partners := a_partners) (a_share := a_share) (a_leftOver := a_leftOver) (c_askedCount := c_askedCount) (c_outcome := c_outcome) (c_row := c_row) hc_2) (cwV 0 hts g_f_X5_quietSites_f_X5_sites_45 rfl rfl rfl hd_X5_sites ⟨Nat.le_of_ble_eq_true rfl, Nat.le_of_ble_eq_true rfl⟩) ⟨pP.blind, hrc, (pP.pre ⟨hK, hN⟩ hPc)⟩ rfl rfl hl.1 rfl (lv_room (Nat.le_of_ble_eq_true rfl)) dX5_quietSites_6 ⟨Nat.le_of_ble_eq_true rfl, Nat.le_of_ble_eq_true rfl⟩) ?_
  refine lv_icmp_ge (tgt := 36) hx hb dX5_quietSites_9 (by decide) (fun c_3 => ?_) (fun c_3 => ?_)
  ·
    replace hF := ip c_3 hF
    cases hF
    exact hE x1 rfl ls (lv_sub hl [1] rfl)
  ·
    replace hF := inn c_3 hF
    refine lv_iload_n hx hb dX5_quietSites_12 rfl (lv_at hl 1 rfl) ?_
    refine lv_aload_n hx hb dX5_quietSites_13 rfl (lv_at hl 0 rfl) ?_
    refine lv_iload_n hx hb dX5_quietSites_14 rfl (lv_at hl 2 rfl) ?_
    replace hF := bd1_s hF
    obtain ⟨r_4, hc_5, hF⟩ := hF
    have hPc : va_P E.1 vwCl (w_X5_isQuiet E a_ a_row a_partners a_share a_leftOver c_askedCount c_outcome c_row) s.heap := hP.sub (ws' := [(a_, .inr (6, [.ref a_row, .ref a_partners, .int c_askedCount, .int c_outcome, .ref a_share, .ref a_leftOver])), (a_row, .inl (E.2.1, 81, .inl c_row))]) [0, 1] rfl
    have hrc := va_recv hK hPc (ci := 6) (q0 := 0) rfl rfl
    refine pE_z (va_runV (As := [.int x2]) (rest := [.int x1])  ⟨hx, hb, hml, hown, hts⟩ (f_X5_isQuiet l E (a_ := a_) (a_row := a_row) (a_partners := a_partners) (a_share := a_share) (a_leftOver := a_leftOver) (p1 := x2) (c_askedCount := c_askedCount) (c_outcome := c_outcome) (c_row := c_row) hc_5) (cwV 1 hts g_f_X5_quietSites_f_X5_isQuiet_99 rfl rfl rfl hd_X5_isQuiet ⟨Nat.le_of_ble_eq_true rfl, Nat.le_of_ble_eq_true rfl⟩) ⟨pP.blind, hrc, (pP.pre ⟨hK, hN⟩ hPc)⟩ rfl rfl hl.1 rfl (lv_room (Nat.le_of_ble_eq_true rfl)) dX5_quietSites_15 ⟨Nat.le_of_ble_eq_true rfl, Nat.le_of_ble_eq_true rfl⟩) (fun hb_6 => ?_)
    refine lv_if_eq (tgt := 27) hx hb dX5_quietSites_18 (by decide) (fun c_7 => ?_) (fun c_7 => ?_)
    ·
      replace hF := ip c_7 hF
      refine lv_iconst (v := 0) hx hb dX5_quietSites_27 (by decide) ?_
      refine lv_ior hx hb dX5_quietSites_28 ?_
      refine lv_istore_n (lv' := [(1, .int (x1 ||| (0 : Int32))), (0, .ref a_), (2, .int x2)]) hx hb dX5_quietSites_29 rfl hl (by decide) rfl (fun ls hl => ?_)
      refine lv_iinc (v := x2 + (1 : Int32)) (lv' := [(2, .int (x2 + (1 : Int32))), (1, .int (x1 ||| (0 : Int32))), (0, .ref a_)]) hx hb dX5_quietSites_30 hl (k := 2) rfl (rfl) (by decide) rfl (fun ls hl => ?_)
      refine lv_goto (tgt := 4) hx hb dX5_quietSites_33 (by decide) ?_
      cases hF
      exact hC (x1 ||| (0 : Int32)) (x2 + (1 : Int32)) rfl ls (lv_sub hl [2, 1, 0] rfl)
    ·
      replace hF := inn c_7 hF
      refine lv_iconst (v := 1) hx hb dX5_quietSites_21 (by decide) ?_
      refine lv_iload_n hx hb dX5_quietSites_22 rfl (lv_at hl 2 rfl) ?_
      refine lv_ishl hx hb dX5_quietSites_23 ?_
      refine lv_goto (tgt := 28) hx hb dX5_quietSites_24 (by decide) ?_
      refine lv_ior hx hb dX5_quietSites_28 ?_
      refine lv_istore_n (lv' := [(1, .int (x1 ||| ((1 : Int32) <<< (x2 &&& (31 : Int32))))), (0, .ref a_), (2, .int x2)]) hx hb dX5_quietSites_29 rfl hl (by decide) rfl (fun ls hl => ?_)
      refine lv_iinc (v := x2 + (1 : Int32)) (lv' := [(2, .int (x2 + (1 : Int32))), (1, .int (x1 ||| ((1 : Int32) <<< (x2 &&& (31 : Int32))))), (0, .ref a_)]) hx hb dX5_quietSites_30 hl (k := 2) rfl (rfl) (by decide) rfl (fun ls hl => ?_)
      refine lv_goto (tgt := 4) hx hb dX5_quietSites_33 (by decide) ?_
      cases hF
      exact hC (x1 ||| ((1 : Int32) <<< (x2 &&& (31 : Int32)))) (x2 + (1 : Int32)) rfl ls (lv_sub hl [2, 1, 0] rfl)

set_option maxHeartbeats 4000000 in
set_option maxRecDepth 100000 in
theorem lw_X5_quietSites_4 {p : Program} (l : Launch) {e : Env} {s : State} {m : MethodId} {below : List Frame} {meth : Method} {c : Code} {Q : State → Prop} (E : EE) (K : Nat) {a_ a_row a_partners a_share a_leftOver : Nat} {c_askedCount : Int32} {c_outcome : Int32} {c_row : Nat → Int32} (hx : p.tables.exec = Jvm.exec) (hb : c.code = cX5_quietSites) (hml : c.maxLocals = 3) (hown : s.vm.findClass RX5 = some m.cls) (hts : ∀ w ∈ v_f_X5_quietSites, w.before #[Value.ref a_] s = true) (hK : va_K E.1 vwCl (TY E) s) (hN : NX s) (hP : va_P E.1 vwCl (w_X5_quietSites E a_ a_row a_partners a_share a_leftOver c_askedCount c_outcome c_row) s.heap) (j9 : Nat) (x1 : Int32) (x2 : Int32) (x1' : Int32) (hL : lpF (fun u9 : Int32 × Int32 => B_X5_quietSites_4 c_row u9.1 u9.2) j9 (x1, x2) = some x1') (hX : (∀ (ls : Array Slot), lv_has ls 3 [(1, .int x1')] → W p l e ({ frames := 3, cells := 0, slots := 0, locals := 71 } : Room) s m #[Value.ref a_] below meth c s.heap [] 0 0 Q (F0 m 36 ls []))) : ∀ (ls : Array Slot), lv_has ls 3 [(0, .ref a_), (1, .int x1), (2, .int x2)] → W p l e ({ frames := 3, cells := 0, slots := 0, locals := 71 } : Room) s m #[Value.ref a_] below meth c s.heap [] 0 0 Q (F0 m 4 ls []) := by
  exact lp_rule (P := (fun u9 : Int32 × Int32 => ∀ (ls : Array Slot), lv_has ls 3 [(0, .ref a_), (1, .int u9.1), (2, .int u9.2)] → W p l e ({ frames := 3, cells := 0, slots := 0, locals := 71 } : Room) s m #[Value.ref a_] below meth c s.heap [] 0 0 Q (F0 m 4 ls []))) (R := (fun r9 : Int32 => (∀ (ls : Array Slot), lv_has ls 3 [(1, .int r9)] → W p l e ({ frames := 3, cells := 0, slots := 0, locals := 71 } : Room) s m #[Value.ref a_] below meth c s.heap [] 0 0 Q (F0 m 36 ls [])))) (fun u9 xx hF hC hE => wb_X5_quietSites_4 l E K (c_askedCount := c_askedCount) (c_outcome := c_outcome) (c_row := c_row) (x1 := u9.1) (x2 := u9.2) hx hb hml hown hts hK hN (fun x1 x2 q9 => hC _ q9) (fun x1 q9 => hE _ q9) hF hP) j9 (x1, x2) x1' hL hX

set_option maxHeartbeats 4000000 in
set_option maxRecDepth 100000 in
theorem f_X5_quietSites (l : Launch) (E : EE) (K : Nat) {a_ a_row a_partners a_share a_leftOver : Nat} {c_askedCount : Int32} {c_outcome : Int32} {c_row : Nat → Int32} {rr : Int32} (hF : F_X5_quietSites K c_row = some rr) : Met l yX5_quietSites v_f_X5_quietSites (({ frames := 3, cells := 0, slots := 0, locals := 71 } : Room)) (va_Pc [.ref a_] (pP E (w_X5_quietSites E a_ a_row a_partners a_share a_leftOver c_askedCount c_outcome c_row))) (vp_Si (fun q : Int32 => q = rr)) 0 0 (fun _ => False) := by
  refine Met.ofW (cc := cX5_quietSites) (maxL := 3) (ret := (some .int)) (by decide) rfl ?_
  intro p e s m args below meth c s₁ B hml hv
  obtain ⟨rfl, ⟨hK, hN⟩, hP⟩ := hv
  have hx := B.exec
  have hb := B.bytes
  have hr := B.returns
  have hts := atoms_spec (ws := v_f_X5_quietSites) B.pre
  have hown : s.vm.findClass RX5 = some m.cls := own_of hd_X5_quietSites.1 (findClass_of_methodNamed B.named)
  have hlocks : meth.locks = false := B.notSynchronized
  replace hP : va_P E.1 vwCl [(a_, .inr (6, [.ref a_row, .ref a_partners, .int c_askedCount, .int c_outcome, .ref a_share, .ref a_leftOver])), (a_row, .inl (E.2.1, 81, .inl c_row))] s.heap := hP
  have hl := lv_entry ([.ref a_]) (n := 3) (Nat.le_of_ble_eq_true rfl)
  rw [lg_entry_eq]
  generalize (lg_sl ([.ref a_]) ++ List.replicate (3 - (lg_sl ([.ref a_])).length) Slot.unset).toArray = ls at hl ⊢
  have hl : lv_has ls 3 [(0, .ref a_)] := hl
  obtain ⟨Q, hQ⟩ : ∃ Q : State → Prop, Q = MQ below (vp_Si (fun q : Int32 => q = rr)) #[Value.ref a_] s 0 0 (fun _ => False) := ⟨_, rfl⟩
  rw [← hQ]
  change W p l e ({ frames := 3, cells := 0, slots := 0, locals := 71 } : Room) s m #[Value.ref a_] below meth c s.heap [] 0 0 Q (F0 m 0 ls [])
  unfold F_X5_quietSites at hF
  refine lv_iconst (v := 0) hx hb dX5_quietSites_0 (by decide) ?_
  refine lv_istore_n (lv' := [(1, .int (0 : Int32)), (0, .ref a_)]) hx hb dX5_quietSites_1 rfl hl (by decide) rfl (fun ls hl => ?_)
  refine lv_iconst (v := 0) hx hb dX5_quietSites_2 (by decide) ?_
  refine lv_istore_n (lv' := [(2, .int (0 : Int32)), (1, .int (0 : Int32)), (0, .ref a_)]) hx hb dX5_quietSites_3 rfl hl (by decide) rfl (fun ls hl => ?_)
  replace hF := bd1_s hF
  obtain ⟨x1_8, hL_9, hF⟩ := hF
  refine lw_X5_quietSites_4 l E K (c_askedCount := c_askedCount) (c_outcome := c_outcome) (c_row := c_row) hx hb hml hown hts hK hN hP K (0 : Int32) (0 : Int32) x1_8 hL_9 ?_ ls (lv_sub hl [2, 1, 0] rfl)
  ·
    intro ls hl
    refine lv_iload_n hx hb dX5_quietSites_36 rfl (lv_at hl 0 rfl) ?_
    rw [hQ]
    obtain e9_0 := inj1 hF
    exact W.iret (v := x1_8) hx hb hr (fun tt ht hW => ⟨_, rfl, e9_0, ht⟩) (fun _ h => by cases h) dX5_quietSites_37

def F_X5_stands (c_row : Nat → Int32) : Option (Int32) :=
  if c_row 3 ≤ (0 : Int32) then some (0 : Int32) else some (1 : Int32)
abbrev w_X5_stands (E : EE) (a_ a_row a_partners a_share a_leftOver : Nat) (c_askedCount : Int32) (c_outcome : Int32) (c_row : Nat → Int32) : va_W := [(a_, .inr (6, [.ref a_row, .ref a_partners, .int c_askedCount, .int c_outcome, .ref a_share, .ref a_leftOver])), (a_row, .inl (E.2.1, 81, .inl c_row))]
def v_f_X5_stands : List Cond := List.cons (.code yX5_stands cX5_stands 1 (some .boolean)) (HAppend.hAppend (α := List Cond) (β := List Cond) (γ := List Cond) [.fieldLink RX5 11 "HushWatch$State" "row" "[I"] (HAppend.hAppend (α := List Cond) (β := List Cond) (γ := List Cond) wsX50 []))
theorem gw_f_X5_stands : v_f_X5_stands.all goodWord = true := by decide +kernel
theorem i_f_X5_stands_X5 : ∀ w ∈ wsX50, w ∈ v_f_X5_stands := fun _ h => List.mem_cons_of_mem _ (List.mem_append_right _ (List.mem_append_left _ h))
theorem hd_X5_stands : yX5_stands.cls = RX5 ∧ yX5_stands.cls ≠ "java/lang/invoke/MethodHandle" ∧ yX5_stands.cls ≠ "java/lang/invoke/VarHandle" ∧ (parseMethodDescriptor yX5_stands.desc).map (fun d => d.parameters.length) = some 0 := by decide +kernel
set_option maxHeartbeats 4000000 in
set_option maxRecDepth 100000 in
theorem f_X5_stands (l : Launch) (E : EE) {a_ a_row a_partners a_share a_leftOver : Nat} {c_askedCount : Int32} {c_outcome : Int32} {c_row : Nat → Int32} {rr : Int32} (hF : F_X5_stands c_row = some rr) : Met l yX5_stands v_f_X5_stands (({ frames := 0, cells := 0, slots := 0, locals := 0 } : Room)) (va_Pc [.ref a_] (pP E (w_X5_stands E a_ a_row a_partners a_share a_leftOver c_askedCount c_outcome c_row))) (vp_Si (fun q : Int32 => q = rr ∧ (q = 0 ∨ q = 1))) 0 0 (fun _ => False) := by
  refine Met.ofW (cc := cX5_stands) (maxL := 1) (ret := (some .boolean)) (by decide) rfl ?_
  intro p e s m args below meth c s₁ B hml hv
  obtain ⟨rfl, ⟨hK, hN⟩, hP⟩ := hv
  have hx := B.exec
  have hb := B.bytes
  have hr := B.returns
  have hts := atoms_spec (ws := v_f_X5_stands) B.pre
  have hown : s.vm.findClass RX5 = some m.cls := own_of hd_X5_stands.1 (findClass_of_methodNamed B.named)
  have hlocks : meth.locks = false := B.notSynchronized
  replace hP : va_P E.1 vwCl [(a_, .inr (6, [.ref a_row, .ref a_partners, .int c_askedCount, .int c_outcome, .ref a_share, .ref a_leftOver])), (a_row, .inl (E.2.1, 81, .inl c_row))] s.heap := hP
  have hl := lv_entry ([.ref a_]) (n := 1) (Nat.le_of_ble_eq_true rfl)
  rw [lg_entry_eq]
  generalize (lg_sl ([.ref a_]) ++ List.replicate (1 - (lg_sl ([.ref a_])).length) Slot.unset).toArray = ls at hl ⊢
  have hl : lv_has ls 1 [(0, .ref a_)] := hl
  obtain ⟨Q, hQ⟩ : ∃ Q : State → Prop, Q = MQ below (vp_Si (fun q : Int32 => q = rr ∧ (q = 0 ∨ q = 1))) #[Value.ref a_] s 0 0 (fun _ => False) := ⟨_, rfl⟩
  rw [← hQ]
  change W p l e ({ frames := 0, cells := 0, slots := 0, locals := 0 } : Room) s m #[Value.ref a_] below meth c s.heap [] 0 0 Q (F0 m 0 ls [])
  unfold F_X5_stands at hF
  refine lv_aload_n hx hb dX5_stands_0 rfl (lv_at hl 0 rfl) ?_
  refine gt_X5_0 (v := .ref a_row) hx hb hts i_f_X5_stands_X5 hown hK hP 0 rfl (hts (.fieldLink RX5 11 "HushWatch$State" "row" "[I") (List.mem_of_getElem? (i := 1) rfl)) rfl dX5_stands_1 ?_
  refine lv_iconst (v := 3) hx hb dX5_stands_4 (by decide) ?_
  refine va_iald hx hb hK hP 1 0 rfl rfl (vin rfl) dX5_stands_5 ?_
  refine W.eq (g2 := F0 m 6 ls [.int (c_row 3)]) rfl ?_
  refine lv_if_le (tgt := 13) hx hb dX5_stands_6 (by decide) (fun c_1 => ?_) (fun c_1 => ?_)
  ·
    replace hF := ip c_1 hF
    refine lv_iconst (v := 0) hx hb dX5_stands_13 (by decide) ?_
    rw [hQ]
    obtain e9_0 := inj1 hF
    exact W.zret (v := (0 : Int32)) hx hb hr rfl (fun tt ht hW => ⟨_, rfl, ⟨e9_0, Or.inl rfl⟩, ht⟩) (fun _ h => by cases h) dX5_stands_14
  ·
    replace hF := inn c_1 hF
    refine lv_iconst (v := 1) hx hb dX5_stands_9 (by decide) ?_
    refine lv_goto (tgt := 14) hx hb dX5_stands_10 (by decide) ?_
    rw [hQ]
    obtain e9_0 := inj1 hF
    exact W.zret (v := (1 : Int32)) hx hb hr rfl (fun tt ht hW => ⟨_, rfl, ⟨e9_0, Or.inr rfl⟩, ht⟩) (fun _ h => by cases h) dX5_stands_14

def F_X5_setRefusal (p0 : Int32) (p1 : Int32) (p2 : Int32) (p3 : Int32) : Option (Int32) :=
  if p0 < p1 then some (1 : Int32) else if p0 ≤ p2 then if p0 = p3 then some (2 : Int32) else some (-1 : Int32) else some (1 : Int32)

def v_f_X5_setRefusal : List Cond := List.cons (.code yX5_setRefusal cX5_setRefusal 4 (some .int)) (HAppend.hAppend (α := List Cond) (β := List Cond) (γ := List Cond) [] [])
theorem gw_f_X5_setRefusal : v_f_X5_setRefusal.all goodWord = true := by decide +kernel
theorem hd_X5_setRefusal : yX5_setRefusal.cls = RX5 ∧ yX5_setRefusal.cls ≠ "java/lang/invoke/MethodHandle" ∧ yX5_setRefusal.cls ≠ "java/lang/invoke/VarHandle" ∧ (parseMethodDescriptor yX5_setRefusal.desc).map (fun d => d.parameters.length) = some 4 := by decide +kernel
set_option maxHeartbeats 4000000 in
set_option maxRecDepth 100000 in
theorem f_X5_setRefusal (l : Launch) (E : EE) {p0 : Int32} {p1 : Int32} {p2 : Int32} {p3 : Int32} {rr : Int32} (hF : F_X5_setRefusal p0 p1 p2 p3 = some rr) : Met l yX5_setRefusal v_f_X5_setRefusal (({ frames := 0, cells := 0, slots := 0, locals := 0 } : Room)) (va_Pc [.int p0, .int p1, .int p2, .int p3] (pP E [])) (vp_Si (fun q : Int32 => q = rr)) 0 0 (fun _ => False) := by
  refine Met.ofW (cc := cX5_setRefusal) (maxL := 4) (ret := (some .int)) (by decide) rfl ?_
  intro p e s m args below meth c s₁ B hml hv
  obtain ⟨rfl, ⟨hK, hN⟩, hP⟩ := hv
  have hx := B.exec
  have hb := B.bytes
  have hr := B.returns
  have hts := atoms_spec (ws := v_f_X5_setRefusal) B.pre
  have hown : s.vm.findClass RX5 = some m.cls := own_of hd_X5_setRefusal.1 (findClass_of_methodNamed B.named)
  have hlocks : meth.locks = false := B.notSynchronized
  replace hP : va_P E.1 vwCl [] s.heap := hP
  have hl := lv_entry ([.int p0, .int p1, .int p2, .int p3]) (n := 4) (Nat.le_of_ble_eq_true rfl)
  rw [lg_entry_eq]
  generalize (lg_sl ([.int p0, .int p1, .int p2, .int p3]) ++ List.replicate (4 - (lg_sl ([.int p0, .int p1, .int p2, .int p3])).length) Slot.unset).toArray = ls at hl ⊢
  have hl : lv_has ls 4 [(0, .int p0), (1, .int p1), (2, .int p2), (3, .int p3)] := hl
  obtain ⟨Q, hQ⟩ : ∃ Q : State → Prop, Q = MQ below (vp_Si (fun q : Int32 => q = rr)) #[Value.int p0, Value.int p1, Value.int p2, Value.int p3] s 0 0 (fun _ => False) := ⟨_, rfl⟩
  rw [← hQ]
  change W p l e ({ frames := 0, cells := 0, slots := 0, locals := 0 } : Room) s m #[Value.int p0, Value.int p1, Value.int p2, Value.int p3] below meth c s.heap [] 0 0 Q (F0 m 0 ls [])
  unfold F_X5_setRefusal at hF
  refine lv_iload_n hx hb dX5_setRefusal_0 rfl (lv_at hl 0 rfl) ?_
  refine lv_iload_n hx hb dX5_setRefusal_1 rfl (lv_at hl 1 rfl) ?_
  refine lv_icmp_lt (tgt := 10) hx hb dX5_setRefusal_2 (by decide) (fun c_1 => ?_) (fun c_1 => ?_)
  ·
    replace hF := ip c_1 hF
    refine lv_iconst (v := 1) hx hb dX5_setRefusal_10 (by decide) ?_
    rw [hQ]
    obtain e9_0 := inj1 hF
    exact W.iret (v := (1 : Int32)) hx hb hr (fun tt ht hW => ⟨_, rfl, e9_0, ht⟩) (fun _ h => by cases h) dX5_setRefusal_11
  ·
    replace hF := inn c_1 hF
    refine lv_iload_n hx hb dX5_setRefusal_5 rfl (lv_at hl 0 rfl) ?_
    refine lv_iload_n hx hb dX5_setRefusal_6 rfl (lv_at hl 2 rfl) ?_
    refine lv_icmp_le (tgt := 12) hx hb dX5_setRefusal_7 (by decide) (fun c_2 => ?_) (fun c_2 => ?_)
    ·
      replace hF := ip c_2 hF
      refine lv_iload_n hx hb dX5_setRefusal_12 rfl (lv_at hl 0 rfl) ?_
      refine lv_iload_n hx hb dX5_setRefusal_13 rfl (lv_at hl 3 rfl) ?_
      refine lv_icmp_ne (tgt := 21) hx hb dX5_setRefusal_14 (by decide) (fun c_3 => ?_) (fun c_3 => ?_)
      ·
        replace hF := inn c_3 hF
        refine lv_iconst (v := -1) hx hb dX5_setRefusal_21 (by decide) ?_
        rw [hQ]
        obtain e9_0 := inj1 hF
        exact W.iret (v := (-1 : Int32)) hx hb hr (fun tt ht hW => ⟨_, rfl, e9_0, ht⟩) (fun _ h => by cases h) dX5_setRefusal_22
      ·
        replace hF := ip c_3 hF
        refine lv_iconst (v := 2) hx hb dX5_setRefusal_17 (by decide) ?_
        refine lv_goto (tgt := 22) hx hb dX5_setRefusal_18 (by decide) ?_
        rw [hQ]
        obtain e9_0 := inj1 hF
        exact W.iret (v := (2 : Int32)) hx hb hr (fun tt ht hW => ⟨_, rfl, e9_0, ht⟩) (fun _ h => by cases h) dX5_setRefusal_22
    ·
      replace hF := inn c_2 hF
      refine lv_iconst (v := 1) hx hb dX5_setRefusal_10 (by decide) ?_
      rw [hQ]
      obtain e9_0 := inj1 hF
      exact W.iret (v := (1 : Int32)) hx hb hr (fun tt ht hW => ⟨_, rfl, e9_0, ht⟩) (fun _ h => by cases h) dX5_setRefusal_11
