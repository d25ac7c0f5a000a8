def dl_X7_race_40_pub06_0 : List (Nat × Instr × Nat) := [(46, .iload 6, 2), (48, .aload_n 0, 1), (49, .getfield 35, 3), (52, .invokevirtual 117, 3), (55, .if_icmp .ge 81, 3), (58, .aload_n 0, 1), (59, .getfield 35, 3), (62, .iload 6, 2), (64, .invokevirtual 143, 3), (67, .ifCond .eq 6, 3), (73, .aload_n 0, 1), (74, .getfield 35, 3), (77, .iload 6, 2), (79, .iload 5, 2), (81, .iload_n 1, 1), (82, .imul, 1), (83, .iload 5, 2), (85, .iload_n 2, 1), (86, .imul, 1), (87, .invokevirtual 213, 3), (90, .ifCond .ne 5, 3), (95, .iinc 4 1, 3), (98, .aload_n 0, 1), (99, .getfield 35, 3), (102, .iload 6, 2), (104, .iload 5, 2), (106, .iload_n 1, 1), (107, .imul, 1), (108, .iload 5, 2), (110, .iload_n 2, 1), (111, .imul, 1), (112, .invokevirtual 217, 3), (115, .ifCond .ne 15, 3), (130, .iinc 6 1, 3), (133, .goto (-87), 3), (70, .goto 60, 3), (35, .iload 5, 2), (37, .sipush 200, 3), (40, .if_icmp .gt 102, 3), (43, .iconst 0, 1), (44, .istore 6, 2), (136, .iinc 5 1, 3), (139, .goto (-104), 3), (0, .aload_n 0, 1), (1, .getfield 35, 3), (4, .invokevirtual 110, 3), (7, .ifCond .eq 20, 3), (27, .iconst (-1), 1), (28, .ireturn, 1), (10, .iload_n 1, 1)]
set_option maxRecDepth 100000 in
theorem dall_X7_race_40_pub06_0 : dchk cX7_race dl_X7_race_40_pub06_0 = true := by decide +kernel
theorem dX7_race_46 : decode cX7_race 46 = .ok (.iload 6, 2) := dchk_at dall_X7_race_40_pub06_0 (k := 0) rfl
theorem dX7_race_48 : decode cX7_race 48 = .ok (.aload_n 0, 1) := dchk_at dall_X7_race_40_pub06_0 (k := 1) rfl
theorem dX7_race_49 : decode cX7_race 49 = .ok (.getfield 35, 3) := dchk_at dall_X7_race_40_pub06_0 (k := 2) rfl
theorem dX7_race_52 : decode cX7_race 52 = .ok (.invokevirtual 117, 3) := dchk_at dall_X7_race_40_pub06_0 (k := 3) rfl
theorem dX7_race_55 : decode cX7_race 55 = .ok (.if_icmp .ge 81, 3) := dchk_at dall_X7_race_40_pub06_0 (k := 4) rfl
theorem dX7_race_58 : decode cX7_race 58 = .ok (.aload_n 0, 1) := dchk_at dall_X7_race_40_pub06_0 (k := 5) rfl
theorem dX7_race_59 : decode cX7_race 59 = .ok (.getfield 35, 3) := dchk_at dall_X7_race_40_pub06_0 (k := 6) rfl
theorem dX7_race_62 : decode cX7_race 62 = .ok (.iload 6, 2) := dchk_at dall_X7_race_40_pub06_0 (k := 7) rfl
theorem dX7_race_64 : decode cX7_race 64 = .ok (.invokevirtual 143, 3) := dchk_at dall_X7_race_40_pub06_0 (k := 8) rfl
theorem dX7_race_67 : decode cX7_race 67 = .ok (.ifCond .eq 6, 3) := dchk_at dall_X7_race_40_pub06_0 (k := 9) rfl
theorem dX7_race_73 : decode cX7_race 73 = .ok (.aload_n 0, 1) := dchk_at dall_X7_race_40_pub06_0 (k := 10) rfl
theorem dX7_race_74 : decode cX7_race 74 = .ok (.getfield 35, 3) := dchk_at dall_X7_race_40_pub06_0 (k := 11) rfl
theorem dX7_race_77 : decode cX7_race 77 = .ok (.iload 6, 2) := dchk_at dall_X7_race_40_pub06_0 (k := 12) rfl
theorem dX7_race_79 : decode cX7_race 79 = .ok (.iload 5, 2) := dchk_at dall_X7_race_40_pub06_0 (k := 13) rfl
theorem dX7_race_81 : decode cX7_race 81 = .ok (.iload_n 1, 1) := dchk_at dall_X7_race_40_pub06_0 (k := 14) rfl
theorem dX7_race_82 : decode cX7_race 82 = .ok (.imul, 1) := dchk_at dall_X7_race_40_pub06_0 (k := 15) rfl
theorem dX7_race_83 : decode cX7_race 83 = .ok (.iload 5, 2) := dchk_at dall_X7_race_40_pub06_0 (k := 16) rfl
theorem dX7_race_85 : decode cX7_race 85 = .ok (.iload_n 2, 1) := dchk_at dall_X7_race_40_pub06_0 (k := 17) rfl
theorem dX7_race_86 : decode cX7_race 86 = .ok (.imul, 1) := dchk_at dall_X7_race_40_pub06_0 (k := 18) rfl
theorem dX7_race_87 : decode cX7_race 87 = .ok (.invokevirtual 213, 3) := dchk_at dall_X7_race_40_pub06_0 (k := 19) rfl
theorem dX7_race_90 : decode cX7_race 90 = .ok (.ifCond .ne 5, 3) := dchk_at dall_X7_race_40_pub06_0 (k := 20) rfl
theorem dX7_race_95 : decode cX7_race 95 = .ok (.iinc 4 1, 3) := dchk_at dall_X7_race_40_pub06_0 (k := 21) rfl
theorem dX7_race_98 : decode cX7_race 98 = .ok (.aload_n 0, 1) := dchk_at dall_X7_race_40_pub06_0 (k := 22) rfl
theorem dX7_race_99 : decode cX7_race 99 = .ok (.getfield 35, 3) := dchk_at dall_X7_race_40_pub06_0 (k := 23) rfl
theorem dX7_race_102 : decode cX7_race 102 = .ok (.iload 6, 2) := dchk_at dall_X7_race_40_pub06_0 (k := 24) rfl
theorem dX7_race_104 : decode cX7_race 104 = .ok (.iload 5, 2) := dchk_at dall_X7_race_40_pub06_0 (k := 25) rfl
theorem dX7_race_106 : decode cX7_race 106 = .ok (.iload_n 1, 1) := dchk_at dall_X7_race_40_pub06_0 (k := 26) rfl
theorem dX7_race_107 : decode cX7_race 107 = .ok (.imul, 1) := dchk_at dall_X7_race_40_pub06_0 (k := 27) rfl
theorem dX7_race_108 : decode cX7_race 108 = .ok (.iload 5, 2) := dchk_at dall_X7_race_40_pub06_0 (k := 28) rfl
theorem dX7_race_110 : decode cX7_race 110 = .ok (.iload_n 2, 1) := dchk_at dall_X7_race_40_pub06_0 (k := 29) rfl
theorem dX7_race_111 : decode cX7_race 111 = .ok (.imul, 1) := dchk_at dall_X7_race_40_pub06_0 (k := 30) rfl
theorem dX7_race_112 : decode cX7_race 112 = .ok (.invokevirtual 217, 3) := dchk_at dall_X7_race_40_pub06_0 (k := 31) rfl
theorem dX7_race_115 : decode cX7_race 115 = .ok (.ifCond .ne 15, 3) := dchk_at dall_X7_race_40_pub06_0 (k := 32) rfl
theorem dX7_race_130 : decode cX7_race 130 = .ok (.iinc 6 1, 3) := dchk_at dall_X7_race_40_pub06_0 (k := 33) rfl
theorem dX7_race_133 : decode cX7_race 133 = .ok (.goto (-87), 3) := dchk_at dall_X7_race_40_pub06_0 (k := 34) rfl
theorem dX7_race_70 : decode cX7_race 70 = .ok (.goto 60, 3) := dchk_at dall_X7_race_40_pub06_0 (k := 35) rfl
theorem dX7_race_35 : decode cX7_race 35 = .ok (.iload 5, 2) := dchk_at dall_X7_race_40_pub06_0 (k := 36) rfl
theorem dX7_race_37 : decode cX7_race 37 = .ok (.sipush 200, 3) := dchk_at dall_X7_race_40_pub06_0 (k := 37) rfl
theorem dX7_race_40 : decode cX7_race 40 = .ok (.if_icmp .gt 102, 3) := dchk_at dall_X7_race_40_pub06_0 (k := 38) rfl
theorem dX7_race_43 : decode cX7_race 43 = .ok (.iconst 0, 1) := dchk_at dall_X7_race_40_pub06_0 (k := 39) rfl
theorem dX7_race_44 : decode cX7_race 44 = .ok (.istore 6, 2) := dchk_at dall_X7_race_40_pub06_0 (k := 40) rfl
theorem dX7_race_136 : decode cX7_race 136 = .ok (.iinc 5 1, 3) := dchk_at dall_X7_race_40_pub06_0 (k := 41) rfl
theorem dX7_race_139 : decode cX7_race 139 = .ok (.goto (-104), 3) := dchk_at dall_X7_race_40_pub06_0 (k := 42) rfl
theorem dX7_race_0 : decode cX7_race 0 = .ok (.aload_n 0, 1) := dchk_at dall_X7_race_40_pub06_0 (k := 43) rfl
theorem dX7_race_1 : decode cX7_race 1 = .ok (.getfield 35, 3) := dchk_at dall_X7_race_40_pub06_0 (k := 44) rfl
theorem dX7_race_4 : decode cX7_race 4 = .ok (.invokevirtual 110, 3) := dchk_at dall_X7_race_40_pub06_0 (k := 45) rfl
theorem dX7_race_7 : decode cX7_race 7 = .ok (.ifCond .eq 20, 3) := dchk_at dall_X7_race_40_pub06_0 (k := 46) rfl
theorem dX7_race_27 : decode cX7_race 27 = .ok (.iconst (-1), 1) := dchk_at dall_X7_race_40_pub06_0 (k := 47) rfl
theorem dX7_race_28 : decode cX7_race 28 = .ok (.ireturn, 1) := dchk_at dall_X7_race_40_pub06_0 (k := 48) rfl
theorem dX7_race_10 : decode cX7_race 10 = .ok (.iload_n 1, 1) := dchk_at dall_X7_race_40_pub06_0 (k := 49) rfl
def dl_X7_race_40_pub06_1 : List (Nat × Instr × Nat) := [(11, .iload_n 2, 1), (12, .invokestatic 210, 3), (15, .ifCond .eq 12, 3), (18, .iload_n 3, 1), (19, .ifCond .lt 8, 3), (22, .iload_n 3, 1), (23, .iconst 1, 1), (24, .if_icmp .le 5, 3), (29, .iconst 0, 1), (30, .istore 4, 2), (32, .iconst 1, 1), (33, .istore 5, 2), (93, .iconst (-1), 1), (94, .ireturn, 1), (118, .iload_n 3, 1), (119, .ifCond .ne 8, 3), (127, .iload 4, 2), (129, .ireturn, 1), (122, .iload 6, 2), (124, .goto 5, 3), (142, .iconst (-1), 1), (143, .ireturn, 1)]
set_option maxRecDepth 100000 in
theorem dall_X7_race_40_pub06_1 : dchk cX7_race dl_X7_race_40_pub06_1 = true := by decide +kernel
theorem dX7_race_11 : decode cX7_race 11 = .ok (.iload_n 2, 1) := dchk_at dall_X7_race_40_pub06_1 (k := 0) rfl
theorem dX7_race_12 : decode cX7_race 12 = .ok (.invokestatic 210, 3) := dchk_at dall_X7_race_40_pub06_1 (k := 1) rfl
theorem dX7_race_15 : decode cX7_race 15 = .ok (.ifCond .eq 12, 3) := dchk_at dall_X7_race_40_pub06_1 (k := 2) rfl
theorem dX7_race_18 : decode cX7_race 18 = .ok (.iload_n 3, 1) := dchk_at dall_X7_race_40_pub06_1 (k := 3) rfl
theorem dX7_race_19 : decode cX7_race 19 = .ok (.ifCond .lt 8, 3) := dchk_at dall_X7_race_40_pub06_1 (k := 4) rfl
theorem dX7_race_22 : decode cX7_race 22 = .ok (.iload_n 3, 1) := dchk_at dall_X7_race_40_pub06_1 (k := 5) rfl
theorem dX7_race_23 : decode cX7_race 23 = .ok (.iconst 1, 1) := dchk_at dall_X7_race_40_pub06_1 (k := 6) rfl
theorem dX7_race_24 : decode cX7_race 24 = .ok (.if_icmp .le 5, 3) := dchk_at dall_X7_race_40_pub06_1 (k := 7) rfl
theorem dX7_race_29 : decode cX7_race 29 = .ok (.iconst 0, 1) := dchk_at dall_X7_race_40_pub06_1 (k := 8) rfl
theorem dX7_race_30 : decode cX7_race 30 = .ok (.istore 4, 2) := dchk_at dall_X7_race_40_pub06_1 (k := 9) rfl
theorem dX7_race_32 : decode cX7_race 32 = .ok (.iconst 1, 1) := dchk_at dall_X7_race_40_pub06_1 (k := 10) rfl
theorem dX7_race_33 : decode cX7_race 33 = .ok (.istore 5, 2) := dchk_at dall_X7_race_40_pub06_1 (k := 11) rfl
theorem dX7_race_93 : decode cX7_race 93 = .ok (.iconst (-1), 1) := dchk_at dall_X7_race_40_pub06_1 (k := 12) rfl
theorem dX7_race_94 : decode cX7_race 94 = .ok (.ireturn, 1) := dchk_at dall_X7_race_40_pub06_1 (k := 13) rfl
theorem dX7_race_118 : decode cX7_race 118 = .ok (.iload_n 3, 1) := dchk_at dall_X7_race_40_pub06_1 (k := 14) rfl
theorem dX7_race_119 : decode cX7_race 119 = .ok (.ifCond .ne 8, 3) := dchk_at dall_X7_race_40_pub06_1 (k := 15) rfl
theorem dX7_race_127 : decode cX7_race 127 = .ok (.iload 4, 2) := dchk_at dall_X7_race_40_pub06_1 (k := 16) rfl
theorem dX7_race_129 : decode cX7_race 129 = .ok (.ireturn, 1) := dchk_at dall_X7_race_40_pub06_1 (k := 17) rfl
theorem dX7_race_122 : decode cX7_race 122 = .ok (.iload 6, 2) := dchk_at dall_X7_race_40_pub06_1 (k := 18) rfl
theorem dX7_race_124 : decode cX7_race 124 = .ok (.goto 5, 3) := dchk_at dall_X7_race_40_pub06_1 (k := 19) rfl
theorem dX7_race_142 : decode cX7_race 142 = .ok (.iconst (-1), 1) := dchk_at dall_X7_race_40_pub06_1 (k := 20) rfl
theorem dX7_race_143 : decode cX7_race 143 = .ok (.ireturn, 1) := dchk_at dall_X7_race_40_pub06_1 (k := 21) rfl
def dl_X7_rule_40_pub06_0 : List (Nat × Instr × Nat) := [(0, .aload_n 0, 1), (1, .getfield 35, 3), (4, .invokevirtual 110, 3), (7, .ifCond .ne 6, 3), (13, .iload_n 1, 1), (14, .tableswitch 68 0 3 #[30, 40, 50, 60], 30), (44, .aload_n 0, 1), (45, .getfield 35, 3), (48, .getfield 114, 3), (51, .iconst 0, 1), (52, .iaload, 1), (53, .ireturn, 1), (54, .aload_n 0, 1), (55, .getfield 35, 3), (58, .getfield 114, 3), (61, .iconst 1, 1), (62, .iaload, 1), (63, .ireturn, 1), (64, .aload_n 0, 1), (65, .getfield 35, 3), (68, .getfield 114, 3), (71, .iconst 2, 1), (72, .iaload, 1), (73, .ireturn, 1), (74, .aload_n 0, 1), (75, .getfield 35, 3), (78, .invokevirtual 117, 3), (81, .ireturn, 1), (82, .ldc 113, 2), (84, .ireturn, 1), (10, .ldc 113, 2), (12, .ireturn, 1)]
set_option maxRecDepth 100000 in
theorem dall_X7_rule_40_pub06_0 : dchk cX7_rule dl_X7_rule_40_pub06_0 = true := by decide +kernel
theorem dX7_rule_0 : decode cX7_rule 0 = .ok (.aload_n 0, 1) := dchk_at dall_X7_rule_40_pub06_0 (k := 0) rfl
theorem dX7_rule_1 : decode cX7_rule 1 = .ok (.getfield 35, 3) := dchk_at dall_X7_rule_40_pub06_0 (k := 1) rfl
theorem dX7_rule_4 : decode cX7_rule 4 = .ok (.invokevirtual 110, 3) := dchk_at dall_X7_rule_40_pub06_0 (k := 2) rfl
theorem dX7_rule_7 : decode cX7_rule 7 = .ok (.ifCond .ne 6, 3) := dchk_at dall_X7_rule_40_pub06_0 (k := 3) rfl
theorem dX7_rule_13 : decode cX7_rule 13 = .ok (.iload_n 1, 1) := dchk_at dall_X7_rule_40_pub06_0 (k := 4) rfl
theorem dX7_rule_14 : decode cX7_rule 14 = .ok (.tableswitch 68 0 3 #[30, 40, 50, 60], 30) := dchk_at dall_X7_rule_40_pub06_0 (k := 5) rfl
theorem dX7_rule_44 : decode cX7_rule 44 = .ok (.aload_n 0, 1) := dchk_at dall_X7_rule_40_pub06_0 (k := 6) rfl
theorem dX7_rule_45 : decode cX7_rule 45 = .ok (.getfield 35, 3) := dchk_at dall_X7_rule_40_pub06_0 (k := 7) rfl
theorem dX7_rule_48 : decode cX7_rule 48 = .ok (.getfield 114, 3) := dchk_at dall_X7_rule_40_pub06_0 (k := 8) rfl
theorem dX7_rule_51 : decode cX7_rule 51 = .ok (.iconst 0, 1) := dchk_at dall_X7_rule_40_pub06_0 (k := 9) rfl
theorem dX7_rule_52 : decode cX7_rule 52 = .ok (.iaload, 1) := dchk_at dall_X7_rule_40_pub06_0 (k := 10) rfl
theorem dX7_rule_53 : decode cX7_rule 53 = .ok (.ireturn, 1) := dchk_at dall_X7_rule_40_pub06_0 (k := 11) rfl
theorem dX7_rule_54 : decode cX7_rule 54 = .ok (.aload_n 0, 1) := dchk_at dall_X7_rule_40_pub06_0 (k := 12) rfl
theorem dX7_rule_55 : decode cX7_rule 55 = .ok (.getfield 35, 3) := dchk_at dall_X7_rule_40_pub06_0 (k := 13) rfl
theorem dX7_rule_58 : decode cX7_rule 58 = .ok (.getfield 114, 3) := dchk_at dall_X7_rule_40_pub06_0 (k := 14) rfl
theorem dX7_rule_61 : decode cX7_rule 61 = .ok (.iconst 1, 1) := dchk_at dall_X7_rule_40_pub06_0 (k := 15) rfl
theorem dX7_rule_62 : decode cX7_rule 62 = .ok (.iaload, 1) := dchk_at dall_X7_rule_40_pub06_0 (k := 16) rfl
theorem dX7_rule_63 : decode cX7_rule 63 = .ok (.ireturn, 1) := dchk_at dall_X7_rule_40_pub06_0 (k := 17) rfl
theorem dX7_rule_64 : decode cX7_rule 64 = .ok (.aload_n 0, 1) := dchk_at dall_X7_rule_40_pub06_0 (k := 18) rfl
theorem dX7_rule_65 : decode cX7_rule 65 = .ok (.getfield 35, 3) := dchk_at dall_X7_rule_40_pub06_0 (k := 19) rfl
theorem dX7_rule_68 : decode cX7_rule 68 = .ok (.getfield 114, 3) := dchk_at dall_X7_rule_40_pub06_0 (k := 20) rfl
theorem dX7_rule_71 : decode cX7_rule 71 = .ok (.iconst 2, 1) := dchk_at dall_X7_rule_40_pub06_0 (k := 21) rfl
theorem dX7_rule_72 : decode cX7_rule 72 = .ok (.iaload, 1) := dchk_at dall_X7_rule_40_pub06_0 (k := 22) rfl
theorem dX7_rule_73 : decode cX7_rule 73 = .ok (.ireturn, 1) := dchk_at dall_X7_rule_40_pub06_0 (k := 23) rfl
theorem dX7_rule_74 : decode cX7_rule 74 = .ok (.aload_n 0, 1) := dchk_at dall_X7_rule_40_pub06_0 (k := 24) rfl
theorem dX7_rule_75 : decode cX7_rule 75 = .ok (.getfield 35, 3) := dchk_at dall_X7_rule_40_pub06_0 (k := 25) rfl
theorem dX7_rule_78 : decode cX7_rule 78 = .ok (.invokevirtual 117, 3) := dchk_at dall_X7_rule_40_pub06_0 (k := 26) rfl
theorem dX7_rule_81 : decode cX7_rule 81 = .ok (.ireturn, 1) := dchk_at dall_X7_rule_40_pub06_0 (k := 27) rfl
theorem dX7_rule_82 : decode cX7_rule 82 = .ok (.ldc 113, 2) := dchk_at dall_X7_rule_40_pub06_0 (k := 28) rfl
theorem dX7_rule_84 : decode cX7_rule 84 = .ok (.ireturn, 1) := dchk_at dall_X7_rule_40_pub06_0 (k := 29) rfl
theorem dX7_rule_10 : decode cX7_rule 10 = .ok (.ldc 113, 2) := dchk_at dall_X7_rule_40_pub06_0 (k := 30) rfl
theorem dX7_rule_12 : decode cX7_rule 12 = .ok (.ireturn, 1) := dchk_at dall_X7_rule_40_pub06_0 (k := 31) rfl
def dl_X7_tryStep_40_pub06_0 : List (Nat × Instr × Nat) := [(0, .aload_n 0, 1), (1, .getfield 28, 3), (4, .iload_n 1, 1), (5, .iload_n 2, 1), (6, .invokevirtual 299, 3), (9, .istore_n 3, 1), (10, .aload_n 0, 1), (11, .getfield 28, 3), (14, .iload_n 1, 1), (15, .iload_n 2, 1), (16, .iconst 1, 1), (17, .invokevirtual 288, 3), (20, .istore 4, 2), (22, .aload_n 0, 1), (23, .getfield 28, 3), (26, .iload_n 1, 1), (27, .iload_n 2, 1), (28, .iconst 2, 1), (29, .invokevirtual 288, 3), (32, .istore 5, 2), (34, .aload_n 0, 1), (35, .getfield 28, 3), (38, .iload_n 1, 1), (39, .iload_n 2, 1), (40, .iconst 3, 1), (41, .invokevirtual 288, 3), (44, .istore 6, 2), (46, .aload_n 0, 1), (47, .getfield 39, 3), (50, .iload_n 3, 1), (51, .iload 4, 2), (53, .iload 5, 2), (55, .iload 6, 2), (57, .invokevirtual 220, 3), (60, .iconst (-1), 1), (61, .if_icmp .eq 5, 3), (66, .aload_n 0, 1), (67, .getfield 39, 3), (70, .iload_n 3, 1), (71, .iload 4, 2), (73, .iload 5, 2), (75, .iload 6, 2), (77, .invokevirtual 241, 3), (80, .pop, 1), (81, .iconst 1, 1), (82, .ireturn, 1), (64, .iconst 0, 1), (65, .ireturn, 1)]
set_option maxRecDepth 100000 in
theorem dall_X7_tryStep_40_pub06_0 : dchk cX7_tryStep dl_X7_tryStep_40_pub06_0 = true := by decide +kernel
theorem dX7_tryStep_0 : decode cX7_tryStep 0 = .ok (.aload_n 0, 1) := dchk_at dall_X7_tryStep_40_pub06_0 (k := 0) rfl
theorem dX7_tryStep_1 : decode cX7_tryStep 1 = .ok (.getfield 28, 3) := dchk_at dall_X7_tryStep_40_pub06_0 (k := 1) rfl
theorem dX7_tryStep_4 : decode cX7_tryStep 4 = .ok (.iload_n 1, 1) := dchk_at dall_X7_tryStep_40_pub06_0 (k := 2) rfl
theorem dX7_tryStep_5 : decode cX7_tryStep 5 = .ok (.iload_n 2, 1) := dchk_at dall_X7_tryStep_40_pub06_0 (k := 3) rfl
theorem dX7_tryStep_6 : decode cX7_tryStep 6 = .ok (.invokevirtual 299, 3) := dchk_at dall_X7_tryStep_40_pub06_0 (k := 4) rfl
theorem dX7_tryStep_9 : decode cX7_tryStep 9 = .ok (.istore_n 3, 1) := dchk_at dall_X7_tryStep_40_pub06_0 (k := 5) rfl
theorem dX7_tryStep_10 : decode cX7_tryStep 10 = .ok (.aload_n 0, 1) := dchk_at dall_X7_tryStep_40_pub06_0 (k := 6) rfl
theorem dX7_tryStep_11 : decode cX7_tryStep 11 = .ok (.getfield 28, 3) := dchk_at dall_X7_tryStep_40_pub06_0 (k := 7) rfl
theorem dX7_tryStep_14 : decode cX7_tryStep 14 = .ok (.iload_n 1, 1) := dchk_at dall_X7_tryStep_40_pub06_0 (k := 8) rfl
theorem dX7_tryStep_15 : decode cX7_tryStep 15 = .ok (.iload_n 2, 1) := dchk_at dall_X7_tryStep_40_pub06_0 (k := 9) rfl
theorem dX7_tryStep_16 : decode cX7_tryStep 16 = .ok (.iconst 1, 1) := dchk_at dall_X7_tryStep_40_pub06_0 (k := 10) rfl
theorem dX7_tryStep_17 : decode cX7_tryStep 17 = .ok (.invokevirtual 288, 3) := dchk_at dall_X7_tryStep_40_pub06_0 (k := 11) rfl
theorem dX7_tryStep_20 : decode cX7_tryStep 20 = .ok (.istore 4, 2) := dchk_at dall_X7_tryStep_40_pub06_0 (k := 12) rfl
theorem dX7_tryStep_22 : decode cX7_tryStep 22 = .ok (.aload_n 0, 1) := dchk_at dall_X7_tryStep_40_pub06_0 (k := 13) rfl
theorem dX7_tryStep_23 : decode cX7_tryStep 23 = .ok (.getfield 28, 3) := dchk_at dall_X7_tryStep_40_pub06_0 (k := 14) rfl
theorem dX7_tryStep_26 : decode cX7_tryStep 26 = .ok (.iload_n 1, 1) := dchk_at dall_X7_tryStep_40_pub06_0 (k := 15) rfl
theorem dX7_tryStep_27 : decode cX7_tryStep 27 = .ok (.iload_n 2, 1) := dchk_at dall_X7_tryStep_40_pub06_0 (k := 16) rfl
theorem dX7_tryStep_28 : decode cX7_tryStep 28 = .ok (.iconst 2, 1) := dchk_at dall_X7_tryStep_40_pub06_0 (k := 17) rfl
theorem dX7_tryStep_29 : decode cX7_tryStep 29 = .ok (.invokevirtual 288, 3) := dchk_at dall_X7_tryStep_40_pub06_0 (k := 18) rfl
theorem dX7_tryStep_32 : decode cX7_tryStep 32 = .ok (.istore 5, 2) := dchk_at dall_X7_tryStep_40_pub06_0 (k := 19) rfl
theorem dX7_tryStep_34 : decode cX7_tryStep 34 = .ok (.aload_n 0, 1) := dchk_at dall_X7_tryStep_40_pub06_0 (k := 20) rfl
theorem dX7_tryStep_35 : decode cX7_tryStep 35 = .ok (.getfield 28, 3) := dchk_at dall_X7_tryStep_40_pub06_0 (k := 21) rfl
theorem dX7_tryStep_38 : decode cX7_tryStep 38 = .ok (.iload_n 1, 1) := dchk_at dall_X7_tryStep_40_pub06_0 (k := 22) rfl
theorem dX7_tryStep_39 : decode cX7_tryStep 39 = .ok (.iload_n 2, 1) := dchk_at dall_X7_tryStep_40_pub06_0 (k := 23) rfl
theorem dX7_tryStep_40 : decode cX7_tryStep 40 = .ok (.iconst 3, 1) := dchk_at dall_X7_tryStep_40_pub06_0 (k := 24) rfl
theorem dX7_tryStep_41 : decode cX7_tryStep 41 = .ok (.invokevirtual 288, 3) := dchk_at dall_X7_tryStep_40_pub06_0 (k := 25) rfl
theorem dX7_tryStep_44 : decode cX7_tryStep 44 = .ok (.istore 6, 2) := dchk_at dall_X7_tryStep_40_pub06_0 (k := 26) rfl
theorem dX7_tryStep_46 : decode cX7_tryStep 46 = .ok (.aload_n 0, 1) := dchk_at dall_X7_tryStep_40_pub06_0 (k := 27) rfl
theorem dX7_tryStep_47 : decode cX7_tryStep 47 = .ok (.getfield 39, 3) := dchk_at dall_X7_tryStep_40_pub06_0 (k := 28) rfl
theorem dX7_tryStep_50 : decode cX7_tryStep 50 = .ok (.iload_n 3, 1) := dchk_at dall_X7_tryStep_40_pub06_0 (k := 29) rfl
theorem dX7_tryStep_51 : decode cX7_tryStep 51 = .ok (.iload 4, 2) := dchk_at dall_X7_tryStep_40_pub06_0 (k := 30) rfl
theorem dX7_tryStep_53 : decode cX7_tryStep 53 = .ok (.iload 5, 2) := dchk_at dall_X7_tryStep_40_pub06_0 (k := 31) rfl
theorem dX7_tryStep_55 : decode cX7_tryStep 55 = .ok (.iload 6, 2) := dchk_at dall_X7_tryStep_40_pub06_0 (k := 32) rfl
theorem dX7_tryStep_57 : decode cX7_tryStep 57 = .ok (.invokevirtual 220, 3) := dchk_at dall_X7_tryStep_40_pub06_0 (k := 33) rfl
theorem dX7_tryStep_60 : decode cX7_tryStep 60 = .ok (.iconst (-1), 1) := dchk_at dall_X7_tryStep_40_pub06_0 (k := 34) rfl
theorem dX7_tryStep_61 : decode cX7_tryStep 61 = .ok (.if_icmp .eq 5, 3) := dchk_at dall_X7_tryStep_40_pub06_0 (k := 35) rfl
theorem dX7_tryStep_66 : decode cX7_tryStep 66 = .ok (.aload_n 0, 1) := dchk_at dall_X7_tryStep_40_pub06_0 (k := 36) rfl
theorem dX7_tryStep_67 : decode cX7_tryStep 67 = .ok (.getfield 39, 3) := dchk_at dall_X7_tryStep_40_pub06_0 (k := 37) rfl
theorem dX7_tryStep_70 : decode cX7_tryStep 70 = .ok (.iload_n 3, 1) := dchk_at dall_X7_tryStep_40_pub06_0 (k := 38) rfl
theorem dX7_tryStep_71 : decode cX7_tryStep 71 = .ok (.iload 4, 2) := dchk_at dall_X7_tryStep_40_pub06_0 (k := 39) rfl
theorem dX7_tryStep_73 : decode cX7_tryStep 73 = .ok (.iload 5, 2) := dchk_at dall_X7_tryStep_40_pub06_0 (k := 40) rfl
theorem dX7_tryStep_75 : decode cX7_tryStep 75 = .ok (.iload 6, 2) := dchk_at dall_X7_tryStep_40_pub06_0 (k := 41) rfl
theorem dX7_tryStep_77 : decode cX7_tryStep 77 = .ok (.invokevirtual 241, 3) := dchk_at dall_X7_tryStep_40_pub06_0 (k := 42) rfl
theorem dX7_tryStep_80 : decode cX7_tryStep 80 = .ok (.pop, 1) := dchk_at dall_X7_tryStep_40_pub06_0 (k := 43) rfl
theorem dX7_tryStep_81 : decode cX7_tryStep 81 = .ok (.iconst 1, 1) := dchk_at dall_X7_tryStep_40_pub06_0 (k := 44) rfl
theorem dX7_tryStep_82 : decode cX7_tryStep 82 = .ok (.ireturn, 1) := dchk_at dall_X7_tryStep_40_pub06_0 (k := 45) rfl
theorem dX7_tryStep_64 : decode cX7_tryStep 64 = .ok (.iconst 0, 1) := dchk_at dall_X7_tryStep_40_pub06_0 (k := 46) rfl
theorem dX7_tryStep_65 : decode cX7_tryStep 65 = .ok (.ireturn, 1) := dchk_at dall_X7_tryStep_40_pub06_0 (k := 47) rfl
def B_X7_race_46 (p1 : Int32) (p2 : Int32) (c_now_row : Nat → Int32) (x5 : Int32) (x4 : Int32) (x6 : Int32) : Option ((Int32 × Int32) ⊕ (Nat × Int32 × Int32)) :=
  bd1 (F_X5_sites c_now_row) (fun r_12 => if r_12 ≤ x6 then some (.inr (2, x4, x6)) else bd1 (F_X5_isFrozen x6 c_now_row) (fun r_15 => if r_15 = (0 : Int32) then bd1 (F_X5_hasRoom x6 (x5 * p1) (x5 * p2) c_now_row) (fun r_19 => if r_19 = (0 : Int32) then some (.inr (0, x4, x6)) else bd1 (F_X5_isQuietWith x6 (x5 * p1) (x5 * p2) c_now_row) (fun r_23 => if r_23 = (0 : Int32) then some (.inr (1, x4 + (1 : Int32), x6)) else some (.inl (x4 + (1 : Int32), x6 + (1 : Int32))))) else some (.inl (x4, x6 + (1 : Int32)))))
def B_X7_race_35 (K : Nat) (p1 : Int32) (p2 : Int32) (c_now_row : Nat → Int32) (x4 : Int32) (x5 : Int32) : Option ((Int32 × Int32) ⊕ (Nat × Int32 × Int32)) :=
  if (200 : Int32) < x5 then some (.inr (2, x4, (0 : Int32))) else bd3 (lpF (fun u9 : Int32 × Int32 => B_X7_race_46 p1 p2 c_now_row x5 u9.1 u9.2) K (x4, (0 : Int32))) (fun t_27 x4_28 x6_29 => if t_27 = 0 then some (.inr (0, (0 : Int32), (0 : Int32))) else if t_27 = 1 then some (.inr (1, x4_28, x6_29)) else if t_27 = 2 then some (.inl (x4_28, x5 + (1 : Int32))) else none)
def F_X7_race (K : Nat) (p1 : Int32) (p2 : Int32) (p3 : Int32) (c_now_row : Nat → Int32) : Option (Int32) :=
  bd1 (F_X5_stands c_now_row) (fun r_1 => if r_1 = (0 : Int32) then some (-1 : Int32) else bd1 (F_X7_isWay p1 p2) (fun r_5 => if r_5 = (0 : Int32) then some (-1 : Int32) else if p3 < (0 : Int32) then some (-1 : Int32) else if p3 ≤ (1 : Int32) then bd3 (lpF (fun u9 : Int32 × Int32 => B_X7_race_35 K p1 p2 c_now_row u9.1 u9.2) K ((0 : Int32), (1 : Int32))) (fun t_31 x4_32 x6_33 => if t_31 = 0 then some (-1 : Int32) else if t_31 = 1 then if p3 = (0 : Int32) then some x6_33 else some x4_32 else if t_31 = 2 then some (-1 : Int32) else none) else some (-1 : Int32)))
abbrev w_X7_race (E : EE) (a_ a_tape a_reader a_scripts a_now a_trial a_kept a_book a_keptBook a_history a_draws a_refused a_now_row a_now_partners a_now_share a_now_leftOver : Nat) (c_hasImage : Int32) (c_now_askedCount : Int32) (c_now_outcome : Int32) (c_now_row : Nat → Int32) : va_W := [(a_, .inr (8, [.ref a_tape, .ref a_reader, .ref a_scripts, .ref a_now, .ref a_trial, .ref a_kept, .ref a_book, .ref a_keptBook, .ref a_history, .ref a_draws, .ref a_refused, .int c_hasImage])), (a_now, .inr (6, [.ref a_now_row, .ref a_now_partners, .int c_now_askedCount, .int c_now_outcome, .ref a_now_share, .ref a_now_leftOver])), (a_now_row, .inl (E.2.1, 81, .inl c_now_row))]
def v_f_X7_race : List Cond := List.cons (.code yX7_race cX7_race 7 (some .int)) (HAppend.hAppend (α := List Cond) (β := List Cond) (γ := List Cond) [.fieldLink RX7 35 "HushWatch" "now" "LHushWatch$State;", .methodLink RX7 110 yX5_stands, .instanceMethod yX5_stands, .selects RX5 yX5_stands yX5_stands, .initialized RX5, .methodLink RX7 210 yX7_isWay, .static yX7_isWay, .initialized RX7, .methodLink RX7 117 yX5_sites, .instanceMethod yX5_sites, .selects RX5 yX5_sites yX5_sites, .methodLink RX7 143 yX5_isFrozen, .instanceMethod yX5_isFrozen, .selects RX5 yX5_isFrozen yX5_isFrozen, .methodLink RX7 213 yX5_hasRoom, .instanceMethod yX5_hasRoom, .selects RX5 yX5_hasRoom yX5_hasRoom, .methodLink RX7 217 yX5_isQuietWith, .instanceMethod yX5_isQuietWith, .selects RX5 yX5_isQuietWith yX5_isQuietWith] (HAppend.hAppend (α := List Cond) (β := List Cond) (γ := List Cond) wsX70 (HAppend.hAppend (α := List Cond) (β := List Cond) (γ := List Cond) v_f_X5_stands (HAppend.hAppend (α := List Cond) (β := List Cond) (γ := List Cond) v_f_X7_isWay (HAppend.hAppend (α := List Cond) (β := List Cond) (γ := List Cond) v_f_X5_sites (HAppend.hAppend (α := List Cond) (β := List Cond) (γ := List Cond) v_f_X5_isFrozen (HAppend.hAppend (α := List Cond) (β := List Cond) (γ := List Cond) v_f_X5_hasRoom (HAppend.hAppend (α := List Cond) (β := List Cond) (γ := List Cond) v_f_X5_isQuietWith []))))))))
theorem gw_f_X7_race : v_f_X7_race.all goodWord = true := by decide +kernel
theorem i_f_X7_race_X7 : ∀ w ∈ wsX70, w ∈ v_f_X7_race := fun _ h => List.mem_cons_of_mem _ (List.mem_append_right _ (List.mem_append_left _ h))
theorem g_f_X7_race_f_X5_stands_110 : GoodIn v_f_X7_race (wsV RX7 110 RX5 yX5_stands v_f_X5_stands) := goodIn_app (goodIn_of _ (by decide +kernel)) (goodIn_sub (fun _ h => List.mem_cons_of_mem _ (List.mem_append_right _ (List.mem_append_right _ (List.mem_append_left _ h)))) gw_f_X5_stands)
theorem g_f_X7_race_f_X7_isWay_210 : GoodIn v_f_X7_race (va_wsS RX7 210 yX7_isWay v_f_X7_isWay) := goodIn_app (goodIn_of _ (by decide +kernel)) (goodIn_sub (fun _ h => List.mem_cons_of_mem _ (List.mem_append_right _ (List.mem_append_right _ (List.mem_append_right _ (List.mem_append_left _ h))))) gw_f_X7_isWay)
theorem g_f_X7_race_f_X5_sites_117 : GoodIn v_f_X7_race (wsV RX7 117 RX5 yX5_sites v_f_X5_sites) := goodIn_app (goodIn_of _ (by decide +kernel)) (goodIn_sub (fun _ h => List.mem_cons_of_mem _ (List.mem_append_right _ (List.mem_append_right _ (List.mem_append_right _ (List.mem_append_right _ (List.mem_append_left _ h)))))) gw_f_X5_sites)
theorem g_f_X7_race_f_X5_isFrozen_143 : GoodIn v_f_X7_race (wsV RX7 143 RX5 yX5_isFrozen v_f_X5_isFrozen) := goodIn_app (goodIn_of _ (by decide +kernel)) (goodIn_sub (fun _ h => List.mem_cons_of_mem _ (List.mem_append_right _ (List.mem_append_right _ (List.mem_append_right _ (List.mem_append_right _ (List.mem_append_right _ (List.mem_append_left _ h))))))) gw_f_X5_isFrozen)
theorem g_f_X7_race_f_X5_hasRoom_213 : GoodIn v_f_X7_race (wsV RX7 213 RX5 yX5_hasRoom v_f_X5_hasRoom) := goodIn_app (goodIn_of _ (by decide +kernel)) (goodIn_sub (fun _ h => List.mem_cons_of_mem _ (List.mem_append_right _ (List.mem_append_right _ (List.mem_append_right _ (List.mem_append_right _ (List.mem_append_right _ (List.mem_append_right _ (List.mem_append_left _ h)))))))) gw_f_X5_hasRoom)
theorem g_f_X7_race_f_X5_isQuietWith_217 : GoodIn v_f_X7_race (wsV RX7 217 RX5 yX5_isQuietWith v_f_X5_isQuietWith) := goodIn_app (goodIn_of _ (by decide +kernel)) (goodIn_sub (fun _ h => List.mem_cons_of_mem _ (List.mem_append_right _ (List.mem_append_right _ (List.mem_append_right _ (List.mem_append_right _ (List.mem_append_right _ (List.mem_append_right _ (List.mem_append_right _ (List.mem_append_left _ h))))))))) gw_f_X5_isQuietWith)
theorem hd_X7_race : yX7_race.cls = RX7 ∧ yX7_race.cls ≠ "java/lang/invoke/MethodHandle" ∧ yX7_race.cls ≠ "java/lang/invoke/VarHandle" ∧ (parseMethodDescriptor yX7_race.desc).map (fun d => d.parameters.length) = some 3 := by decide +kernel
set_option maxHeartbeats 4000000 in
set_option maxRecDepth 100000 in
theorem wb_X7_race_46 {p : Program} (l : Launch) {e : Env} {s : State} {m : MethodId} {below : List Frame} {meth : Method} {c : Code} {Q : State → Prop} (E : EE) (K : Nat) {a_ a_tape a_reader a_scripts a_now a_trial a_kept a_book a_keptBook a_history a_draws a_refused a_now_row a_now_partners a_now_share a_now_leftOver : Nat} {p1 : Int32} {p2 : Int32} {p3 : Int32} {c_hasImage : Int32} {c_now_askedCount : Int32} {c_now_outcome : Int32} {c_now_row : Nat → Int32} {x4 : Int32} {x5 : Int32} {x6 : Int32} (hx : p.tables.exec = Jvm.exec) (hb : c.code = cX7_race) (hml : c.maxLocals = 7) (hown : s.vm.findClass RX7 = some m.cls) (hts : ∀ w ∈ v_f_X7_race, w.before #[Value.ref a_, Value.int p1, Value.int p2, Value.int p3] s = true) (hK : va_K E.1 vwCl (TY E) s) (hN : NX s) {xx : (Int32 × Int32) ⊕ (Nat × Int32 × Int32)} (hC : ∀ (x4 : Int32), ∀ (x6 : Int32), xx = .inl (x4, x6) → ∀ (ls : Array Slot), lv_has ls 7 [(0, .ref a_), (1, .int p1), (2, .int p2), (3, .int p3), (4, .int x4), (5, .int x5), (6, .int x6)] → W p l e ({ frames := 3, cells := 0, slots := 0, locals := 73 } : Room) s m #[Value.ref a_, Value.int p1, Value.int p2, Value.int p3] below meth c s.heap [] 0 0 Q (F0 m 46 ls [])) (hE : ∀ (t9 : Nat), ∀ (x4 : Int32), ∀ (x6 : Int32), xx = .inr (t9, x4, x6) → ((t9 = 0 → ∀ (ls : Array Slot), lv_has ls 7 [] → W p l e ({ frames := 3, cells := 0, slots := 0, locals := 73 } : Room) s m #[Value.ref a_, Value.int p1, Value.int p2, Value.int p3] below meth c s.heap [] 0 0 Q (F0 m 93 ls [])) ∧ (t9 = 1 → ∀ (ls : Array Slot), lv_has ls 7 [(3, .int p3), (4, .int x4), (6, .int x6)] → W p l e ({ frames := 3, cells := 0, slots := 0, locals := 73 } : Room) s m #[Value.ref a_, Value.int p1, Value.int p2, Value.int p3] below meth c s.heap [] 0 0 Q (F0 m 118 ls [])) ∧ (t9 = 2 → ∀ (ls : Array Slot), lv_has ls 7 [(0, .ref a_), (1, .int p1), (2, .int p2), (3, .int p3), (4, .int x4), (5, .int x5)] → W p l e ({ frames := 3, cells := 0, slots := 0, locals := 73 } : Room) s m #[Value.ref a_, Value.int p1, Value.int p2, Value.int p3] below meth c s.heap [] 0 0 Q (F0 m 136 ls [])))) (hF : B_X7_race_46 p1 p2 c_now_row x5 x4 x6 = some xx) (hP : va_P E.1 vwCl (w_X7_race E a_ a_tape a_reader a_scripts a_now a_trial a_kept a_book a_keptBook a_history a_draws a_refused a_now_row a_now_partners a_now_share a_now_leftOver c_hasImage c_now_askedCount c_now_outcome c_now_row) s.heap) : ∀ (ls : Array Slot), lv_has ls 7 [(0, .ref a_), (1, .int p1), (2, .int p2), (3, .int p3), (4, .int x4), (5, .int x5), (6, .int x6)] → W p l e ({ frames := 3, cells := 0, slots := 0, locals := 73 } : Room) s m #[Value.ref a_, Value.int p1, Value.int p2, Value.int p3] below meth c s.heap [] 0 0 Q (F0 m 46 ls []) := by
  unfold B_X7_race_46 at hF
  replace hP : va_P E.1 vwCl [(a_, .inr (8, [.ref a_tape, .ref a_reader, .ref a_scripts, .ref a_now, .ref a_trial, .ref a_kept, .ref a_book, .ref a_keptBook, .ref a_history, .ref a_draws, .ref a_refused, .int c_hasImage])), (a_now, .inr (6, [.ref a_now_row, .ref a_now_partners, .int c_now_askedCount, .int c_now_outcome, .ref a_now_share, .ref a_now_leftOver])), (a_now_row, .inl (E.2.1, 81, .inl c_now_row))] s.heap := hP
  intro ls hl
  refine lv_iload hx hb dX7_race_46 (lv_at hl 6 rfl) ?_
  refine lv_aload_n hx hb dX7_race_48 rfl (lv_at hl 0 rfl) ?_
  refine gt_X7_3 (v := .ref a_now) hx hb hts i_f_X7_race_X7 hown hK hP 0 rfl (hts (.fieldLink RX7 35 "HushWatch" "now" "LHushWatch$State;") (List.mem_of_getElem? (i := 1) rfl)) rfl dX7_race_49 ?_
  replace hF := bd1_s hF
  obtain ⟨r_12, hc_13, hF⟩ := hF
  have hPc : va_P E.1 vwCl (w_X5_sites E a_now a_now_row a_now_partners a_now_share a_now_leftOver c_now_askedCount c_now_outcome c_now_row) s.heap := hP.sub (ws' := [(a_now, .inr (6, [.ref a_now_row, .ref a_now_partners, .int c_now_askedCount, .int c_now_outcome, .ref a_now_share, .ref a_now_leftOver])), (a_now_row, .inl (E.2.1, 81, .inl c_now_row))]) [1, 2] rfl
  have hrc := va_recv hK hPc (ci := 6) (q0 := 0) rfl rfl
  refine pE_i (va_runV (As := []) (rest := [.int x6])  ⟨hx, hb, hml, hown, hts⟩ (f_X5_sites l E (a_ := a_now) (a_row := a_now_row) (a_partners := a_now_partners) (a_share := a_now_share) (a_leftOver := a_now_leftOver) (c_askedCount := c_now_askedCount) (c_outcome := c_now_outcome) (c_row := c_now_row) hc_13) (cwV 0 hts g_f_X7_race_f_X5_sites_117 rfl rfl rfl hd_X5_sites ⟨Nat.le_of_ble_eq_true rfl, Nat.le_of_ble_eq_true rfl⟩) ⟨pP.blind, hrc, (pP.pre ⟨hK, hN⟩ hPc)⟩ rfl rfl hl.1 rfl (lv_room (Nat.le_of_ble_eq_true rfl)) dX7_race_52 ⟨Nat.le_of_ble_eq_true rfl, Nat.le_of_ble_eq_true rfl⟩) ?_
  refine lv_icmp_ge (tgt := 136) hx hb dX7_race_55 (by decide) (fun c_14 => ?_) (fun c_14 => ?_)
  ·
    replace hF := ip c_14 hF
    cases hF
    exact (hE 2 x4 x6 rfl).2.2 rfl ls (lv_sub hl [0, 1, 2, 3, 4, 5] rfl)
  ·
    replace hF := inn c_14 hF
    refine lv_aload_n hx hb dX7_race_58 rfl (lv_at hl 0 rfl) ?_
    refine gt_X7_3 (v := .ref a_now) hx hb hts i_f_X7_race_X7 hown hK hP 0 rfl (hts (.fieldLink RX7 35 "HushWatch" "now" "LHushWatch$State;") (List.mem_of_getElem? (i := 1) rfl)) rfl dX7_race_59 ?_
    refine lv_iload hx hb dX7_race_62 (lv_at hl 6 rfl) ?_
    replace hF := bd1_s hF
    obtain ⟨r_15, hc_16, hF⟩ := hF
    have hPc : va_P E.1 vwCl (w_X5_isFrozen E a_now a_now_row a_now_partners a_now_share a_now_leftOver c_now_askedCount c_now_outcome c_now_row) s.heap := hP.sub (ws' := [(a_now, .inr (6, [.ref a_now_row, .ref a_now_partners, .int c_now_askedCount, .int c_now_outcome, .ref a_now_share, .ref a_now_leftOver])), (a_now_row, .inl (E.2.1, 81, .inl c_now_row))]) [1, 2] rfl
    have hrc := va_recv hK hPc (ci := 6) (q0 := 0) rfl rfl
    refine pE_z (va_runV (As := [.int x6]) (rest := [])  ⟨hx, hb, hml, hown, hts⟩ (f_X5_isFrozen l E (a_ := a_now) (a_row := a_now_row) (a_partners := a_now_partners) (a_share := a_now_share) (a_leftOver := a_now_leftOver) (p1 := x6) (c_askedCount := c_now_askedCount) (c_outcome := c_now_outcome) (c_row := c_now_row) hc_16) (cwV 1 hts g_f_X7_race_f_X5_isFrozen_143 rfl rfl rfl hd_X5_isFrozen ⟨Nat.le_of_ble_eq_true rfl, Nat.le_of_ble_eq_true rfl⟩) ⟨pP.blind, hrc, (pP.pre ⟨hK, hN⟩ hPc)⟩ rfl rfl hl.1 rfl (lv_room (Nat.le_of_ble_eq_true rfl)) dX7_race_64 ⟨Nat.le_of_ble_eq_true rfl, Nat.le_of_ble_eq_true rfl⟩) (fun hb_17 => ?_)
    refine lv_if_eq (tgt := 73) hx hb dX7_race_67 (by decide) (fun c_18 => ?_) (fun c_18 => ?_)
    ·
      replace hF := ip c_18 hF
      refine lv_aload_n hx hb dX7_race_73 rfl (lv_at hl 0 rfl) ?_
      refine gt_X7_3 (v := .ref a_now) hx hb hts i_f_X7_race_X7 hown hK hP 0 rfl (hts (.fieldLink RX7 35 "HushWatch" "now" "LHushWatch$State;") (List.mem_of_getElem? (i := 1) rfl)) rfl dX7_race_74 ?_
      refine lv_iload hx hb dX7_race_77 (lv_at hl 6 rfl) ?_
      refine lv_iload hx hb dX7_race_79 (lv_at hl 5 rfl) ?_
      refine lv_iload_n hx hb dX7_race_81 rfl (lv_at hl 1 rfl) ?_
      refine lv_imul hx hb dX7_race_82 ?_
      refine lv_iload hx hb dX7_race_83 (lv_at hl 5 rfl) ?_
      refine lv_iload_n hx hb dX7_race_85 rfl (lv_at hl 2 rfl) ?_
      refine lv_imul hx hb dX7_race_86 ?_
      replace hF := bd1_s hF
      obtain ⟨r_19, hc_20, hF⟩ := hF
      have hPc : va_P E.1 vwCl (w_X5_hasRoom E a_now a_now_row a_now_partners a_now_share a_now_leftOver c_now_askedCount c_now_outcome c_now_row) s.heap := hP.sub (ws' := [(a_now, .inr (6, [.ref a_now_row, .ref a_now_partners, .int c_now_askedCount, .int c_now_outcome, .ref a_now_share, .ref a_now_leftOver])), (a_now_row, .inl (E.2.1, 81, .inl c_now_row))]) [1, 2] rfl
      have hrc := va_recv hK hPc (ci := 6) (q0 := 0) rfl rfl
      refine pE_z (va_runV (As := [.int x6, .int (x5 * p1), .int (x5 * p2)]) (rest := [])  ⟨hx, hb, hml, hown, hts⟩ (f_X5_hasRoom l E (a_ := a_now) (a_row := a_now_row) (a_partners := a_now_partners) (a_share := a_now_share) (a_leftOver := a_now_leftOver) (p1 := x6) (p2 := x5 * p1) (p3 := x5 * p2) (c_askedCount := c_now_askedCount) (c_outcome := c_now_outcome) (c_row := c_now_row) hc_20) (cwV 3 hts g_f_X7_race_f_X5_hasRoom_213 rfl rfl rfl hd_X5_hasRoom ⟨Nat.le_of_ble_eq_true rfl, Nat.le_of_ble_eq_true rfl⟩) ⟨pP.blind, hrc, (pP.pre ⟨hK, hN⟩ hPc)⟩ rfl rfl hl.1 rfl (lv_room (Nat.le_of_ble_eq_true rfl)) dX7_race_87 ⟨Nat.le_of_ble_eq_true rfl, Nat.le_of_ble_eq_true rfl⟩) (fun hb_21 => ?_)
      refine lv_if_ne (tgt := 95) hx hb dX7_race_90 (by decide) (fun c_22 => ?_) (fun c_22 => ?_)
      ·
        replace hF := inn c_22 hF
        refine lv_iinc (v := x4 + (1 : Int32)) (lv' := [(4, .int (x4 + (1 : Int32))), (0, .ref a_), (1, .int p1), (2, .int p2), (3, .int p3), (5, .int x5), (6, .int x6)]) hx hb dX7_race_95 hl (k := 4) rfl (rfl) (by decide) rfl (fun ls hl => ?_)
        refine lv_aload_n hx hb dX7_race_98 rfl (lv_at hl 1 rfl) ?_
        refine gt_X7_3 (v := .ref a_now) hx hb hts i_f_X7_race_X7 hown hK hP 0 rfl (hts (.fieldLink RX7 35 "HushWatch" "now" "LHushWatch$State;") (List.mem_of_getElem? (i := 1) rfl)) rfl dX7_race_99 ?_
        refine lv_iload hx hb dX7_race_102 (lv_at hl 6 rfl) ?_
        refine lv_iload hx hb dX7_race_104 (lv_at hl 5 rfl) ?_
        refine lv_iload_n hx hb dX7_race_106 rfl (lv_at hl 2 rfl) ?_
        refine lv_imul hx hb dX7_race_107 ?_
        refine lv_iload hx hb dX7_race_108 (lv_at hl 5 rfl) ?_
        refine lv_iload_n hx hb dX7_race_110 rfl (lv_at hl 3 rfl) ?_
        refine lv_imul hx hb dX7_race_111 ?_
        replace hF := bd1_s hF
        obtain ⟨r_23, hc_24, hF⟩ := hF
        have hPc : va_P E.1 vwCl (w_X5_isQuietWith E a_now a_now_row a_now_partners a_now_share a_now_leftOver c_now_askedCount c_now_outcome c_now_row) s.heap := hP.sub (ws' := [(a_now, .inr (6, [.ref a_now_row, .ref a_now_partners, .int c_now_askedCount, .int c_now_outcome, .ref a_now_share, .ref a_now_leftOver])), (a_now_row, .inl (E.2.1, 81, .inl c_now_row))]) [1, 2] rfl
        have hrc := va_recv hK hPc (ci := 6) (q0 := 0) rfl rfl
        refine pE_z (va_runV (As := [.int x6, .int (x5 * p1), .int (x5 * p2)]) (rest := [])  ⟨hx, hb, hml, hown, hts⟩ (f_X5_isQuietWith l E (a_ := a_now) (a_row := a_now_row) (a_partners := a_now_partners) (a_share := a_now_share) (a_leftOver := a_now_leftOver) (p1 := x6) (p2 := x5 * p1) (p3 := x5 * p2) (c_askedCount := c_now_askedCount) (c_outcome := c_now_outcome) (c_row := c_now_row) hc_24) (cwV 3 hts g_f_X7_race_f_X5_isQuietWith_217 rfl rfl rfl hd_X5_isQuietWith ⟨Nat.le_of_ble_eq_true rfl, Nat.le_of_ble_eq_true rfl⟩) ⟨pP.blind, hrc, (pP.pre ⟨hK, hN⟩ hPc)⟩ rfl rfl hl.1 rfl (lv_room (Nat.le_of_ble_eq_true rfl)) dX7_race_112 ⟨Nat.le_of_ble_eq_true rfl, Nat.le_of_ble_eq_true rfl⟩) (fun hb_25 => ?_)
        refine lv_if_ne (tgt := 130) hx hb dX7_race_115 (by decide) (fun c_26 => ?_) (fun c_26 => ?_)
        ·
          replace hF := inn c_26 hF
          refine lv_iinc (v := x6 + (1 : Int32)) (lv' := [(6, .int (x6 + (1 : Int32))), (4, .int (x4 + (1 : Int32))), (0, .ref a_), (1, .int p1), (2, .int p2), (3, .int p3), (5, .int x5)]) hx hb dX7_race_130 hl (k := 6) rfl (rfl) (by decide) rfl (fun ls hl => ?_)
          refine lv_goto (tgt := 46) hx hb dX7_race_133 (by decide) ?_
          cases hF
          exact hC (x4 + (1 : Int32)) (x6 + (1 : Int32)) rfl ls (lv_sub hl [2, 3, 4, 5, 1, 6, 0] rfl)
        ·
          replace hF := ip c_26 hF
          cases hF
          exact (hE 1 (x4 + (1 : Int32)) x6 rfl).2.1 rfl ls (lv_sub hl [4, 0, 6] rfl)
      ·
        replace hF := ip c_22 hF
        cases hF
        exact (hE 0 x4 x6 rfl).1 rfl ls (lv_sub hl [] rfl)
    ·
      replace hF := inn c_18 hF
      refine lv_goto (tgt := 130) hx hb dX7_race_70 (by decide) ?_
      refine lv_iinc (v := x6 + (1 : Int32)) (lv' := [(6, .int (x6 + (1 : Int32))), (0, .ref a_), (1, .int p1), (2, .int p2), (3, .int p3), (4, .int x4), (5, .int x5)]) hx hb dX7_race_130 hl (k := 6) rfl (rfl) (by decide) rfl (fun ls hl => ?_)
      refine lv_goto (tgt := 46) hx hb dX7_race_133 (by decide) ?_
      cases hF
      exact hC x4 (x6 + (1 : Int32)) rfl ls (lv_sub hl [1, 2, 3, 4, 5, 6, 0] rfl)

set_option maxHeartbeats 4000000 in
set_option maxRecDepth 100000 in
theorem lw_X7_race_46 {p : Program} (l : Launch) {e : Env} {s : State} {m : MethodId} {below : List Frame} {meth : Method} {c : Code} {Q : State → Prop} (E : EE) (K : Nat) {a_ a_tape a_reader a_scripts a_now a_trial a_kept a_book a_keptBook a_history a_draws a_refused a_now_row a_now_partners a_now_share a_now_leftOver : Nat} {p1 : Int32} {p2 : Int32} {p3 : Int32} {c_hasImage : Int32} {c_now_askedCount : Int32} {c_now_outcome : Int32} {c_now_row : Nat → Int32} {x5 : Int32} (hx : p.tables.exec = Jvm.exec) (hb : c.code = cX7_race) (hml : c.maxLocals = 7) (hown : s.vm.findClass RX7 = some m.cls) (hts : ∀ w ∈ v_f_X7_race, w.before #[Value.ref a_, Value.int p1, Value.int p2, Value.int p3] s = true) (hK : va_K E.1 vwCl (TY E) s) (hN : NX s) (hP : va_P E.1 vwCl (w_X7_race E a_ a_tape a_reader a_scripts a_now a_trial a_kept a_book a_keptBook a_history a_draws a_refused a_now_row a_now_partners a_now_share a_now_leftOver c_hasImage c_now_askedCount c_now_outcome c_now_row) s.heap) (j9 : Nat) (x4 : Int32) (x6 : Int32) (t9' : Nat) (x4' : Int32) (x6' : Int32) (hL : lpF (fun u9 : Int32 × Int32 => B_X7_race_46 p1 p2 c_now_row x5 u9.1 u9.2) j9 (x4, x6) = some (t9', x4', x6')) (hX : (t9' = 0 → ∀ (ls : Array Slot), lv_has ls 7 [] → W p l e ({ frames := 3, cells := 0, slots := 0, locals := 73 } : Room) s m #[Value.ref a_, Value.int p1, Value.int p2, Value.int p3] below meth c s.heap [] 0 0 Q (F0 m 93 ls [])) ∧ (t9' = 1 → ∀ (ls : Array Slot), lv_has ls 7 [(3, .int p3), (4, .int x4'), (6, .int x6')] → W p l e ({ frames := 3, cells := 0, slots := 0, locals := 73 } : Room) s m #[Value.ref a_, Value.int p1, Value.int p2, Value.int p3] below meth c s.heap [] 0 0 Q (F0 m 118 ls [])) ∧ (t9' = 2 → ∀ (ls : Array Slot), lv_has ls 7 [(0, .ref a_), (1, .int p1), (2, .int p2), (3, .int p3), (4, .int x4'), (5, .int x5)] → W p l e ({ frames := 3, cells := 0, slots := 0, locals := 73 } : Room) s m #[Value.ref a_, Value.int p1, Value.int p2, Value.int p3] below meth c s.heap [] 0 0 Q (F0 m 136 ls []))) : ∀ (ls : Array Slot), lv_has ls 7 [(0, .ref a_), (1, .int p1), (2, .int p2), (3, .int p3), (4, .int x4), (5, .int x5), (6, .int x6)] → W p l e ({ frames := 3, cells := 0, slots := 0, locals := 73 } : Room) s m #[Value.ref a_, Value.int p1, Value.int p2, Value.int p3] below meth c s.heap [] 0 0 Q (F0 m 46 ls []) := by
  exact lp_rule (P := (fun u9 : Int32 × Int32 => ∀ (ls : Array Slot), lv_has ls 7 [(0, .ref a_), (1, .int p1), (2, .int p2), (3, .int p3), (4, .int u9.1), (5, .int x5), (6, .int u9.2)] → W p l e ({ frames := 3, cells := 0, slots := 0, locals := 73 } : Room) s m #[Value.ref a_, Value.int p1, Value.int p2, Value.int p3] below meth c s.heap [] 0 0 Q (F0 m 46 ls []))) (R := (fun r9 : Nat × Int32 × Int32 => (r9.1 = 0 → ∀ (ls : Array Slot), lv_has ls 7 [] → W p l e ({ frames := 3, cells := 0, slots := 0, locals := 73 } : Room) s m #[Value.ref a_, Value.int p1, Value.int p2, Value.int p3] below meth c s.heap [] 0 0 Q (F0 m 93 ls [])) ∧ (r9.1 = 1 → ∀ (ls : Array Slot), lv_has ls 7 [(3, .int p3), (4, .int r9.2.1), (6, .int r9.2.2)] → W p l e ({ frames := 3, cells := 0, slots := 0, locals := 73 } : Room) s m #[Value.ref a_, Value.int p1, Value.int p2, Value.int p3] below meth c s.heap [] 0 0 Q (F0 m 118 ls [])) ∧ (r9.1 = 2 → ∀ (ls : Array Slot), lv_has ls 7 [(0, .ref a_), (1, .int p1), (2, .int p2), (3, .int p3), (4, .int r9.2.1), (5, .int x5)] → W p l e ({ frames := 3, cells := 0, slots := 0, locals := 73 } : Room) s m #[Value.ref a_, Value.int p1, Value.int p2, Value.int p3] below meth c s.heap [] 0 0 Q (F0 m 136 ls [])))) (fun u9 xx hF hC hE => wb_X7_race_46 l E K (p1 := p1) (p2 := p2) (p3 := p3) (c_hasImage := c_hasImage) (c_now_askedCount := c_now_askedCount) (c_now_outcome := c_now_outcome) (c_now_row := c_now_row) (x4 := u9.1) (x5 := x5) (x6 := u9.2) hx hb hml hown hts hK hN (fun x4 x6 q9 => hC _ q9) (fun t9 x4 x6 q9 => hE _ q9) hF hP) j9 (x4, x6) (t9', x4', x6') hL hX

set_option maxHeartbeats 4000000 in
set_option maxRecDepth 100000 in
theorem wb_X7_race_35 {p : Program} (l : Launch) {e : Env} {s : State} {m : MethodId} {below : List Frame} {meth : Method} {c : Code} {Q : State → Prop} (E : EE) (K : Nat) {a_ a_tape a_reader a_scripts a_now a_trial a_kept a_book a_keptBook a_history a_draws a_refused a_now_row a_now_partners a_now_share a_now_leftOver : Nat} {p1 : Int32} {p2 : Int32} {p3 : Int32} {c_hasImage : Int32} {c_now_askedCount : Int32} {c_now_outcome : Int32} {c_now_row : Nat → Int32} {x4 : Int32} {x5 : Int32} (hx : p.tables.exec = Jvm.exec) (hb : c.code = cX7_race) (hml : c.maxLocals = 7) (hown : s.vm.findClass RX7 = some m.cls) (hts : ∀ w ∈ v_f_X7_race, w.before #[Value.ref a_, Value.int p1, Value.int p2, Value.int p3] s = true) (hK : va_K E.1 vwCl (TY E) s) (hN : NX s) {xx : (Int32 × Int32) ⊕ (Nat × Int32 × Int32)} (hC : ∀ (x4 : Int32), ∀ (x5 : Int32), xx = .inl (x4, x5) → ∀ (ls : Array Slot), lv_has ls 7 [(0, .ref a_), (1, .int p1), (2, .int p2), (3, .int p3), (4, .int x4), (5, .int x5)] → W p l e ({ frames := 3, cells := 0, slots := 0, locals := 73 } : Room) s m #[Value.ref a_, Value.int p1, Value.int p2, Value.int p3] below meth c s.heap [] 0 0 Q (F0 m 35 ls [])) (hE : ∀ (t9 : Nat), ∀ (x4 : Int32), ∀ (x6 : Int32), xx = .inr (t9, x4, x6) → ((t9 = 0 → ∀ (ls : Array Slot), lv_has ls 7 [] → W p l e ({ frames := 3, cells := 0, slots := 0, locals := 73 } : Room) s m #[Value.ref a_, Value.int p1, Value.int p2, Value.int p3] below meth c s.heap [] 0 0 Q (F0 m 93 ls [])) ∧ (t9 = 1 → ∀ (ls : Array Slot), lv_has ls 7 [(3, .int p3), (4, .int x4), (6, .int x6)] → W p l e ({ frames := 3, cells := 0, slots := 0, locals := 73 } : Room) s m #[Value.ref a_, Value.int p1, Value.int p2, Value.int p3] below meth c s.heap [] 0 0 Q (F0 m 118 ls [])) ∧ (t9 = 2 → ∀ (ls : Array Slot), lv_has ls 7 [] → W p l e ({ frames := 3, cells := 0, slots := 0, locals := 73 } : Room) s m #[Value.ref a_, Value.int p1, Value.int p2, Value.int p3] below meth c s.heap [] 0 0 Q (F0 m 142 ls [])))) (hF : B_X7_race_35 K p1 p2 c_now_row x4 x5 = some xx) (hP : va_P E.1 vwCl (w_X7_race E a_ a_tape a_reader a_scripts a_now a_trial a_kept a_book a_keptBook a_history a_draws a_refused a_now_row a_now_partners a_now_share a_now_leftOver c_hasImage c_now_askedCount c_now_outcome c_now_row) s.heap) : ∀ (ls : Array Slot), lv_has ls 7 [(0, .ref a_), (1, .int p1), (2, .int p2), (3, .int p3), (4, .int x4), (5, .int x5)] → W p l e ({ frames := 3, cells := 0, slots := 0, locals := 73 } : Room) s m #[Value.ref a_, Value.int p1, Value.int p2, Value.int p3] below meth c s.heap [] 0 0 Q (F0 m 35 ls []) := by
  unfold B_X7_race_35 at hF
  replace hP : va_P E.1 vwCl [(a_, .inr (8, [.ref a_tape, .ref a_reader, .ref a_scripts, .ref a_now, .ref a_trial, .ref a_kept, .ref a_book, .ref a_keptBook, .ref a_history, .ref a_draws, .ref a_refused, .int c_hasImage])), (a_now, .inr (6, [.ref a_now_row, .ref a_now_partners, .int c_now_askedCount, .int c_now_outcome, .ref a_now_share, .ref a_now_leftOver])), (a_now_row, .inl (E.2.1, 81, .inl c_now_row))] s.heap := hP
  intro ls hl
  refine lv_iload hx hb dX7_race_35 (lv_at hl 5 rfl) ?_
  refine lv_sipush (v := 200) hx hb dX7_race_37 (by decide) ?_
  refine lv_icmp_gt (tgt := 142) hx hb dX7_race_40 (by decide) (fun c_11 => ?_) (fun c_11 => ?_)
  ·
    replace hF := ip c_11 hF
    cases hF
    exact (hE 2 x4 (0 : Int32) rfl).2.2 rfl ls (lv_sub hl [] rfl)
  ·
    replace hF := inn c_11 hF
    refine lv_iconst (v := 0) hx hb dX7_race_43 (by decide) ?_
    refine lv_istore (lv' := [(6, .int (0 : Int32)), (0, .ref a_), (1, .int p1), (2, .int p2), (3, .int p3), (4, .int x4), (5, .int x5)]) hx hb dX7_race_44 hl (by decide) rfl (fun ls hl => ?_)
    replace hF := bd3_s hF
    obtain ⟨t_27, x4_28, x6_29, hL_30, hF⟩ := hF
    refine lw_X7_race_46 l E K (p1 := p1) (p2 := p2) (p3 := p3) (c_hasImage := c_hasImage) (c_now_askedCount := c_now_askedCount) (c_now_outcome := c_now_outcome) (c_now_row := c_now_row) (x5 := x5) hx hb hml hown hts hK hN hP K x4 (0 : Int32) t_27 x4_28 x6_29 hL_30 ⟨?_, ?_, ?_⟩ ls (lv_sub hl [1, 2, 3, 4, 5, 6, 0] rfl)
    ·
      intro t9
      replace hF := ip t9 hF
      intro ls hl
      cases hF
      exact (hE 0 (0 : Int32) (0 : Int32) rfl).1 rfl ls (lv_sub hl [] rfl)
    ·
      intro t9
      replace hF := inn (show ¬ t_27 = 0 by omega) hF
      replace hF := ip t9 hF
      intro ls hl
      cases hF
      exact (hE 1 x4_28 x6_29 rfl).2.1 rfl ls (lv_sub hl [0, 1, 2] rfl)
    ·
      intro t9
      replace hF := inn (show ¬ t_27 = 0 by omega) hF
      replace hF := inn (show ¬ t_27 = 1 by omega) hF
      replace hF := ip t9 hF
      intro ls hl
      refine lv_iinc (v := x5 + (1 : Int32)) (lv' := [(5, .int (x5 + (1 : Int32))), (0, .ref a_), (1, .int p1), (2, .int p2), (3, .int p3), (4, .int x4_28)]) hx hb dX7_race_136 hl (k := 5) rfl (rfl) (by decide) rfl (fun ls hl => ?_)
      refine lv_goto (tgt := 35) hx hb dX7_race_139 (by decide) ?_
      cases hF
      exact hC x4_28 (x5 + (1 : Int32)) rfl ls (lv_sub hl [1, 2, 3, 4, 5, 0] rfl)

set_option maxHeartbeats 4000000 in
set_option maxRecDepth 100000 in
theorem lw_X7_race_35 {p : Program} (l : Launch) {e : Env} {s : State} {m : MethodId} {below : List Frame} {meth : Method} {c : Code} {Q : State → Prop} (E : EE) (K : Nat) {a_ a_tape a_reader a_scripts a_now a_trial a_kept a_book a_keptBook a_history a_draws a_refused a_now_row a_now_partners a_now_share a_now_leftOver : Nat} {p1 : Int32} {p2 : Int32} {p3 : Int32} {c_hasImage : Int32} {c_now_askedCount : Int32} {c_now_outcome : Int32} {c_now_row : Nat → Int32} (hx : p.tables.exec = Jvm.exec) (hb : c.code = cX7_race) (hml : c.maxLocals = 7) (hown : s.vm.findClass RX7 = some m.cls) (hts : ∀ w ∈ v_f_X7_race, w.before #[Value.ref a_, Value.int p1, Value.int p2, Value.int p3] s = true) (hK : va_K E.1 vwCl (TY E) s) (hN : NX s) (hP : va_P E.1 vwCl (w_X7_race E a_ a_tape a_reader a_scripts a_now a_trial a_kept a_book a_keptBook a_history a_draws a_refused a_now_row a_now_partners a_now_share a_now_leftOver c_hasImage c_now_askedCount c_now_outcome c_now_row) s.heap) (j9 : Nat) (x4 : Int32) (x5 : Int32) (t9' : Nat) (x4' : Int32) (x6' : Int32) (hL : lpF (fun u9 : Int32 × Int32 => B_X7_race_35 K p1 p2 c_now_row u9.1 u9.2) j9 (x4, x5) = some (t9', x4', x6')) (hX : (t9' = 0 → ∀ (ls : Array Slot), lv_has ls 7 [] → W p l e ({ frames := 3, cells := 0, slots := 0, locals := 73 } : Room) s m #[Value.ref a_, Value.int p1, Value.int p2, Value.int p3] below meth c s.heap [] 0 0 Q (F0 m 93 ls [])) ∧ (t9' = 1 → ∀ (ls : Array Slot), lv_has ls 7 [(3, .int p3), (4, .int x4'), (6, .int x6')] → W p l e ({ frames := 3, cells := 0, slots := 0, locals := 73 } : Room) s m #[Value.ref a_, Value.int p1, Value.int p2, Value.int p3] below meth c s.heap [] 0 0 Q (F0 m 118 ls [])) ∧ (t9' = 2 → ∀ (ls : Array Slot), lv_has ls 7 [] → W p l e ({ frames := 3, cells := 0, slots := 0, locals := 73 } : Room) s m #[Value.ref a_, Value.int p1, Value.int p2, Value.int p3] below meth c s.heap [] 0 0 Q (F0 m 142 ls []))) : ∀ (ls : Array Slot), lv_has ls 7 [(0, .ref a_), (1, .int p1), (2, .int p2), (3, .int p3), (4, .int x4), (5, .int x5)] → W p l e ({ frames := 3, cells := 0, slots := 0, locals := 73 } : Room) s m #[Value.ref a_, Value.int p1, Value.int p2, Value.int p3] below meth c s.heap [] 0 0 Q (F0 m 35 ls []) := by
  exact lp_rule (P := (fun u9 : Int32 × Int32 => ∀ (ls : Array Slot), lv_has ls 7 [(0, .ref a_), (1, .int p1), (2, .int p2), (3, .int p3), (4, .int u9.1), (5, .int u9.2)] → W p l e ({ frames := 3, cells := 0, slots := 0, locals := 73 } : Room) s m #[Value.ref a_, Value.int p1, Value.int p2, Value.int p3] below meth c s.heap [] 0 0 Q (F0 m 35 ls []))) (R := (fun r9 : Nat × Int32 × Int32 => (r9.1 = 0 → ∀ (ls : Array Slot), lv_has ls 7 [] → W p l e ({ frames := 3, cells := 0, slots := 0, locals := 73 } : Room) s m #[Value.ref a_, Value.int p1, Value.int p2, Value.int p3] below meth c s.heap [] 0 0 Q (F0 m 93 ls [])) ∧ (r9.1 = 1 → ∀ (ls : Array Slot), lv_has ls 7 [(3, .int p3), (4, .int r9.2.1), (6, .int r9.2.2)] → W p l e ({ frames := 3, cells := 0, slots := 0, locals := 73 } : Room) s m #[Value.ref a_, Value.int p1, Value.int p2, Value.int p3] below meth c s.heap [] 0 0 Q (F0 m 118 ls [])) ∧ (r9.1 = 2 → ∀ (ls : Array Slot), lv_has ls 7 [] → W p l e ({ frames := 3, cells := 0, slots := 0, locals := 73 } : Room) s m #[Value.ref a_, Value.int p1, Value.int p2, Value.int p3] below meth c s.heap [] 0 0 Q (F0 m 142 ls [])))) (fun u9 xx hF hC hE => wb_X7_race_35 l E K (p1 := p1) (p2 := p2) (p3 := p3) (c_hasImage := c_hasImage) (c_now_askedCount := c_now_askedCount) (c_now_outcome := c_now_outcome) (c_now_row := c_now_row) (x4 := u9.1) (x5 := u9.2) hx hb hml hown hts hK hN (fun x4 x5 q9 => hC _ q9) (fun t9 x4 x6 q9 => hE _ q9) hF hP) j9 (x4, x5) (t9', x4', x6') hL hX

set_option maxHeartbeats 4000000 in
set_option maxRecDepth 100000 in
theorem f_X7_race (l : Launch) (E : EE) (K : Nat) {a_ a_tape a_reader a_scripts a_now a_trial a_kept a_book a_keptBook a_history a_draws a_refused a_now_row a_now_partners a_now_share a_now_leftOver : Nat} {p1 : Int32} {p2 : Int32} {p3 : Int32} {c_hasImage : Int32} {c_now_askedCount : Int32} {c_now_outcome : Int32} {c_now_row : Nat → Int32} {rr : Int32} (hF : F_X7_race K p1 p2 p3 c_now_row = some rr) : Met l yX7_race v_f_X7_race (({ frames := 3, cells := 0, slots := 0, locals := 73 } : Room)) (va_Pc [.ref a_, .int p1, .int p2, .int p3] (pP E (w_X7_race E a_ a_tape a_reader a_scripts a_now a_trial a_kept a_book a_keptBook a_history a_draws a_refused a_now_row a_now_partners a_now_share a_now_leftOver c_hasImage c_now_askedCount c_now_outcome c_now_row))) (vp_Si (fun q : Int32 => q = rr)) 0 0 (fun _ => False) := by
  refine Met.ofW (cc := cX7_race) (maxL := 7) (ret := (some .int)) (by decide) rfl ?_
  intro p e s m args below meth c s₁ B hml hv
  obtain ⟨rfl, ⟨hK, hN⟩, hP⟩ := hv
  have hx := B.exec
  have hb := B.bytes
  have hr := B.returns
  have hts := atoms_spec (ws := v_f_X7_race) B.pre
  have hown : s.vm.findClass RX7 = some m.cls := own_of hd_X7_race.1 (findClass_of_methodNamed B.named)
  have hlocks : meth.locks = false := B.notSynchronized
  replace hP : va_P E.1 vwCl [(a_, .inr (8, [.ref a_tape, .ref a_reader, .ref a_scripts, .ref a_now, .ref a_trial, .ref a_kept, .ref a_book, .ref a_keptBook, .ref a_history, .ref a_draws, .ref a_refused, .int c_hasImage])), (a_now, .inr (6, [.ref a_now_row, .ref a_now_partners, .int c_now_askedCount, .int c_now_outcome, .ref a_now_share, .ref a_now_leftOver])), (a_now_row, .inl (E.2.1, 81, .inl c_now_row))] s.heap := hP
  have hl := lv_entry ([.ref a_, .int p1, .int p2, .int p3]) (n := 7) (Nat.le_of_ble_eq_true rfl)
  rw [lg_entry_eq]
  generalize (lg_sl ([.ref a_, .int p1, .int p2, .int p3]) ++ List.replicate (7 - (lg_sl ([.ref a_, .int p1, .int p2, .int p3])).length) Slot.unset).toArray = ls at hl ⊢
  have hl : lv_has ls 7 [(0, .ref a_), (1, .int p1), (2, .int p2), (3, .int p3)] := hl
  obtain ⟨Q, hQ⟩ : ∃ Q : State → Prop, Q = MQ below (vp_Si (fun q : Int32 => q = rr)) #[Value.ref a_, Value.int p1, Value.int p2, Value.int p3] s 0 0 (fun _ => False) := ⟨_, rfl⟩
  rw [← hQ]
  change W p l e ({ frames := 3, cells := 0, slots := 0, locals := 73 } : Room) s m #[Value.ref a_, Value.int p1, Value.int p2, Value.int p3] below meth c s.heap [] 0 0 Q (F0 m 0 ls [])
  unfold F_X7_race at hF
  refine lv_aload_n hx hb dX7_race_0 rfl (lv_at hl 0 rfl) ?_
  refine gt_X7_3 (v := .ref a_now) hx hb hts i_f_X7_race_X7 hown hK hP 0 rfl (hts (.fieldLink RX7 35 "HushWatch" "now" "LHushWatch$State;") (List.mem_of_getElem? (i := 1) rfl)) rfl dX7_race_1 ?_
  replace hF := bd1_s hF
  obtain ⟨r_1, hc_2, hF⟩ := hF
  have hPc : va_P E.1 vwCl (w_X5_stands E a_now a_now_row a_now_partners a_now_share a_now_leftOver c_now_askedCount c_now_outcome c_now_row) s.heap := hP.sub (ws' := [(a_now, .inr (6, [.ref a_now_row, .ref a_now_partners, .int c_now_askedCount, .int c_now_outcome, .ref a_now_share, .ref a_now_leftOver])), (a_now_row, .inl (E.2.1, 81, .inl c_now_row))]) [1, 2] rfl
  have hrc := va_recv hK hPc (ci := 6) (q0 := 0) rfl rfl
  refine pE_z (va_runV (As := []) (rest := [])  ⟨hx, hb, hml, hown, hts⟩ (f_X5_stands l E (a_ := a_now) (a_row := a_now_row) (a_partners := a_now_partners) (a_share := a_now_share) (a_leftOver := a_now_leftOver) (c_askedCount := c_now_askedCount) (c_outcome := c_now_outcome) (c_row := c_now_row) hc_2) (cwV 0 hts g_f_X7_race_f_X5_stands_110 rfl rfl rfl hd_X5_stands ⟨Nat.le_of_ble_eq_true rfl, Nat.le_of_ble_eq_true rfl⟩) ⟨pP.blind, hrc, (pP.pre ⟨hK, hN⟩ hPc)⟩ rfl rfl hl.1 rfl (lv_room (Nat.le_of_ble_eq_true rfl)) dX7_race_4 ⟨Nat.le_of_ble_eq_true rfl, Nat.le_of_ble_eq_true rfl⟩) (fun hb_3 => ?_)
  refine lv_if_eq (tgt := 27) hx hb dX7_race_7 (by decide) (fun c_4 => ?_) (fun c_4 => ?_)
  ·
    replace hF := ip c_4 hF
    refine lv_iconst (v := -1) hx hb dX7_race_27 (by decide) ?_
    rw [hQ]
    obtain e9_0 := inj1 hF
    exact W.iret (v := (-1 : Int32)) hx hb hr (fun tt ht hW => ⟨_, rfl, e9_0, ht⟩) (fun _ h => by cases h) dX7_race_28
  ·
    replace hF := inn c_4 hF
    refine lv_iload_n hx hb dX7_race_10 rfl (lv_at hl 1 rfl) ?_
    refine lv_iload_n hx hb dX7_race_11 rfl (lv_at hl 2 rfl) ?_
    replace hF := bd1_s hF
    obtain ⟨r_5, hc_6, hF⟩ := hF
    have hPc : va_P E.1 vwCl [] s.heap := fun k q h => by simp at h
    refine pE_z (va_runS (As := [.int p1, .int p2]) (rest := [])  ⟨hx, hb, hml, hown, hts⟩ (f_X7_isWay l E (p0 := p1) (p1 := p2) hc_6) (va_cwS 2 hts g_f_X7_race_f_X7_isWay_210 rfl rfl rfl hd_X7_isWay.2 ⟨Nat.le_of_ble_eq_true rfl, Nat.le_of_ble_eq_true rfl⟩) ⟨pP.blind, (pP.pre ⟨hK, hN⟩ hPc)⟩ rfl rfl hl.1 rfl (lv_room (Nat.le_of_ble_eq_true rfl)) dX7_race_12 ⟨Nat.le_of_ble_eq_true rfl, Nat.le_of_ble_eq_true rfl⟩) (fun hb_7 => ?_)
    refine lv_if_eq (tgt := 27) hx hb dX7_race_15 (by decide) (fun c_8 => ?_) (fun c_8 => ?_)
    ·
      replace hF := ip c_8 hF
      refine lv_iconst (v := -1) hx hb dX7_race_27 (by decide) ?_
      rw [hQ]
      obtain e9_0 := inj1 hF
      exact W.iret (v := (-1 : Int32)) hx hb hr (fun tt ht hW => ⟨_, rfl, e9_0, ht⟩) (fun _ h => by cases h) dX7_race_28
    ·
      replace hF := inn c_8 hF
      refine lv_iload_n hx hb dX7_race_18 rfl (lv_at hl 3 rfl) ?_
      refine lv_if_lt (tgt := 27) hx hb dX7_race_19 (by decide) (fun c_9 => ?_) (fun c_9 => ?_)
      ·
        replace hF := ip c_9 hF
        refine lv_iconst (v := -1) hx hb dX7_race_27 (by decide) ?_
        rw [hQ]
        obtain e9_0 := inj1 hF
        exact W.iret (v := (-1 : Int32)) hx hb hr (fun tt ht hW => ⟨_, rfl, e9_0, ht⟩) (fun _ h => by cases h) dX7_race_28
      ·
        replace hF := inn c_9 hF
        refine lv_iload_n hx hb dX7_race_22 rfl (lv_at hl 3 rfl) ?_
        refine lv_iconst (v := 1) hx hb dX7_race_23 (by decide) ?_
        refine lv_icmp_le (tgt := 29) hx hb dX7_race_24 (by decide) (fun c_10 => ?_) (fun c_10 => ?_)
        ·
          replace hF := ip c_10 hF
          refine lv_iconst (v := 0) hx hb dX7_race_29 (by decide) ?_
          refine lv_istore (lv' := [(4, .int (0 : Int32)), (0, .ref a_), (1, .int p1), (2, .int p2), (3, .int p3)]) hx hb dX7_race_30 hl (by decide) rfl (fun ls hl => ?_)
          refine lv_iconst (v := 1) hx hb dX7_race_32 (by decide) ?_
          refine lv_istore (lv' := [(5, .int (1 : Int32)), (4, .int (0 : Int32)), (0, .ref a_), (1, .int p1), (2, .int p2), (3, .int p3)]) hx hb dX7_race_33 hl (by decide) rfl (fun ls hl => ?_)
          replace hF := bd3_s hF
          obtain ⟨t_31, x4_32, x6_33, hL_34, hF⟩ := hF
          refine lw_X7_race_35 l E K (p1 := p1) (p2 := p2) (p3 := p3) (c_hasImage := c_hasImage) (c_now_askedCount := c_now_askedCount) (c_now_outcome := c_now_outcome) (c_now_row := c_now_row) hx hb hml hown hts hK hN hP K (0 : Int32) (1 : Int32) t_31 x4_32 x6_33 hL_34 ⟨?_, ?_, ?_⟩ ls (lv_sub hl [2, 3, 4, 5, 1, 0] rfl)
          ·
            intro t9
            replace hF := ip t9 hF
            intro ls hl
            refine lv_iconst (v := -1) hx hb dX7_race_93 (by decide) ?_
            rw [hQ]
            obtain e9_0 := inj1 hF
            exact W.iret (v := (-1 : Int32)) hx hb hr (fun tt ht hW => ⟨_, rfl, e9_0, ht⟩) (fun _ h => by cases h) dX7_race_94
          ·
            intro t9
            replace hF := inn (show ¬ t_31 = 0 by omega) hF
            replace hF := ip t9 hF
            intro ls hl
            refine lv_iload_n hx hb dX7_race_118 rfl (lv_at hl 0 rfl) ?_
            refine lv_if_ne (tgt := 127) hx hb dX7_race_119 (by decide) (fun c_35 => ?_) (fun c_35 => ?_)
            ·
              replace hF := inn c_35 hF
              refine lv_iload hx hb dX7_race_127 (lv_at hl 1 rfl) ?_
              rw [hQ]
              obtain e9_0 := inj1 hF
              exact W.iret (v := x4_32) hx hb hr (fun tt ht hW => ⟨_, rfl, e9_0, ht⟩) (fun _ h => by cases h) dX7_race_129
            ·
              replace hF := ip c_35 hF
              refine lv_iload hx hb dX7_race_122 (lv_at hl 2 rfl) ?_
              refine lv_goto (tgt := 129) hx hb dX7_race_124 (by decide) ?_
              rw [hQ]
              obtain e9_0 := inj1 hF
              exact W.iret (v := x6_33) hx hb hr (fun tt ht hW => ⟨_, rfl, e9_0, ht⟩) (fun _ h => by cases h) dX7_race_129
          ·
            intro t9
            replace hF := inn (show ¬ t_31 = 0 by omega) hF
            replace hF := inn (show ¬ t_31 = 1 by omega) hF
            replace hF := ip t9 hF
            intro ls hl
            refine lv_iconst (v := -1) hx hb dX7_race_142 (by decide) ?_
            rw [hQ]
            obtain e9_0 := inj1 hF
            exact W.iret (v := (-1 : Int32)) hx hb hr (fun tt ht hW => ⟨_, rfl, e9_0, ht⟩) (fun _ h => by cases h) dX7_race_143
        ·
          replace hF := inn c_10 hF
          refine lv_iconst (v := -1) hx hb dX7_race_27 (by decide) ?_
          rw [hQ]
          obtain e9_0 := inj1 hF
          exact W.iret (v := (-1 : Int32)) hx hb hr (fun tt ht hW => ⟨_, rfl, e9_0, ht⟩) (fun _ h => by cases h) dX7_race_28

def F_X7_rule (p1 : Int32) (c_now_row : Nat → Int32) : Option (Int32) :=
  bd1 (F_X5_stands c_now_row) (fun r_1 => if r_1 = (0 : Int32) then some (-100000000 : Int32) else if p1 = (0 : Int32) then some (c_now_row 0) else if p1 = (1 : Int32) then some (c_now_row 1) else if p1 = (2 : Int32) then some (c_now_row 2) else if p1 = (3 : Int32) then bd1 (F_X5_sites c_now_row) (fun r_6 => some r_6) else some (-100000000 : Int32))
abbrev w_X7_rule (E : EE) (a_ a_tape a_reader a_scripts a_now a_trial a_kept a_book a_keptBook a_history a_draws a_refused a_now_row a_now_partners a_now_share a_now_leftOver : Nat) (c_hasImage : Int32) (c_now_askedCount : Int32) (c_now_outcome : Int32) (c_now_row : Nat → Int32) : va_W := [(a_, .inr (8, [.ref a_tape, .ref a_reader, .ref a_scripts, .ref a_now, .ref a_trial, .ref a_kept, .ref a_book, .ref a_keptBook, .ref a_history, .ref a_draws, .ref a_refused, .int c_hasImage])), (a_now, .inr (6, [.ref a_now_row, .ref a_now_partners, .int c_now_askedCount, .int c_now_outcome, .ref a_now_share, .ref a_now_leftOver])), (a_now_row, .inl (E.2.1, 81, .inl c_now_row))]
def v_f_X7_rule : List Cond := List.cons (.code yX7_rule cX7_rule 2 (some .int)) (HAppend.hAppend (α := List Cond) (β := List Cond) (γ := List Cond) [.fieldLink RX7 35 "HushWatch" "now" "LHushWatch$State;", .constant RX7 113 (-100000000), .methodLink RX7 110 yX5_stands, .instanceMethod yX5_stands, .selects RX5 yX5_stands yX5_stands, .initialized RX5, .methodLink RX7 117 yX5_sites, .instanceMethod yX5_sites, .selects RX5 yX5_sites yX5_sites] (HAppend.hAppend (α := List Cond) (β := List Cond) (γ := List Cond) wsX70 (HAppend.hAppend (α := List Cond) (β := List Cond) (γ := List Cond) v_f_X5_stands (HAppend.hAppend (α := List Cond) (β := List Cond) (γ := List Cond) wsX50 (HAppend.hAppend (α := List Cond) (β := List Cond) (γ := List Cond) v_f_X5_sites [])))))
theorem gw_f_X7_rule : v_f_X7_rule.all goodWord = true := by decide +kernel
theorem i_f_X7_rule_X7 : ∀ w ∈ wsX70, w ∈ v_f_X7_rule := fun _ h => List.mem_cons_of_mem _ (List.mem_append_right _ (List.mem_append_left _ h))
theorem i_f_X7_rule_X5 : ∀ w ∈ wsX50, w ∈ v_f_X7_rule := fun _ h => List.mem_cons_of_mem _ (List.mem_append_right _ (List.mem_append_right _ (List.mem_append_right _ (List.mem_append_left _ h))))
theorem g_f_X7_rule_f_X5_stands_110 : GoodIn v_f_X7_rule (wsV RX7 110 RX5 yX5_stands v_f_X5_stands) := goodIn_app (goodIn_of _ (by decide +kernel)) (goodIn_sub (fun _ h => List.mem_cons_of_mem _ (List.mem_append_right _ (List.mem_append_right _ (List.mem_append_left _ h)))) gw_f_X5_stands)
theorem g_f_X7_rule_f_X5_sites_117 : GoodIn v_f_X7_rule (wsV RX7 117 RX5 yX5_sites v_f_X5_sites) := goodIn_app (goodIn_of _ (by decide +kernel)) (goodIn_sub (fun _ h => List.mem_cons_of_mem _ (List.mem_append_right _ (List.mem_append_right _ (List.mem_append_right _ (List.mem_append_right _ (List.mem_append_left _ h)))))) gw_f_X5_sites)
theorem hd_X7_rule : yX7_rule.cls = RX7 ∧ yX7_rule.cls ≠ "java/lang/invoke/MethodHandle" ∧ yX7_rule.cls ≠ "java/lang/invoke/VarHandle" ∧ (parseMethodDescriptor yX7_rule.desc).map (fun d => d.parameters.length) = some 1 := by decide +kernel
set_option maxHeartbeats 4000000 in
set_option maxRecDepth 100000 in
theorem f_X7_rule (l : Launch) (E : EE) {a_ a_tape a_reader a_scripts a_now a_trial a_kept a_book a_keptBook a_history a_draws a_refused a_now_row a_now_partners a_now_share a_now_leftOver : Nat} {p1 : Int32} {c_hasImage : Int32} {c_now_askedCount : Int32} {c_now_outcome : Int32} {c_now_row : Nat → Int32} {rr : Int32} (hF : F_X7_rule p1 c_now_row = some rr) : Met l yX7_rule v_f_X7_rule (({ frames := 1, cells := 0, slots := 0, locals := 20 } : Room)) (va_Pc [.ref a_, .int p1] (pP E (w_X7_rule E a_ a_tape a_reader a_scripts a_now a_trial a_kept a_book a_keptBook a_history a_draws a_refused a_now_row a_now_partners a_now_share a_now_leftOver c_hasImage c_now_askedCount c_now_outcome c_now_row))) (vp_Si (fun q : Int32 => q = rr)) 0 0 (fun _ => False) := by
  refine Met.ofW (cc := cX7_rule) (maxL := 2) (ret := (some .int)) (by decide) rfl ?_
  intro p e s m args below meth c s₁ B hml hv
  obtain ⟨rfl, ⟨hK, hN⟩, hP⟩ := hv
  have hx := B.exec
  have hb := B.bytes
  have hr := B.returns
  have hts := atoms_spec (ws := v_f_X7_rule) B.pre
  have hown : s.vm.findClass RX7 = some m.cls := own_of hd_X7_rule.1 (findClass_of_methodNamed B.named)
  have hlocks : meth.locks = false := B.notSynchronized
  replace hP : va_P E.1 vwCl [(a_, .inr (8, [.ref a_tape, .ref a_reader, .ref a_scripts, .ref a_now, .ref a_trial, .ref a_kept, .ref a_book, .ref a_keptBook, .ref a_history, .ref a_draws, .ref a_refused, .int c_hasImage])), (a_now, .inr (6, [.ref a_now_row, .ref a_now_partners, .int c_now_askedCount, .int c_now_outcome, .ref a_now_share, .ref a_now_leftOver])), (a_now_row, .inl (E.2.1, 81, .inl c_now_row))] s.heap := hP
  have hl := lv_entry ([.ref a_, .int p1]) (n := 2) (Nat.le_of_ble_eq_true rfl)
  rw [lg_entry_eq]
  generalize (lg_sl ([.ref a_, .int p1]) ++ List.replicate (2 - (lg_sl ([.ref a_, .int p1])).length) Slot.unset).toArray = ls at hl ⊢
  have hl : lv_has ls 2 [(0, .ref a_), (1, .int p1)] := hl
  obtain ⟨Q, hQ⟩ : ∃ Q : State → Prop, Q = MQ below (vp_Si (fun q : Int32 => q = rr)) #[Value.ref a_, Value.int p1] s 0 0 (fun _ => False) := ⟨_, rfl⟩
  rw [← hQ]
  change W p l e ({ frames := 1, cells := 0, slots := 0, locals := 20 } : Room) s m #[Value.ref a_, Value.int p1] below meth c s.heap [] 0 0 Q (F0 m 0 ls [])
  unfold F_X7_rule at hF
  refine lv_aload_n hx hb dX7_rule_0 rfl (lv_at hl 0 rfl) ?_
  refine gt_X7_3 (v := .ref a_now) hx hb hts i_f_X7_rule_X7 hown hK hP 0 rfl (hts (.fieldLink RX7 35 "HushWatch" "now" "LHushWatch$State;") (List.mem_of_getElem? (i := 1) rfl)) rfl dX7_rule_1 ?_
  replace hF := bd1_s hF
  obtain ⟨r_1, hc_2, hF⟩ := hF
  have hPc : va_P E.1 vwCl (w_X5_stands E a_now a_now_row a_now_partners a_now_share a_now_leftOver c_now_askedCount c_now_outcome c_now_row) s.heap := hP.sub (ws' := [(a_now, .inr (6, [.ref a_now_row, .ref a_now_partners, .int c_now_askedCount, .int c_now_outcome, .ref a_now_share, .ref a_now_leftOver])), (a_now_row, .inl (E.2.1, 81, .inl c_now_row))]) [1, 2] rfl
  have hrc := va_recv hK hPc (ci := 6) (q0 := 0) rfl rfl
  refine pE_z (va_runV (As := []) (rest := [])  ⟨hx, hb, hml, hown, hts⟩ (f_X5_stands l E (a_ := a_now) (a_row := a_now_row) (a_partners := a_now_partners) (a_share := a_now_share) (a_leftOver := a_now_leftOver) (c_askedCount := c_now_askedCount) (c_outcome := c_now_outcome) (c_row := c_now_row) hc_2) (cwV 0 hts g_f_X7_rule_f_X5_stands_110 rfl rfl rfl hd_X5_stands ⟨Nat.le_of_ble_eq_true rfl, Nat.le_of_ble_eq_true rfl⟩) ⟨pP.blind, hrc, (pP.pre ⟨hK, hN⟩ hPc)⟩ rfl rfl hl.1 rfl (lv_room (Nat.le_of_ble_eq_true rfl)) dX7_rule_4 ⟨Nat.le_of_ble_eq_true rfl, Nat.le_of_ble_eq_true rfl⟩) (fun hb_3 => ?_)
  refine lv_if_ne (tgt := 13) hx hb dX7_rule_7 (by decide) (fun c_4 => ?_) (fun c_4 => ?_)
  ·
    replace hF := inn c_4 hF
    refine lv_iload_n hx hb dX7_rule_13 rfl (lv_at hl 1 rfl) ?_
    rcases Classical.em (p1 = (0 : Int32)) with c_5_0 | c_5_0
    ·
      replace hF := ip c_5_0 hF
      refine lv_tableIn (off := 30) (tgt := 44) hx hb dX7_rule_14 (by rw [c_5_0]; decide) (by rw [c_5_0]; decide) (by rw [c_5_0]; decide) (by decide) ?_
      refine lv_aload_n hx hb dX7_rule_44 rfl (lv_at hl 0 rfl) ?_
      refine gt_X7_3 (v := .ref a_now) hx hb hts i_f_X7_rule_X7 hown hK hP 0 rfl (hts (.fieldLink RX7 35 "HushWatch" "now" "LHushWatch$State;") (List.mem_of_getElem? (i := 1) rfl)) rfl dX7_rule_45 ?_
      refine va_getN (D := E.1) (ci := 6) (v := .ref a_now_row) (C := RX5) (T := TX5) (N := 6) hx hb hts i_f_X7_rule_X5 hown hK hP 1 rfl rfl 0 (by decide) (nx hN 12 rfl) (fun _ h9 => h9) rfl dX7_rule_48 ?_
      refine lv_iconst (v := 0) hx hb dX7_rule_51 (by decide) ?_
      refine va_iald hx hb hK hP 2 0 rfl rfl (vin rfl) dX7_rule_52 ?_
      refine W.eq (g2 := F0 m 53 ls [.int (c_now_row 0)]) rfl ?_
      rw [hQ]
      obtain e9_0 := inj1 hF
      exact W.iret (v := c_now_row 0) hx hb hr (fun tt ht hW => ⟨_, rfl, e9_0, ht⟩) (fun _ h => by cases h) dX7_rule_53
    replace hF := inn c_5_0 hF
    rcases Classical.em (p1 = (1 : Int32)) with c_5_1 | c_5_1
    ·
      replace hF := ip c_5_1 hF
      refine lv_tableIn (off := 40) (tgt := 54) hx hb dX7_rule_14 (by rw [c_5_1]; decide) (by rw [c_5_1]; decide) (by rw [c_5_1]; decide) (by decide) ?_
      refine lv_aload_n hx hb dX7_rule_54 rfl (lv_at hl 0 rfl) ?_
      refine gt_X7_3 (v := .ref a_now) hx hb hts i_f_X7_rule_X7 hown hK hP 0 rfl (hts (.fieldLink RX7 35 "HushWatch" "now" "LHushWatch$State;") (List.mem_of_getElem? (i := 1) rfl)) rfl dX7_rule_55 ?_
      refine va_getN (D := E.1) (ci := 6) (v := .ref a_now_row) (C := RX5) (T := TX5) (N := 6) hx hb hts i_f_X7_rule_X5 hown hK hP 1 rfl rfl 0 (by decide) (nx hN 12 rfl) (fun _ h9 => h9) rfl dX7_rule_58 ?_
      refine lv_iconst (v := 1) hx hb dX7_rule_61 (by decide) ?_
      refine va_iald hx hb hK hP 2 0 rfl rfl (vin rfl) dX7_rule_62 ?_
      refine W.eq (g2 := F0 m 63 ls [.int (c_now_row 1)]) rfl ?_
      rw [hQ]
      obtain e9_0 := inj1 hF
      exact W.iret (v := c_now_row 1) hx hb hr (fun tt ht hW => ⟨_, rfl, e9_0, ht⟩) (fun _ h => by cases h) dX7_rule_63
    replace hF := inn c_5_1 hF
    rcases Classical.em (p1 = (2 : Int32)) with c_5_2 | c_5_2
    ·
      replace hF := ip c_5_2 hF
      refine lv_tableIn (off := 50) (tgt := 64) hx hb dX7_rule_14 (by rw [c_5_2]; decide) (by rw [c_5_2]; decide) (by rw [c_5_2]; decide) (by decide) ?_
      refine lv_aload_n hx hb dX7_rule_64 rfl (lv_at hl 0 rfl) ?_
      refine gt_X7_3 (v := .ref a_now) hx hb hts i_f_X7_rule_X7 hown hK hP 0 rfl (hts (.fieldLink RX7 35 "HushWatch" "now" "LHushWatch$State;") (List.mem_of_getElem? (i := 1) rfl)) rfl dX7_rule_65 ?_
      refine va_getN (D := E.1) (ci := 6) (v := .ref a_now_row) (C := RX5) (T := TX5) (N := 6) hx hb hts i_f_X7_rule_X5 hown hK hP 1 rfl rfl 0 (by decide) (nx hN 12 rfl) (fun _ h9 => h9) rfl dX7_rule_68 ?_
      refine lv_iconst (v := 2) hx hb dX7_rule_71 (by decide) ?_
      refine va_iald hx hb hK hP 2 0 rfl rfl (vin rfl) dX7_rule_72 ?_
      refine W.eq (g2 := F0 m 73 ls [.int (c_now_row 2)]) rfl ?_
      rw [hQ]
      obtain e9_0 := inj1 hF
      exact W.iret (v := c_now_row 2) hx hb hr (fun tt ht hW => ⟨_, rfl, e9_0, ht⟩) (fun _ h => by cases h) dX7_rule_73
    replace hF := inn c_5_2 hF
    rcases Classical.em (p1 = (3 : Int32)) with c_5_3 | c_5_3
    ·
      replace hF := ip c_5_3 hF
      refine lv_tableIn (off := 60) (tgt := 74) hx hb dX7_rule_14 (by rw [c_5_3]; decide) (by rw [c_5_3]; decide) (by rw [c_5_3]; decide) (by decide) ?_
      refine lv_aload_n hx hb dX7_rule_74 rfl (lv_at hl 0 rfl) ?_
      refine gt_X7_3 (v := .ref a_now) hx hb hts i_f_X7_rule_X7 hown hK hP 0 rfl (hts (.fieldLink RX7 35 "HushWatch" "now" "LHushWatch$State;") (List.mem_of_getElem? (i := 1) rfl)) rfl dX7_rule_75 ?_
      replace hF := bd1_s hF
      obtain ⟨r_6, hc_7, hF⟩ := hF
      have hPc : va_P E.1 vwCl (w_X5_sites E a_now a_now_row a_now_partners a_now_share a_now_leftOver c_now_askedCount c_now_outcome c_now_row) s.heap := hP.sub (ws' := [(a_now, .inr (6, [.ref a_now_row, .ref a_now_partners, .int c_now_askedCount, .int c_now_outcome, .ref a_now_share, .ref a_now_leftOver])), (a_now_row, .inl (E.2.1, 81, .inl c_now_row))]) [1, 2] rfl
      have hrc := va_recv hK hPc (ci := 6) (q0 := 0) rfl rfl
      refine pE_i (va_runV (As := []) (rest := [])  ⟨hx, hb, hml, hown, hts⟩ (f_X5_sites l E (a_ := a_now) (a_row := a_now_row) (a_partners := a_now_partners) (a_share := a_now_share) (a_leftOver := a_now_leftOver) (c_askedCount := c_now_askedCount) (c_outcome := c_now_outcome) (c_row := c_now_row) hc_7) (cwV 0 hts g_f_X7_rule_f_X5_sites_117 rfl rfl rfl hd_X5_sites ⟨Nat.le_of_ble_eq_true rfl, Nat.le_of_ble_eq_true rfl⟩) ⟨pP.blind, hrc, (pP.pre ⟨hK, hN⟩ hPc)⟩ rfl rfl hl.1 rfl (lv_room (Nat.le_of_ble_eq_true rfl)) dX7_rule_78 ⟨Nat.le_of_ble_eq_true rfl, Nat.le_of_ble_eq_true rfl⟩) ?_
      rw [hQ]
      obtain e9_0 := inj1 hF
      exact W.iret (v := r_6) hx hb hr (fun tt ht hW => ⟨_, rfl, e9_0, ht⟩) (fun _ h => by cases h) dX7_rule_81
    replace hF := inn c_5_3 hF
    refine lv_tableOut (tgt := 82) hx hb dX7_rule_14 (by have t0 : (0 : Int32).toInt = 0 := (by decide); have t1 : (1 : Int32).toInt = 1 := (by decide); have t2 : (2 : Int32).toInt = 2 := (by decide); have t3 : (3 : Int32).toInt = 3 := (by decide); simp only [← Int32.toInt_inj, t0, t1, t2, t3] at c_5_0 c_5_1 c_5_2 c_5_3; omega) (by decide) ?_
    refine lv_ldc (v := -100000000) hx hb hown (hts (.constant RX7 113 (-100000000)) (List.mem_of_getElem? (i := 2) rfl)) dX7_rule_82 ?_
    rw [hQ]
    obtain e9_0 := inj1 hF
    exact W.iret (v := (-100000000 : Int32)) hx hb hr (fun tt ht hW => ⟨_, rfl, e9_0, ht⟩) (fun _ h => by cases h) dX7_rule_84
  ·
    replace hF := ip c_4 hF
    refine lv_ldc (v := -100000000) hx hb hown (hts (.constant RX7 113 (-100000000)) (List.mem_of_getElem? (i := 2) rfl)) dX7_rule_10 ?_
    rw [hQ]
    obtain e9_0 := inj1 hF
    exact W.iret (v := (-100000000 : Int32)) hx hb hr (fun tt ht hW => ⟨_, rfl, e9_0, ht⟩) (fun _ h => by cases h) dX7_rule_12

def F_X7_tryStep (K : Nat) (p1 : Int32) (p2 : Int32) (c_scripts_steps : Nat → Int32) (c_scripts_counts : Nat → Int32) (c_scripts_held : Int32) (c_trial_row : Nat → Int32) (c_trial_partners : Nat → Int32) (c_trial_askedCount : Int32) (c_trial_outcome : Int32) (c_trial_share : Nat → Int32) (c_trial_leftOver : Nat → Int32) : Option (Int32 × (Nat → Int32) × (Nat → Int32) × Int32 × Int32 × (Nat → Int32) × (Nat → Int32)) :=
  bd1 (F_X4_sortOf p1 p2 c_scripts_steps c_scripts_counts c_scripts_held) (fun r_1 => bd1 (F_X4_read p1 p2 (1 : Int32) c_scripts_steps c_scripts_counts c_scripts_held) (fun r_3 => bd1 (F_X4_read p1 p2 (2 : Int32) c_scripts_steps c_scripts_counts c_scripts_held) (fun r_5 => bd1 (F_X4_read p1 p2 (3 : Int32) c_scripts_steps c_scripts_counts c_scripts_held) (fun r_7 => bd1 (F_X5_refusal r_1 r_3 r_5 r_7 c_trial_row) (fun r_9 => if r_9 = (-1 : Int32) then bd7 (F_X5_doAct K r_1 r_3 r_5 r_7 c_trial_row c_trial_partners c_trial_askedCount c_trial_outcome c_trial_share c_trial_leftOver) (fun r_12 w_13 w_14 w_15 w_16 w_17 w_18 => some ((1 : Int32), w_13, w_14, w_15, w_16, w_17, w_18)) else some ((0 : Int32), c_trial_row, c_trial_partners, c_trial_askedCount, c_trial_outcome, c_trial_share, c_trial_leftOver))))))
abbrev w_X7_tryStep (E : EE) (a_ a_tape a_reader a_scripts a_now a_trial a_kept a_book a_keptBook a_history a_draws a_refused a_scripts_steps a_scripts_counts a_trial_row a_trial_partners a_trial_share a_trial_leftOver : Nat) (c_hasImage : Int32) (c_scripts_held : Int32) (c_scripts_steps : Nat → Int32) (c_scripts_counts : Nat → Int32) (c_trial_askedCount : Int32) (c_trial_outcome : Int32) (c_trial_row : Nat → Int32) (c_trial_partners : Nat → Int32) (c_trial_share : Nat → Int32) (c_trial_leftOver : Nat → Int32) : va_W := [(a_, .inr (8, [.ref a_tape, .ref a_reader, .ref a_scripts, .ref a_now, .ref a_trial, .ref a_kept, .ref a_book, .ref a_keptBook, .ref a_history, .ref a_draws, .ref a_refused, .int c_hasImage])), (a_scripts, .inr (5, [.ref a_scripts_steps, .ref a_scripts_counts, .int c_scripts_held])), (a_scripts_steps, .inl (E.2.1, 192, .inl c_scripts_steps)), (a_scripts_counts, .inl (E.2.1, 4, .inl c_scripts_counts)), (a_trial, .inr (6, [.ref a_trial_row, .ref a_trial_partners, .int c_trial_askedCount, .int c_trial_outcome, .ref a_trial_share, .ref a_trial_leftOver])), (a_trial_row, .inl (E.2.1, 81, .inl c_trial_row)), (a_trial_partners, .inl (E.2.1, 8, .inl c_trial_partners)), (a_trial_share, .inl (E.2.1, 2, .inl c_trial_share)), (a_trial_leftOver, .inl (E.2.1, 2, .inl c_trial_leftOver))]
def v_f_X7_tryStep : List Cond := List.cons (.code yX7_tryStep cX7_tryStep 7 (some .boolean)) (HAppend.hAppend (α := List Cond) (β := List Cond) (γ := List Cond) [.fieldLink RX7 28 "HushWatch" "scripts" "LHushWatch$Scripts;", .fieldLink RX7 39 "HushWatch" "trial" "LHushWatch$State;", .methodLink RX7 299 yX4_sortOf, .instanceMethod yX4_sortOf, .selects RX4 yX4_sortOf yX4_sortOf, .initialized RX4, .methodLink RX7 288 yX4_read, .instanceMethod yX4_read, .selects RX4 yX4_read yX4_read, .methodLink RX7 220 yX5_refusal, .instanceMethod yX5_refusal, .selects RX5 yX5_refusal yX5_refusal, .initialized RX5, .methodLink RX7 241 yX5_doAct, .instanceMethod yX5_doAct, .selects RX5 yX5_doAct yX5_doAct] (HAppend.hAppend (α := List Cond) (β := List Cond) (γ := List Cond) wsX70 (HAppend.hAppend (α := List Cond) (β := List Cond) (γ := List Cond) v_f_X4_sortOf (HAppend.hAppend (α := List Cond) (β := List Cond) (γ := List Cond) v_f_X4_read (HAppend.hAppend (α := List Cond) (β := List Cond) (γ := List Cond) v_f_X5_refusal (HAppend.hAppend (α := List Cond) (β := List Cond) (γ := List Cond) v_f_X5_doAct []))))))
theorem gw_f_X7_tryStep : v_f_X7_tryStep.all goodWord = true := by decide +kernel
theorem i_f_X7_tryStep_X7 : ∀ w ∈ wsX70, w ∈ v_f_X7_tryStep := fun _ h => List.mem_cons_of_mem _ (List.mem_append_right _ (List.mem_append_left _ h))
theorem g_f_X7_tryStep_f_X4_sortOf_299 : GoodIn v_f_X7_tryStep (wsV RX7 299 RX4 yX4_sortOf v_f_X4_sortOf) := goodIn_app (goodIn_of _ (by decide +kernel)) (goodIn_sub (fun _ h => List.mem_cons_of_mem _ (List.mem_append_right _ (List.mem_append_right _ (List.mem_append_left _ h)))) gw_f_X4_sortOf)
theorem g_f_X7_tryStep_f_X4_read_288 : GoodIn v_f_X7_tryStep (wsV RX7 288 RX4 yX4_read v_f_X4_read) := goodIn_app (goodIn_of _ (by decide +kernel)) (goodIn_sub (fun _ h => List.mem_cons_of_mem _ (List.mem_append_right _ (List.mem_append_right _ (List.mem_append_right _ (List.mem_append_left _ h))))) gw_f_X4_read)
theorem g_f_X7_tryStep_f_X5_refusal_220 : GoodIn v_f_X7_tryStep (wsV RX7 220 RX5 yX5_refusal v_f_X5_refusal) := goodIn_app (goodIn_of _ (by decide +kernel)) (goodIn_sub (fun _ h => List.mem_cons_of_mem _ (List.mem_append_right _ (List.mem_append_right _ (List.mem_append_right _ (List.mem_append_right _ (List.mem_append_left _ h)))))) gw_f_X5_refusal)
theorem g_f_X7_tryStep_f_X5_doAct_241 : GoodIn v_f_X7_tryStep (wsV RX7 241 RX5 yX5_doAct v_f_X5_doAct) := goodIn_app (goodIn_of _ (by decide +kernel)) (goodIn_sub (fun _ h => List.mem_cons_of_mem _ (List.mem_append_right _ (List.mem_append_right _ (List.mem_append_right _ (List.mem_append_right _ (List.mem_append_right _ (List.mem_append_left _ h))))))) gw_f_X5_doAct)
theorem hd_X7_tryStep : yX7_tryStep.cls = RX7 ∧ yX7_tryStep.cls ≠ "java/lang/invoke/MethodHandle" ∧ yX7_tryStep.cls ≠ "java/lang/invoke/VarHandle" ∧ (parseMethodDescriptor yX7_tryStep.desc).map (fun d => d.parameters.length) = some 2 := by decide +kernel
set_option maxHeartbeats 4000000 in
set_option maxRecDepth 100000 in
theorem f_X7_tryStep (l : Launch) (E : EE) (sz : Nat) (K : Nat) (z9 : Nat → Nat) {a_ a_tape a_reader a_scripts a_now a_trial a_kept a_book a_keptBook a_history a_draws a_refused a_scripts_steps a_scripts_counts a_trial_row a_trial_partners a_trial_share a_trial_leftOver : Nat} {p1 : Int32} {p2 : Int32} {c_hasImage : Int32} {c_scripts_held : Int32} {c_scripts_steps : Nat → Int32} {c_scripts_counts : Nat → Int32} {c_trial_askedCount : Int32} {c_trial_outcome : Int32} {c_trial_row : Nat → Int32} {c_trial_partners : Nat → Int32} {c_trial_share : Nat → Int32} {c_trial_leftOver : Nat → Int32} {rr : Int32} {n_trial_row : Nat → Int32} {n_trial_partners : Nat → Int32} {n_trial_askedCount : Int32} {n_trial_outcome : Int32} {n_trial_share : Nat → Int32} {n_trial_leftOver : Nat → Int32} (hF : F_X7_tryStep K p1 p2 c_scripts_steps c_scripts_counts c_scripts_held c_trial_row c_trial_partners c_trial_askedCount c_trial_outcome c_trial_share c_trial_leftOver = some (rr, n_trial_row, n_trial_partners, n_trial_askedCount, n_trial_outcome, n_trial_share, n_trial_leftOver)) : Met l yX7_tryStep v_f_X7_tryStep (({ frames := 5, cells := 0, slots := 0, locals := 124 } : Room)) (va_Pc [.ref a_, .int p1, .int p2] (qWZ E z9 sz (w_X7_tryStep E a_ a_tape a_reader a_scripts a_now a_trial a_kept a_book a_keptBook a_history a_draws a_refused a_scripts_steps a_scripts_counts a_trial_row a_trial_partners a_trial_share a_trial_leftOver c_hasImage c_scripts_held c_scripts_steps c_scripts_counts c_trial_askedCount c_trial_outcome c_trial_row c_trial_partners c_trial_share c_trial_leftOver))) (va_Qi (fun (q : Int32) (_u : Unit) => q = rr ∧ (q = 0 ∨ q = 1)) (fun (_u : Unit) tt => va_P E.1 vwCl (w_X7_tryStep E a_ a_tape a_reader a_scripts a_now a_trial a_kept a_book a_keptBook a_history a_draws a_refused a_scripts_steps a_scripts_counts a_trial_row a_trial_partners a_trial_share a_trial_leftOver c_hasImage c_scripts_held c_scripts_steps c_scripts_counts n_trial_askedCount n_trial_outcome n_trial_row n_trial_partners n_trial_share n_trial_leftOver) tt.heap ∧ va_D (va_A (w_X7_tryStep E a_ a_tape a_reader a_scripts a_now a_trial a_kept a_book a_keptBook a_history a_draws a_refused a_scripts_steps a_scripts_counts a_trial_row a_trial_partners a_trial_share a_trial_leftOver c_hasImage c_scripts_held c_scripts_steps c_scripts_counts c_trial_askedCount c_trial_outcome c_trial_row c_trial_partners c_trial_share c_trial_leftOver) sz) (w_X7_tryStep E a_ a_tape a_reader a_scripts a_now a_trial a_kept a_book a_keptBook a_history a_draws a_refused a_scripts_steps a_scripts_counts a_trial_row a_trial_partners a_trial_share a_trial_leftOver c_hasImage c_scripts_held c_scripts_steps c_scripts_counts n_trial_askedCount n_trial_outcome n_trial_row n_trial_partners n_trial_share n_trial_leftOver)) (va_A (w_X7_tryStep E a_ a_tape a_reader a_scripts a_now a_trial a_kept a_book a_keptBook a_history a_draws a_refused a_scripts_steps a_scripts_counts a_trial_row a_trial_partners a_trial_share a_trial_leftOver c_hasImage c_scripts_held c_scripts_steps c_scripts_counts c_trial_askedCount c_trial_outcome c_trial_row c_trial_partners c_trial_share c_trial_leftOver) sz)) 0 0 (va_A (w_X7_tryStep E a_ a_tape a_reader a_scripts a_now a_trial a_kept a_book a_keptBook a_history a_draws a_refused a_scripts_steps a_scripts_counts a_trial_row a_trial_partners a_trial_share a_trial_leftOver c_hasImage c_scripts_held c_scripts_steps c_scripts_counts c_trial_askedCount c_trial_outcome c_trial_row c_trial_partners c_trial_share c_trial_leftOver) sz) := by
  refine Met.ofW (cc := cX7_tryStep) (maxL := 7) (ret := (some .boolean)) (by decide) rfl ?_
  intro p e s m args below meth c s₁ B hml hv
  obtain ⟨rfl, hsz, ⟨hK, hN⟩, hP, hD0, hZ⟩ := hv
  have hx := B.exec
  have hb := B.bytes
  have hr := B.returns
  have hts := atoms_spec (ws := v_f_X7_tryStep) B.pre
  have hown : s.vm.findClass RX7 = some m.cls := own_of hd_X7_tryStep.1 (findClass_of_methodNamed B.named)
  have hlocks : meth.locks = false := B.notSynchronized
  subst hsz
  have hD := hD0.self (sz := s.heap.size)
  generalize hAe : va_A (w_X7_tryStep E a_ a_tape a_reader a_scripts a_now a_trial a_kept a_book a_keptBook a_history a_draws a_refused a_scripts_steps a_scripts_counts a_trial_row a_trial_partners a_trial_share a_trial_leftOver c_hasImage c_scripts_held c_scripts_steps c_scripts_counts c_trial_askedCount c_trial_outcome c_trial_row c_trial_partners c_trial_share c_trial_leftOver) s.heap.size = A at hD hZ ⊢
  have hA : ∀ q : Nat, s.heap.size ≤ q → A q := fun q h => by rw [← hAe]; exact Or.inr h
  have hS : va_S A s.heap s.heap [] := va_S.rf
  have hl := lv_entry ([.ref a_, .int p1, .int p2]) (n := 7) (Nat.le_of_ble_eq_true rfl)
  rw [lg_entry_eq]
  generalize (lg_sl ([.ref a_, .int p1, .int p2]) ++ List.replicate (7 - (lg_sl ([.ref a_, .int p1, .int p2])).length) Slot.unset).toArray = ls at hl ⊢
  have hl : lv_has ls 7 [(0, .ref a_), (1, .int p1), (2, .int p2)] := hl
  obtain ⟨Q, hQ⟩ : ∃ Q : State → Prop, Q = MQ below (va_Qi (fun (q : Int32) (_u : Unit) => q = rr ∧ (q = 0 ∨ q = 1)) (fun (_u : Unit) tt => va_P E.1 vwCl (w_X7_tryStep E a_ a_tape a_reader a_scripts a_now a_trial a_kept a_book a_keptBook a_history a_draws a_refused a_scripts_steps a_scripts_counts a_trial_row a_trial_partners a_trial_share a_trial_leftOver c_hasImage c_scripts_held c_scripts_steps c_scripts_counts n_trial_askedCount n_trial_outcome n_trial_row n_trial_partners n_trial_share n_trial_leftOver) tt.heap ∧ va_D A (w_X7_tryStep E a_ a_tape a_reader a_scripts a_now a_trial a_kept a_book a_keptBook a_history a_draws a_refused a_scripts_steps a_scripts_counts a_trial_row a_trial_partners a_trial_share a_trial_leftOver c_hasImage c_scripts_held c_scripts_steps c_scripts_counts n_trial_askedCount n_trial_outcome n_trial_row n_trial_partners n_trial_share n_trial_leftOver)) A) #[Value.ref a_, Value.int p1, Value.int p2] s 0 0 A := ⟨_, rfl⟩
  rw [← hQ]
  change W p l e ({ frames := 5, cells := 0, slots := 0, locals := 124 } : Room) s m #[Value.ref a_, Value.int p1, Value.int p2] below meth c s.heap [] 0 0 Q (F0 m 0 ls [])
  suffices hh9 : ∀ (H : Heap) (locs : List Loc), va_P E.1 vwCl (w_X7_tryStep E a_ a_tape a_reader a_scripts a_now a_trial a_kept a_book a_keptBook a_history a_draws a_refused a_scripts_steps a_scripts_counts a_trial_row a_trial_partners a_trial_share a_trial_leftOver c_hasImage c_scripts_held c_scripts_steps c_scripts_counts c_trial_askedCount c_trial_outcome c_trial_row c_trial_partners c_trial_share c_trial_leftOver) H → va_D A (w_X7_tryStep E a_ a_tape a_reader a_scripts a_now a_trial a_kept a_book a_keptBook a_history a_draws a_refused a_scripts_steps a_scripts_counts a_trial_row a_trial_partners a_trial_share a_trial_leftOver c_hasImage c_scripts_held c_scripts_steps c_scripts_counts c_trial_askedCount c_trial_outcome c_trial_row c_trial_partners c_trial_share c_trial_leftOver) → va_S A s.heap H locs → W p l e ({ frames := 5, cells := 0, slots := 0, locals := 124 } : Room) s m #[Value.ref a_, Value.int p1, Value.int p2] below meth c H locs 0 0 Q (F0 m 0 ls []) from hh9 s.heap [] hP hD hS
  clear hP hD hS
  intro H locs hP hD hS
  replace hP : va_P E.1 vwCl [(a_, .inr (8, [.ref a_tape, .ref a_reader, .ref a_scripts, .ref a_now, .ref a_trial, .ref a_kept, .ref a_book, .ref a_keptBook, .ref a_history, .ref a_draws, .ref a_refused, .int c_hasImage])), (a_scripts, .inr (5, [.ref a_scripts_steps, .ref a_scripts_counts, .int c_scripts_held])), (a_scripts_steps, .inl (E.2.1, 192, .inl c_scripts_steps)), (a_scripts_counts, .inl (E.2.1, 4, .inl c_scripts_counts)), (a_trial, .inr (6, [.ref a_trial_row, .ref a_trial_partners, .int c_trial_askedCount, .int c_trial_outcome, .ref a_trial_share, .ref a_trial_leftOver])), (a_trial_row, .inl (E.2.1, 81, .inl c_trial_row)), (a_trial_partners, .inl (E.2.1, 8, .inl c_trial_partners)), (a_trial_share, .inl (E.2.1, 2, .inl c_trial_share)), (a_trial_leftOver, .inl (E.2.1, 2, .inl c_trial_leftOver))] H := hP
  replace hD : va_D A [(a_, .inr (8, [.ref a_tape, .ref a_reader, .ref a_scripts, .ref a_now, .ref a_trial, .ref a_kept, .ref a_book, .ref a_keptBook, .ref a_history, .ref a_draws, .ref a_refused, .int c_hasImage])), (a_scripts, .inr (5, [.ref a_scripts_steps, .ref a_scripts_counts, .int c_scripts_held])), (a_scripts_steps, .inl (E.2.1, 192, .inl c_scripts_steps)), (a_scripts_counts, .inl (E.2.1, 4, .inl c_scripts_counts)), (a_trial, .inr (6, [.ref a_trial_row, .ref a_trial_partners, .int c_trial_askedCount, .int c_trial_outcome, .ref a_trial_share, .ref a_trial_leftOver])), (a_trial_row, .inl (E.2.1, 81, .inl c_trial_row)), (a_trial_partners, .inl (E.2.1, 8, .inl c_trial_partners)), (a_trial_share, .inl (E.2.1, 2, .inl c_trial_share)), (a_trial_leftOver, .inl (E.2.1, 2, .inl c_trial_leftOver))] := hD
  unfold F_X7_tryStep at hF
  refine lv_aload_n hx hb dX7_tryStep_0 rfl (lv_at hl 0 rfl) ?_
  refine gt_X7_2 (v := .ref a_scripts) hx hb hts i_f_X7_tryStep_X7 hown hK hP 0 rfl (hts (.fieldLink RX7 28 "HushWatch" "scripts" "LHushWatch$Scripts;") (List.mem_of_getElem? (i := 1) rfl)) rfl dX7_tryStep_1 ?_
  refine lv_iload_n hx hb dX7_tryStep_4 rfl (lv_at hl 1 rfl) ?_
  refine lv_iload_n hx hb dX7_tryStep_5 rfl (lv_at hl 2 rfl) ?_
  replace hF := bd1_s hF
  obtain ⟨r_1, hc_2, hF⟩ := hF
  have hPc : va_P E.1 vwCl (w_X4_sortOf E a_scripts a_scripts_steps a_scripts_counts c_scripts_held c_scripts_steps c_scripts_counts) H := hP.sub (ws' := [(a_scripts, .inr (5, [.ref a_scripts_steps, .ref a_scripts_counts, .int c_scripts_held])), (a_scripts_steps, .inl (E.2.1, 192, .inl c_scripts_steps)), (a_scripts_counts, .inl (E.2.1, 4, .inl c_scripts_counts))]) [1, 2, 3] rfl
  have hrc := va_recv hK hPc (ci := 5) (q0 := 0) rfl rfl
  refine pE_i (va_runV (As := [.int p1, .int p2]) (rest := [])  ⟨hx, hb, hml, hown, hts⟩ (f_X4_sortOf l E z9 (a_ := a_scripts) (a_steps := a_scripts_steps) (a_counts := a_scripts_counts) (p1 := p1) (p2 := p2) (c_held := c_scripts_held) (c_steps := c_scripts_steps) (c_counts := c_scripts_counts) hc_2) (cwV 2 hts g_f_X7_tryStep_f_X4_sortOf_299 rfl rfl rfl hd_X4_sortOf ⟨Nat.le_of_ble_eq_true rfl, Nat.le_of_ble_eq_true rfl⟩) ⟨qPZ.blind, hrc, (qPZ.pre ⟨hK, hN⟩ hPc hZ hS)⟩ rfl rfl hl.1 rfl (lv_room (Nat.le_of_ble_eq_true rfl)) dX7_tryStep_6 ⟨Nat.le_of_ble_eq_true rfl, Nat.le_of_ble_eq_true rfl⟩) ?_
  refine lv_istore_n (lv' := [(3, .int r_1), (0, .ref a_), (1, .int p1), (2, .int p2)]) hx hb dX7_tryStep_9 rfl hl (by decide) rfl (fun ls hl => ?_)
  refine lv_aload_n hx hb dX7_tryStep_10 rfl (lv_at hl 1 rfl) ?_
  refine gt_X7_2 (v := .ref a_scripts) hx hb hts i_f_X7_tryStep_X7 hown hK hP 0 rfl (hts (.fieldLink RX7 28 "HushWatch" "scripts" "LHushWatch$Scripts;") (List.mem_of_getElem? (i := 1) rfl)) rfl dX7_tryStep_11 ?_
  refine lv_iload_n hx hb dX7_tryStep_14 rfl (lv_at hl 2 rfl) ?_
  refine lv_iload_n hx hb dX7_tryStep_15 rfl (lv_at hl 3 rfl) ?_
  refine lv_iconst (v := 1) hx hb dX7_tryStep_16 (by decide) ?_
  replace hF := bd1_s hF
  obtain ⟨r_3, hc_4, hF⟩ := hF
  have hPc : va_P E.1 vwCl (w_X4_read E a_scripts a_scripts_steps a_scripts_counts c_scripts_held c_scripts_steps c_scripts_counts) H := hP.sub (ws' := [(a_scripts, .inr (5, [.ref a_scripts_steps, .ref a_scripts_counts, .int c_scripts_held])), (a_scripts_steps, .inl (E.2.1, 192, .inl c_scripts_steps)), (a_scripts_counts, .inl (E.2.1, 4, .inl c_scripts_counts))]) [1, 2, 3] rfl
  have hrc := va_recv hK hPc (ci := 5) (q0 := 0) rfl rfl
  refine pE_i (va_runV (As := [.int p1, .int p2, .int (1 : Int32)]) (rest := [])  ⟨hx, hb, hml, hown, hts⟩ (f_X4_read l E (a_ := a_scripts) (a_steps := a_scripts_steps) (a_counts := a_scripts_counts) (p1 := p1) (p2 := p2) (p3 := (1 : Int32)) (c_held := c_scripts_held) (c_steps := c_scripts_steps) (c_counts := c_scripts_counts) hc_4) (cwV 3 hts g_f_X7_tryStep_f_X4_read_288 rfl rfl rfl hd_X4_read ⟨Nat.le_of_ble_eq_true rfl, Nat.le_of_ble_eq_true rfl⟩) ⟨pP.blind, hrc, (pP.pre ⟨hK, hN⟩ hPc)⟩ rfl rfl hl.1 rfl (lv_room (Nat.le_of_ble_eq_true rfl)) dX7_tryStep_17 ⟨Nat.le_of_ble_eq_true rfl, Nat.le_of_ble_eq_true rfl⟩) ?_
  refine lv_istore (lv' := [(4, .int r_3), (3, .int r_1), (0, .ref a_), (1, .int p1), (2, .int p2)]) hx hb dX7_tryStep_20 hl (by decide) rfl (fun ls hl => ?_)
  refine lv_aload_n hx hb dX7_tryStep_22 rfl (lv_at hl 2 rfl) ?_
  refine gt_X7_2 (v := .ref a_scripts) hx hb hts i_f_X7_tryStep_X7 hown hK hP 0 rfl (hts (.fieldLink RX7 28 "HushWatch" "scripts" "LHushWatch$Scripts;") (List.mem_of_getElem? (i := 1) rfl)) rfl dX7_tryStep_23 ?_
  refine lv_iload_n hx hb dX7_tryStep_26 rfl (lv_at hl 3 rfl) ?_
  refine lv_iload_n hx hb dX7_tryStep_27 rfl (lv_at hl 4 rfl) ?_
  refine lv_iconst (v := 2) hx hb dX7_tryStep_28 (by decide) ?_
  replace hF := bd1_s hF
  obtain ⟨r_5, hc_6, hF⟩ := hF
  have hPc : va_P E.1 vwCl (w_X4_read E a_scripts a_scripts_steps a_scripts_counts c_scripts_held c_scripts_steps c_scripts_counts) H := hP.sub (ws' := [(a_scripts, .inr (5, [.ref a_scripts_steps, .ref a_scripts_counts, .int c_scripts_held])), (a_scripts_steps, .inl (E.2.1, 192, .inl c_scripts_steps)), (a_scripts_counts, .inl (E.2.1, 4, .inl c_scripts_counts))]) [1, 2, 3] rfl
  have hrc := va_recv hK hPc (ci := 5) (q0 := 0) rfl rfl
  refine pE_i (va_runV (As := [.int p1, .int p2, .int (2 : Int32)]) (rest := [])  ⟨hx, hb, hml, hown, hts⟩ (f_X4_read l E (a_ := a_scripts) (a_steps := a_scripts_steps) (a_counts := a_scripts_counts) (p1 := p1) (p2 := p2) (p3 := (2 : Int32)) (c_held := c_scripts_held) (c_steps := c_scripts_steps) (c_counts := c_scripts_counts) hc_6) (cwV 3 hts g_f_X7_tryStep_f_X4_read_288 rfl rfl rfl hd_X4_read ⟨Nat.le_of_ble_eq_true rfl, Nat.le_of_ble_eq_true rfl⟩) ⟨pP.blind, hrc, (pP.pre ⟨hK, hN⟩ hPc)⟩ rfl rfl hl.1 rfl (lv_room (Nat.le_of_ble_eq_true rfl)) dX7_tryStep_29 ⟨Nat.le_of_ble_eq_true rfl, Nat.le_of_ble_eq_true rfl⟩) ?_
  refine lv_istore (lv' := [(5, .int r_5), (4, .int r_3), (3, .int r_1), (0, .ref a_), (1, .int p1), (2, .int p2)]) hx hb dX7_tryStep_32 hl (by decide) rfl (fun ls hl => ?_)
  refine lv_aload_n hx hb dX7_tryStep_34 rfl (lv_at hl 3 rfl) ?_
  refine gt_X7_2 (v := .ref a_scripts) hx hb hts i_f_X7_tryStep_X7 hown hK hP 0 rfl (hts (.fieldLink RX7 28 "HushWatch" "scripts" "LHushWatch$Scripts;") (List.mem_of_getElem? (i := 1) rfl)) rfl dX7_tryStep_35 ?_
  refine lv_iload_n hx hb dX7_tryStep_38 rfl (lv_at hl 4 rfl) ?_
  refine lv_iload_n hx hb dX7_tryStep_39 rfl (lv_at hl 5 rfl) ?_
  refine lv_iconst (v := 3) hx hb dX7_tryStep_40 (by decide) ?_
  replace hF := bd1_s hF
  obtain ⟨r_7, hc_8, hF⟩ := hF
  have hPc : va_P E.1 vwCl (w_X4_read E a_scripts a_scripts_steps a_scripts_counts c_scripts_held c_scripts_steps c_scripts_counts) H := hP.sub (ws' := [(a_scripts, .inr (5, [.ref a_scripts_steps, .ref a_scripts_counts, .int c_scripts_held])), (a_scripts_steps, .inl (E.2.1, 192, .inl c_scripts_steps)), (a_scripts_counts, .inl (E.2.1, 4, .inl c_scripts_counts))]) [1, 2, 3] rfl
  have hrc := va_recv hK hPc (ci := 5) (q0 := 0) rfl rfl
  refine pE_i (va_runV (As := [.int p1, .int p2, .int (3 : Int32)]) (rest := [])  ⟨hx, hb, hml, hown, hts⟩ (f_X4_read l E (a_ := a_scripts) (a_steps := a_scripts_steps) (a_counts := a_scripts_counts) (p1 := p1) (p2 := p2) (p3 := (3 : Int32)) (c_held := c_scripts_held) (c_steps := c_scripts_steps) (c_counts := c_scripts_counts) hc_8) (cwV 3 hts g_f_X7_tryStep_f_X4_read_288 rfl rfl rfl hd_X4_read ⟨Nat.le_of_ble_eq_true rfl, Nat.le_of_ble_eq_true rfl⟩) ⟨pP.blind, hrc, (pP.pre ⟨hK, hN⟩ hPc)⟩ rfl rfl hl.1 rfl (lv_room (Nat.le_of_ble_eq_true rfl)) dX7_tryStep_41 ⟨Nat.le_of_ble_eq_true rfl, Nat.le_of_ble_eq_true rfl⟩) ?_
  refine lv_istore (lv' := [(6, .int r_7), (5, .int r_5), (4, .int r_3), (3, .int r_1), (0, .ref a_), (1, .int p1), (2, .int p2)]) hx hb dX7_tryStep_44 hl (by decide) rfl (fun ls hl => ?_)
  refine lv_aload_n hx hb dX7_tryStep_46 rfl (lv_at hl 4 rfl) ?_
  refine gt_X7_4 (v := .ref a_trial) hx hb hts i_f_X7_tryStep_X7 hown hK hP 0 rfl (hts (.fieldLink RX7 39 "HushWatch" "trial" "LHushWatch$State;") (List.mem_of_getElem? (i := 2) rfl)) rfl dX7_tryStep_47 ?_
  refine lv_iload_n hx hb dX7_tryStep_50 rfl (lv_at hl 3 rfl) ?_
  refine lv_iload hx hb dX7_tryStep_51 (lv_at hl 2 rfl) ?_
  refine lv_iload hx hb dX7_tryStep_53 (lv_at hl 1 rfl) ?_
  refine lv_iload hx hb dX7_tryStep_55 (lv_at hl 0 rfl) ?_
  replace hF := bd1_s hF
  obtain ⟨r_9, hc_10, hF⟩ := hF
  have hPc : va_P E.1 vwCl (w_X5_refusal E a_trial a_trial_row a_trial_partners a_trial_share a_trial_leftOver c_trial_askedCount c_trial_outcome c_trial_row) H := hP.sub (ws' := [(a_trial, .inr (6, [.ref a_trial_row, .ref a_trial_partners, .int c_trial_askedCount, .int c_trial_outcome, .ref a_trial_share, .ref a_trial_leftOver])), (a_trial_row, .inl (E.2.1, 81, .inl c_trial_row))]) [4, 5] rfl
  have hrc := va_recv hK hPc (ci := 6) (q0 := 0) rfl rfl
  refine pE_i (va_runV (As := [.int r_1, .int r_3, .int r_5, .int r_7]) (rest := [])  ⟨hx, hb, hml, hown, hts⟩ (f_X5_refusal l E (a_ := a_trial) (a_row := a_trial_row) (a_partners := a_trial_partners) (a_share := a_trial_share) (a_leftOver := a_trial_leftOver) (p1 := r_1) (p2 := r_3) (p3 := r_5) (p4 := r_7) (c_askedCount := c_trial_askedCount) (c_outcome := c_trial_outcome) (c_row := c_trial_row) hc_10) (cwV 4 hts g_f_X7_tryStep_f_X5_refusal_220 rfl rfl rfl hd_X5_refusal ⟨Nat.le_of_ble_eq_true rfl, Nat.le_of_ble_eq_true rfl⟩) ⟨pP.blind, hrc, (pP.pre ⟨hK, hN⟩ hPc)⟩ rfl rfl hl.1 rfl (lv_room (Nat.le_of_ble_eq_true rfl)) dX7_tryStep_57 ⟨Nat.le_of_ble_eq_true rfl, Nat.le_of_ble_eq_true rfl⟩) ?_
  refine lv_iconst (v := -1) hx hb dX7_tryStep_60 (by decide) ?_
  refine lv_icmp_eq (tgt := 66) hx hb dX7_tryStep_61 (by decide) (fun c_11 => ?_) (fun c_11 => ?_)
  ·
    replace hF := ip c_11 hF
    refine lv_aload_n hx hb dX7_tryStep_66 rfl (lv_at hl 4 rfl) ?_
    refine gt_X7_4 (v := .ref a_trial) hx hb hts i_f_X7_tryStep_X7 hown hK hP 0 rfl (hts (.fieldLink RX7 39 "HushWatch" "trial" "LHushWatch$State;") (List.mem_of_getElem? (i := 2) rfl)) rfl dX7_tryStep_67 ?_
    refine lv_iload_n hx hb dX7_tryStep_70 rfl (lv_at hl 3 rfl) ?_
    refine lv_iload hx hb dX7_tryStep_71 (lv_at hl 2 rfl) ?_
    refine lv_iload hx hb dX7_tryStep_73 (lv_at hl 1 rfl) ?_
    refine lv_iload hx hb dX7_tryStep_75 (lv_at hl 0 rfl) ?_
    replace hF := bd7_s hF
    obtain ⟨r_12, w_13, w_14, w_15, w_16, w_17, w_18, hc_19, hF⟩ := hF
    obtain ⟨hPc, hDc, hFc⟩ := wcut (wc := (w_X5_doAct E a_trial a_trial_row a_trial_partners a_trial_share a_trial_leftOver c_trial_askedCount c_trial_outcome c_trial_row c_trial_partners c_trial_share c_trial_leftOver)) hP hD hS hA [4, 5, 6, 7, 8] (by decide) rfl
    have hrc := va_recv hK hPc (ci := 6) (q0 := 0) rfl rfl
    refine cE_i (wc := (w_X5_doAct E a_trial a_trial_row a_trial_partners a_trial_share a_trial_leftOver c_trial_askedCount c_trial_outcome c_trial_row c_trial_partners c_trial_share c_trial_leftOver)) (wr := [(a_, .inr (8, [.ref a_tape, .ref a_reader, .ref a_scripts, .ref a_now, .ref a_trial, .ref a_kept, .ref a_book, .ref a_keptBook, .ref a_history, .ref a_draws, .ref a_refused, .int c_hasImage])), (a_scripts, .inr (5, [.ref a_scripts_steps, .ref a_scripts_counts, .int c_scripts_held])), (a_scripts_steps, .inl (E.2.1, 192, .inl c_scripts_steps)), (a_scripts_counts, .inl (E.2.1, 4, .inl c_scripts_counts))]) (w1 := (w_X5_doAct E a_trial a_trial_row a_trial_partners a_trial_share a_trial_leftOver w_15 w_16 w_13 w_14 w_17 w_18)) (va_runV (As := [.int r_1, .int r_3, .int r_5, .int r_7]) (rest := [])  ⟨hx, hb, hml, hown, hts⟩ (f_X5_doAct l E H.size K (a_ := a_trial) (a_row := a_trial_row) (a_partners := a_trial_partners) (a_share := a_trial_share) (a_leftOver := a_trial_leftOver) (p1 := r_1) (p2 := r_3) (p3 := r_5) (p4 := r_7) (c_askedCount := c_trial_askedCount) (c_outcome := c_trial_outcome) (c_row := c_trial_row) (c_partners := c_trial_partners) (c_share := c_trial_share) (c_leftOver := c_trial_leftOver) hc_19) (cwV 4 hts g_f_X7_tryStep_f_X5_doAct_241 rfl rfl rfl hd_X5_doAct ⟨Nat.le_of_ble_eq_true rfl, Nat.le_of_ble_eq_true rfl⟩) ⟨pW.blind, hrc, (pW.pre ⟨hK, hN⟩ hPc hDc)⟩ rfl rfl hl.1 rfl (lv_room (Nat.le_of_ble_eq_true rfl)) dX7_tryStep_77 ⟨Nat.le_of_ble_eq_true rfl, Nat.le_of_ble_eq_true rfl⟩) hS hFc hP hD [4, 5, 6, 7, 8] [0, 1, 2, 3] rfl rfl (by decide) (by decide) (fun H locs hP hD hS => ?_)
    replace hP : va_P E.1 vwCl [(a_, .inr (8, [.ref a_tape, .ref a_reader, .ref a_scripts, .ref a_now, .ref a_trial, .ref a_kept, .ref a_book, .ref a_keptBook, .ref a_history, .ref a_draws, .ref a_refused, .int c_hasImage])), (a_scripts, .inr (5, [.ref a_scripts_steps, .ref a_scripts_counts, .int c_scripts_held])), (a_scripts_steps, .inl (E.2.1, 192, .inl c_scripts_steps)), (a_scripts_counts, .inl (E.2.1, 4, .inl c_scripts_counts)), (a_trial, .inr (6, [.ref a_trial_row, .ref a_trial_partners, .int w_15, .int w_16, .ref a_trial_share, .ref a_trial_leftOver])), (a_trial_row, .inl (E.2.1, 81, .inl w_13)), (a_trial_partners, .inl (E.2.1, 8, .inl w_14)), (a_trial_share, .inl (E.2.1, 2, .inl w_17)), (a_trial_leftOver, .inl (E.2.1, 2, .inl w_18))] H := hP
    replace hD : va_D A [(a_, .inr (8, [.ref a_tape, .ref a_reader, .ref a_scripts, .ref a_now, .ref a_trial, .ref a_kept, .ref a_book, .ref a_keptBook, .ref a_history, .ref a_draws, .ref a_refused, .int c_hasImage])), (a_scripts, .inr (5, [.ref a_scripts_steps, .ref a_scripts_counts, .int c_scripts_held])), (a_scripts_steps, .inl (E.2.1, 192, .inl c_scripts_steps)), (a_scripts_counts, .inl (E.2.1, 4, .inl c_scripts_counts)), (a_trial, .inr (6, [.ref a_trial_row, .ref a_trial_partners, .int w_15, .int w_16, .ref a_trial_share, .ref a_trial_leftOver])), (a_trial_row, .inl (E.2.1, 81, .inl w_13)), (a_trial_partners, .inl (E.2.1, 8, .inl w_14)), (a_trial_share, .inl (E.2.1, 2, .inl w_17)), (a_trial_leftOver, .inl (E.2.1, 2, .inl w_18))] := hD
    refine lv_pop hx hb dX7_tryStep_80 rfl ?_
    refine lv_iconst (v := 1) hx hb dX7_tryStep_81 (by decide) ?_
    rw [hQ]
    have h9 := fin9 (P := fun u9 : Int32 × (Nat → Int32) × (Nat → Int32) × Int32 × Int32 × (Nat → Int32) × (Nat → Int32) => (1 : Int32) = u9.1 ∧ va_P E.1 vwCl (w_X7_tryStep E a_ a_tape a_reader a_scripts a_now a_trial a_kept a_book a_keptBook a_history a_draws a_refused a_scripts_steps a_scripts_counts a_trial_row a_trial_partners a_trial_share a_trial_leftOver c_hasImage c_scripts_held c_scripts_steps c_scripts_counts u9.2.2.2.1 u9.2.2.2.2.1 u9.2.1 u9.2.2.1 u9.2.2.2.2.2.1 u9.2.2.2.2.2.2) H ∧ va_D A (w_X7_tryStep E a_ a_tape a_reader a_scripts a_now a_trial a_kept a_book a_keptBook a_history a_draws a_refused a_scripts_steps a_scripts_counts a_trial_row a_trial_partners a_trial_share a_trial_leftOver c_hasImage c_scripts_held c_scripts_steps c_scripts_counts u9.2.2.2.1 u9.2.2.2.2.1 u9.2.1 u9.2.2.1 u9.2.2.2.2.2.1 u9.2.2.2.2.2.2)) hF ⟨rfl, hP, hD⟩
    obtain ⟨e9_0, hP9, hD9⟩ := h9
    exact W.zret (v := (1 : Int32)) hx hb hr rfl (fun tt ht hW => ⟨⟨_, (), rfl, ⟨e9_0, Or.inr rfl⟩, ht ▸ hP9, hD9⟩, hS.F ht⟩) hS.2.2 dX7_tryStep_82
  ·
    replace hF := inn c_11 hF
    refine lv_iconst (v := 0) hx hb dX7_tryStep_64 (by decide) ?_
    rw [hQ]
    have h9 := fin9 (P := fun u9 : Int32 × (Nat → Int32) × (Nat → Int32) × Int32 × Int32 × (Nat → Int32) × (Nat → Int32) => (0 : Int32) = u9.1 ∧ va_P E.1 vwCl (w_X7_tryStep E a_ a_tape a_reader a_scripts a_now a_trial a_kept a_book a_keptBook a_history a_draws a_refused a_scripts_steps a_scripts_counts a_trial_row a_trial_partners a_trial_share a_trial_leftOver c_hasImage c_scripts_held c_scripts_steps c_scripts_counts u9.2.2.2.1 u9.2.2.2.2.1 u9.2.1 u9.2.2.1 u9.2.2.2.2.2.1 u9.2.2.2.2.2.2) H ∧ va_D A (w_X7_tryStep E a_ a_tape a_reader a_scripts a_now a_trial a_kept a_book a_keptBook a_history a_draws a_refused a_scripts_steps a_scripts_counts a_trial_row a_trial_partners a_trial_share a_trial_leftOver c_hasImage c_scripts_held c_scripts_steps c_scripts_counts u9.2.2.2.1 u9.2.2.2.2.1 u9.2.1 u9.2.2.1 u9.2.2.2.2.2.1 u9.2.2.2.2.2.2)) hF ⟨rfl, hP, hD⟩
    obtain ⟨e9_0, hP9, hD9⟩ := h9
    exact W.zret (v := (0 : Int32)) hx hb hr rfl (fun tt ht hW => ⟨⟨_, (), rfl, ⟨e9_0, Or.inl rfl⟩, ht ▸ hP9, hD9⟩, hS.F ht⟩) hS.2.2 dX7_tryStep_65
