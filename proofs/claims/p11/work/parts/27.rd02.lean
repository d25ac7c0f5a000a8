def dl_X3_ruleOfWord_27_rd02_0 : List (Nat × Instr × Nat) := [(0, .aload_n 0, 1), (1, .ldc 100, 2), (3, .invokevirtual 76, 3), (6, .ifCond .eq 5, 3), (11, .aload_n 0, 1), (12, .ldc 102, 2), (14, .invokevirtual 76, 3), (17, .ifCond .eq 5, 3), (22, .aload_n 0, 1), (23, .ldc 104, 2), (25, .invokevirtual 76, 3), (28, .ifCond .eq 7, 3), (35, .iconst (-1), 1), (36, .ireturn, 1), (31, .iconst 2, 1), (32, .goto 4, 3), (20, .iconst 1, 1), (21, .ireturn, 1), (9, .iconst 0, 1), (10, .ireturn, 1)]
set_option maxRecDepth 100000 in
theorem dall_X3_ruleOfWord_27_rd02_0 : dchk cX3_ruleOfWord dl_X3_ruleOfWord_27_rd02_0 = true := by decide +kernel
theorem dX3_ruleOfWord_0 : decode cX3_ruleOfWord 0 = .ok (.aload_n 0, 1) := dchk_at dall_X3_ruleOfWord_27_rd02_0 (k := 0) rfl
theorem dX3_ruleOfWord_1 : decode cX3_ruleOfWord 1 = .ok (.ldc 100, 2) := dchk_at dall_X3_ruleOfWord_27_rd02_0 (k := 1) rfl
theorem dX3_ruleOfWord_3 : decode cX3_ruleOfWord 3 = .ok (.invokevirtual 76, 3) := dchk_at dall_X3_ruleOfWord_27_rd02_0 (k := 2) rfl
theorem dX3_ruleOfWord_6 : decode cX3_ruleOfWord 6 = .ok (.ifCond .eq 5, 3) := dchk_at dall_X3_ruleOfWord_27_rd02_0 (k := 3) rfl
theorem dX3_ruleOfWord_11 : decode cX3_ruleOfWord 11 = .ok (.aload_n 0, 1) := dchk_at dall_X3_ruleOfWord_27_rd02_0 (k := 4) rfl
theorem dX3_ruleOfWord_12 : decode cX3_ruleOfWord 12 = .ok (.ldc 102, 2) := dchk_at dall_X3_ruleOfWord_27_rd02_0 (k := 5) rfl
theorem dX3_ruleOfWord_14 : decode cX3_ruleOfWord 14 = .ok (.invokevirtual 76, 3) := dchk_at dall_X3_ruleOfWord_27_rd02_0 (k := 6) rfl
theorem dX3_ruleOfWord_17 : decode cX3_ruleOfWord 17 = .ok (.ifCond .eq 5, 3) := dchk_at dall_X3_ruleOfWord_27_rd02_0 (k := 7) rfl
theorem dX3_ruleOfWord_22 : decode cX3_ruleOfWord 22 = .ok (.aload_n 0, 1) := dchk_at dall_X3_ruleOfWord_27_rd02_0 (k := 8) rfl
theorem dX3_ruleOfWord_23 : decode cX3_ruleOfWord 23 = .ok (.ldc 104, 2) := dchk_at dall_X3_ruleOfWord_27_rd02_0 (k := 9) rfl
theorem dX3_ruleOfWord_25 : decode cX3_ruleOfWord 25 = .ok (.invokevirtual 76, 3) := dchk_at dall_X3_ruleOfWord_27_rd02_0 (k := 10) rfl
theorem dX3_ruleOfWord_28 : decode cX3_ruleOfWord 28 = .ok (.ifCond .eq 7, 3) := dchk_at dall_X3_ruleOfWord_27_rd02_0 (k := 11) rfl
theorem dX3_ruleOfWord_35 : decode cX3_ruleOfWord 35 = .ok (.iconst (-1), 1) := dchk_at dall_X3_ruleOfWord_27_rd02_0 (k := 12) rfl
theorem dX3_ruleOfWord_36 : decode cX3_ruleOfWord 36 = .ok (.ireturn, 1) := dchk_at dall_X3_ruleOfWord_27_rd02_0 (k := 13) rfl
theorem dX3_ruleOfWord_31 : decode cX3_ruleOfWord 31 = .ok (.iconst 2, 1) := dchk_at dall_X3_ruleOfWord_27_rd02_0 (k := 14) rfl
theorem dX3_ruleOfWord_32 : decode cX3_ruleOfWord 32 = .ok (.goto 4, 3) := dchk_at dall_X3_ruleOfWord_27_rd02_0 (k := 15) rfl
theorem dX3_ruleOfWord_20 : decode cX3_ruleOfWord 20 = .ok (.iconst 1, 1) := dchk_at dall_X3_ruleOfWord_27_rd02_0 (k := 16) rfl
theorem dX3_ruleOfWord_21 : decode cX3_ruleOfWord 21 = .ok (.ireturn, 1) := dchk_at dall_X3_ruleOfWord_27_rd02_0 (k := 17) rfl
theorem dX3_ruleOfWord_9 : decode cX3_ruleOfWord 9 = .ok (.iconst 0, 1) := dchk_at dall_X3_ruleOfWord_27_rd02_0 (k := 18) rfl
theorem dX3_ruleOfWord_10 : decode cX3_ruleOfWord 10 = .ok (.ireturn, 1) := dchk_at dall_X3_ruleOfWord_27_rd02_0 (k := 19) rfl
def dl_X3_readLaw_27_rd02_0 : List (Nat × Instr × Nat) := [(0, .aload_n 0, 1), (1, .invokevirtual 71, 3), (4, .ifCond .ne 5, 3), (9, .aload_n 0, 1), (10, .aload_n 0, 1), (11, .invokevirtual 129, 3), (14, .putfield 37, 3), (17, .aload_n 0, 1), (18, .getfield 37, 3), (21, .iconst (-1), 1), (22, .if_icmp .ne 14, 3), (36, .iconst 1, 1), (37, .goto 4, 3), (41, .ireturn, 1), (25, .aload_n 0, 1), (26, .aload_n 0, 1), (27, .getfield 34, 3), (30, .invokevirtual 87, 3), (33, .ifCond .eq 7, 3), (40, .iconst 0, 1), (7, .iconst 0, 1), (8, .ireturn, 1)]
set_option maxRecDepth 100000 in
theorem dall_X3_readLaw_27_rd02_0 : dchk cX3_readLaw dl_X3_readLaw_27_rd02_0 = true := by decide +kernel
theorem dX3_readLaw_0 : decode cX3_readLaw 0 = .ok (.aload_n 0, 1) := dchk_at dall_X3_readLaw_27_rd02_0 (k := 0) rfl
theorem dX3_readLaw_1 : decode cX3_readLaw 1 = .ok (.invokevirtual 71, 3) := dchk_at dall_X3_readLaw_27_rd02_0 (k := 1) rfl
theorem dX3_readLaw_4 : decode cX3_readLaw 4 = .ok (.ifCond .ne 5, 3) := dchk_at dall_X3_readLaw_27_rd02_0 (k := 2) rfl
theorem dX3_readLaw_9 : decode cX3_readLaw 9 = .ok (.aload_n 0, 1) := dchk_at dall_X3_readLaw_27_rd02_0 (k := 3) rfl
theorem dX3_readLaw_10 : decode cX3_readLaw 10 = .ok (.aload_n 0, 1) := dchk_at dall_X3_readLaw_27_rd02_0 (k := 4) rfl
theorem dX3_readLaw_11 : decode cX3_readLaw 11 = .ok (.invokevirtual 129, 3) := dchk_at dall_X3_readLaw_27_rd02_0 (k := 5) rfl
theorem dX3_readLaw_14 : decode cX3_readLaw 14 = .ok (.putfield 37, 3) := dchk_at dall_X3_readLaw_27_rd02_0 (k := 6) rfl
theorem dX3_readLaw_17 : decode cX3_readLaw 17 = .ok (.aload_n 0, 1) := dchk_at dall_X3_readLaw_27_rd02_0 (k := 7) rfl
theorem dX3_readLaw_18 : decode cX3_readLaw 18 = .ok (.getfield 37, 3) := dchk_at dall_X3_readLaw_27_rd02_0 (k := 8) rfl
theorem dX3_readLaw_21 : decode cX3_readLaw 21 = .ok (.iconst (-1), 1) := dchk_at dall_X3_readLaw_27_rd02_0 (k := 9) rfl
theorem dX3_readLaw_22 : decode cX3_readLaw 22 = .ok (.if_icmp .ne 14, 3) := dchk_at dall_X3_readLaw_27_rd02_0 (k := 10) rfl
theorem dX3_readLaw_36 : decode cX3_readLaw 36 = .ok (.iconst 1, 1) := dchk_at dall_X3_readLaw_27_rd02_0 (k := 11) rfl
theorem dX3_readLaw_37 : decode cX3_readLaw 37 = .ok (.goto 4, 3) := dchk_at dall_X3_readLaw_27_rd02_0 (k := 12) rfl
theorem dX3_readLaw_41 : decode cX3_readLaw 41 = .ok (.ireturn, 1) := dchk_at dall_X3_readLaw_27_rd02_0 (k := 13) rfl
theorem dX3_readLaw_25 : decode cX3_readLaw 25 = .ok (.aload_n 0, 1) := dchk_at dall_X3_readLaw_27_rd02_0 (k := 14) rfl
theorem dX3_readLaw_26 : decode cX3_readLaw 26 = .ok (.aload_n 0, 1) := dchk_at dall_X3_readLaw_27_rd02_0 (k := 15) rfl
theorem dX3_readLaw_27 : decode cX3_readLaw 27 = .ok (.getfield 34, 3) := dchk_at dall_X3_readLaw_27_rd02_0 (k := 16) rfl
theorem dX3_readLaw_30 : decode cX3_readLaw 30 = .ok (.invokevirtual 87, 3) := dchk_at dall_X3_readLaw_27_rd02_0 (k := 17) rfl
theorem dX3_readLaw_33 : decode cX3_readLaw 33 = .ok (.ifCond .eq 7, 3) := dchk_at dall_X3_readLaw_27_rd02_0 (k := 18) rfl
theorem dX3_readLaw_40 : decode cX3_readLaw 40 = .ok (.iconst 0, 1) := dchk_at dall_X3_readLaw_27_rd02_0 (k := 19) rfl
theorem dX3_readLaw_7 : decode cX3_readLaw 7 = .ok (.iconst 0, 1) := dchk_at dall_X3_readLaw_27_rd02_0 (k := 20) rfl
theorem dX3_readLaw_8 : decode cX3_readLaw 8 = .ok (.ireturn, 1) := dchk_at dall_X3_readLaw_27_rd02_0 (k := 21) rfl
def dl_X3_readClause_27_rd02_0 : List (Nat × Instr × Nat) := [(108, .istore_n 2, 1), (109, .iload_n 2, 1), (110, .ifCond .eq 13, 3), (123, .iload_n 2, 1), (124, .ireturn, 1), (113, .aload_n 0, 1), (114, .getfield 9, 3), (117, .iload_n 1, 1), (118, .aload_n 0, 1), (119, .getfield 37, 3), (122, .iastore, 1), (0, .aload_n 0, 1), (1, .invokevirtual 71, 3), (4, .ifCond .ne 5, 3), (9, .aload_n 0, 1), (10, .ldc 74, 2), (12, .invokevirtual 76, 3), (15, .ifCond .eq 8, 3), (23, .aload_n 0, 1), (24, .invokevirtual 83, 3), (27, .istore_n 1, 1), (28, .iload_n 1, 1), (29, .ifCond .lt 23, 3), (52, .aload_n 0, 1), (53, .aload_n 0, 1), (54, .getfield 34, 3), (57, .invokevirtual 87, 3), (60, .ireturn, 1), (32, .iload_n 1, 1), (33, .aload_n 0, 1), (34, .getfield 9, 3), (37, .arraylength, 1), (38, .if_icmp .ge 14, 3), (41, .aload_n 0, 1), (42, .getfield 28, 3), (45, .iload_n 1, 1), (46, .ishr, 1), (47, .iconst 1, 1), (48, .iand, 1), (49, .ifCond .eq 12, 3), (61, .aload_n 0, 1), (62, .dup, 1), (63, .getfield 28, 3), (66, .iconst 1, 1), (67, .iload_n 1, 1), (68, .ishl, 1), (69, .ior, 1), (70, .putfield 28, 3), (73, .iload_n 1, 1), (74, .ifCond .ne 10, 3)]
set_option maxRecDepth 100000 in
theorem dall_X3_readClause_27_rd02_0 : dchk cX3_readClause dl_X3_readClause_27_rd02_0 = true := by decide +kernel
theorem dX3_readClause_108 : decode cX3_readClause 108 = .ok (.istore_n 2, 1) := dchk_at dall_X3_readClause_27_rd02_0 (k := 0) rfl
theorem dX3_readClause_109 : decode cX3_readClause 109 = .ok (.iload_n 2, 1) := dchk_at dall_X3_readClause_27_rd02_0 (k := 1) rfl
theorem dX3_readClause_110 : decode cX3_readClause 110 = .ok (.ifCond .eq 13, 3) := dchk_at dall_X3_readClause_27_rd02_0 (k := 2) rfl
theorem dX3_readClause_123 : decode cX3_readClause 123 = .ok (.iload_n 2, 1) := dchk_at dall_X3_readClause_27_rd02_0 (k := 3) rfl
theorem dX3_readClause_124 : decode cX3_readClause 124 = .ok (.ireturn, 1) := dchk_at dall_X3_readClause_27_rd02_0 (k := 4) rfl
theorem dX3_readClause_113 : decode cX3_readClause 113 = .ok (.aload_n 0, 1) := dchk_at dall_X3_readClause_27_rd02_0 (k := 5) rfl
theorem dX3_readClause_114 : decode cX3_readClause 114 = .ok (.getfield 9, 3) := dchk_at dall_X3_readClause_27_rd02_0 (k := 6) rfl
theorem dX3_readClause_117 : decode cX3_readClause 117 = .ok (.iload_n 1, 1) := dchk_at dall_X3_readClause_27_rd02_0 (k := 7) rfl
theorem dX3_readClause_118 : decode cX3_readClause 118 = .ok (.aload_n 0, 1) := dchk_at dall_X3_readClause_27_rd02_0 (k := 8) rfl
theorem dX3_readClause_119 : decode cX3_readClause 119 = .ok (.getfield 37, 3) := dchk_at dall_X3_readClause_27_rd02_0 (k := 9) rfl
theorem dX3_readClause_122 : decode cX3_readClause 122 = .ok (.iastore, 1) := dchk_at dall_X3_readClause_27_rd02_0 (k := 10) rfl
theorem dX3_readClause_0 : decode cX3_readClause 0 = .ok (.aload_n 0, 1) := dchk_at dall_X3_readClause_27_rd02_0 (k := 11) rfl
theorem dX3_readClause_1 : decode cX3_readClause 1 = .ok (.invokevirtual 71, 3) := dchk_at dall_X3_readClause_27_rd02_0 (k := 12) rfl
theorem dX3_readClause_4 : decode cX3_readClause 4 = .ok (.ifCond .ne 5, 3) := dchk_at dall_X3_readClause_27_rd02_0 (k := 13) rfl
theorem dX3_readClause_9 : decode cX3_readClause 9 = .ok (.aload_n 0, 1) := dchk_at dall_X3_readClause_27_rd02_0 (k := 14) rfl
theorem dX3_readClause_10 : decode cX3_readClause 10 = .ok (.ldc 74, 2) := dchk_at dall_X3_readClause_27_rd02_0 (k := 15) rfl
theorem dX3_readClause_12 : decode cX3_readClause 12 = .ok (.invokevirtual 76, 3) := dchk_at dall_X3_readClause_27_rd02_0 (k := 16) rfl
theorem dX3_readClause_15 : decode cX3_readClause 15 = .ok (.ifCond .eq 8, 3) := dchk_at dall_X3_readClause_27_rd02_0 (k := 17) rfl
theorem dX3_readClause_23 : decode cX3_readClause 23 = .ok (.aload_n 0, 1) := dchk_at dall_X3_readClause_27_rd02_0 (k := 18) rfl
theorem dX3_readClause_24 : decode cX3_readClause 24 = .ok (.invokevirtual 83, 3) := dchk_at dall_X3_readClause_27_rd02_0 (k := 19) rfl
theorem dX3_readClause_27 : decode cX3_readClause 27 = .ok (.istore_n 1, 1) := dchk_at dall_X3_readClause_27_rd02_0 (k := 20) rfl
theorem dX3_readClause_28 : decode cX3_readClause 28 = .ok (.iload_n 1, 1) := dchk_at dall_X3_readClause_27_rd02_0 (k := 21) rfl
theorem dX3_readClause_29 : decode cX3_readClause 29 = .ok (.ifCond .lt 23, 3) := dchk_at dall_X3_readClause_27_rd02_0 (k := 22) rfl
theorem dX3_readClause_52 : decode cX3_readClause 52 = .ok (.aload_n 0, 1) := dchk_at dall_X3_readClause_27_rd02_0 (k := 23) rfl
theorem dX3_readClause_53 : decode cX3_readClause 53 = .ok (.aload_n 0, 1) := dchk_at dall_X3_readClause_27_rd02_0 (k := 24) rfl
theorem dX3_readClause_54 : decode cX3_readClause 54 = .ok (.getfield 34, 3) := dchk_at dall_X3_readClause_27_rd02_0 (k := 25) rfl
theorem dX3_readClause_57 : decode cX3_readClause 57 = .ok (.invokevirtual 87, 3) := dchk_at dall_X3_readClause_27_rd02_0 (k := 26) rfl
theorem dX3_readClause_60 : decode cX3_readClause 60 = .ok (.ireturn, 1) := dchk_at dall_X3_readClause_27_rd02_0 (k := 27) rfl
theorem dX3_readClause_32 : decode cX3_readClause 32 = .ok (.iload_n 1, 1) := dchk_at dall_X3_readClause_27_rd02_0 (k := 28) rfl
theorem dX3_readClause_33 : decode cX3_readClause 33 = .ok (.aload_n 0, 1) := dchk_at dall_X3_readClause_27_rd02_0 (k := 29) rfl
theorem dX3_readClause_34 : decode cX3_readClause 34 = .ok (.getfield 9, 3) := dchk_at dall_X3_readClause_27_rd02_0 (k := 30) rfl
theorem dX3_readClause_37 : decode cX3_readClause 37 = .ok (.arraylength, 1) := dchk_at dall_X3_readClause_27_rd02_0 (k := 31) rfl
theorem dX3_readClause_38 : decode cX3_readClause 38 = .ok (.if_icmp .ge 14, 3) := dchk_at dall_X3_readClause_27_rd02_0 (k := 32) rfl
theorem dX3_readClause_41 : decode cX3_readClause 41 = .ok (.aload_n 0, 1) := dchk_at dall_X3_readClause_27_rd02_0 (k := 33) rfl
theorem dX3_readClause_42 : decode cX3_readClause 42 = .ok (.getfield 28, 3) := dchk_at dall_X3_readClause_27_rd02_0 (k := 34) rfl
theorem dX3_readClause_45 : decode cX3_readClause 45 = .ok (.iload_n 1, 1) := dchk_at dall_X3_readClause_27_rd02_0 (k := 35) rfl
theorem dX3_readClause_46 : decode cX3_readClause 46 = .ok (.ishr, 1) := dchk_at dall_X3_readClause_27_rd02_0 (k := 36) rfl
theorem dX3_readClause_47 : decode cX3_readClause 47 = .ok (.iconst 1, 1) := dchk_at dall_X3_readClause_27_rd02_0 (k := 37) rfl
theorem dX3_readClause_48 : decode cX3_readClause 48 = .ok (.iand, 1) := dchk_at dall_X3_readClause_27_rd02_0 (k := 38) rfl
theorem dX3_readClause_49 : decode cX3_readClause 49 = .ok (.ifCond .eq 12, 3) := dchk_at dall_X3_readClause_27_rd02_0 (k := 39) rfl
theorem dX3_readClause_61 : decode cX3_readClause 61 = .ok (.aload_n 0, 1) := dchk_at dall_X3_readClause_27_rd02_0 (k := 40) rfl
theorem dX3_readClause_62 : decode cX3_readClause 62 = .ok (.dup, 1) := dchk_at dall_X3_readClause_27_rd02_0 (k := 41) rfl
theorem dX3_readClause_63 : decode cX3_readClause 63 = .ok (.getfield 28, 3) := dchk_at dall_X3_readClause_27_rd02_0 (k := 42) rfl
theorem dX3_readClause_66 : decode cX3_readClause 66 = .ok (.iconst 1, 1) := dchk_at dall_X3_readClause_27_rd02_0 (k := 43) rfl
theorem dX3_readClause_67 : decode cX3_readClause 67 = .ok (.iload_n 1, 1) := dchk_at dall_X3_readClause_27_rd02_0 (k := 44) rfl
theorem dX3_readClause_68 : decode cX3_readClause 68 = .ok (.ishl, 1) := dchk_at dall_X3_readClause_27_rd02_0 (k := 45) rfl
theorem dX3_readClause_69 : decode cX3_readClause 69 = .ok (.ior, 1) := dchk_at dall_X3_readClause_27_rd02_0 (k := 46) rfl
theorem dX3_readClause_70 : decode cX3_readClause 70 = .ok (.putfield 28, 3) := dchk_at dall_X3_readClause_27_rd02_0 (k := 47) rfl
theorem dX3_readClause_73 : decode cX3_readClause 73 = .ok (.iload_n 1, 1) := dchk_at dall_X3_readClause_27_rd02_0 (k := 48) rfl
theorem dX3_readClause_74 : decode cX3_readClause 74 = .ok (.ifCond .ne 10, 3) := dchk_at dall_X3_readClause_27_rd02_0 (k := 49) rfl
def dl_X3_readClause_27_rd02_1 : List (Nat × Instr × Nat) := [(84, .iload_n 1, 1), (85, .iconst 1, 1), (86, .if_icmp .ne 14, 3), (100, .aload_n 0, 1), (101, .iconst 1, 1), (102, .sipush 9999, 3), (105, .invokevirtual 96, 3), (89, .aload_n 0, 1), (90, .ldc 94, 2), (92, .ldc 95, 2), (94, .invokevirtual 96, 3), (97, .goto 11, 3), (77, .aload_n 0, 1), (78, .invokevirtual 91, 3), (81, .goto 27, 3), (18, .aload_n 0, 1), (19, .invokevirtual 80, 3), (22, .ireturn, 1), (7, .iconst 0, 1), (8, .ireturn, 1)]
set_option maxRecDepth 100000 in
theorem dall_X3_readClause_27_rd02_1 : dchk cX3_readClause dl_X3_readClause_27_rd02_1 = true := by decide +kernel
theorem dX3_readClause_84 : decode cX3_readClause 84 = .ok (.iload_n 1, 1) := dchk_at dall_X3_readClause_27_rd02_1 (k := 0) rfl
theorem dX3_readClause_85 : decode cX3_readClause 85 = .ok (.iconst 1, 1) := dchk_at dall_X3_readClause_27_rd02_1 (k := 1) rfl
theorem dX3_readClause_86 : decode cX3_readClause 86 = .ok (.if_icmp .ne 14, 3) := dchk_at dall_X3_readClause_27_rd02_1 (k := 2) rfl
theorem dX3_readClause_100 : decode cX3_readClause 100 = .ok (.aload_n 0, 1) := dchk_at dall_X3_readClause_27_rd02_1 (k := 3) rfl
theorem dX3_readClause_101 : decode cX3_readClause 101 = .ok (.iconst 1, 1) := dchk_at dall_X3_readClause_27_rd02_1 (k := 4) rfl
theorem dX3_readClause_102 : decode cX3_readClause 102 = .ok (.sipush 9999, 3) := dchk_at dall_X3_readClause_27_rd02_1 (k := 5) rfl
theorem dX3_readClause_105 : decode cX3_readClause 105 = .ok (.invokevirtual 96, 3) := dchk_at dall_X3_readClause_27_rd02_1 (k := 6) rfl
theorem dX3_readClause_89 : decode cX3_readClause 89 = .ok (.aload_n 0, 1) := dchk_at dall_X3_readClause_27_rd02_1 (k := 7) rfl
theorem dX3_readClause_90 : decode cX3_readClause 90 = .ok (.ldc 94, 2) := dchk_at dall_X3_readClause_27_rd02_1 (k := 8) rfl
theorem dX3_readClause_92 : decode cX3_readClause 92 = .ok (.ldc 95, 2) := dchk_at dall_X3_readClause_27_rd02_1 (k := 9) rfl
theorem dX3_readClause_94 : decode cX3_readClause 94 = .ok (.invokevirtual 96, 3) := dchk_at dall_X3_readClause_27_rd02_1 (k := 10) rfl
theorem dX3_readClause_97 : decode cX3_readClause 97 = .ok (.goto 11, 3) := dchk_at dall_X3_readClause_27_rd02_1 (k := 11) rfl
theorem dX3_readClause_77 : decode cX3_readClause 77 = .ok (.aload_n 0, 1) := dchk_at dall_X3_readClause_27_rd02_1 (k := 12) rfl
theorem dX3_readClause_78 : decode cX3_readClause 78 = .ok (.invokevirtual 91, 3) := dchk_at dall_X3_readClause_27_rd02_1 (k := 13) rfl
theorem dX3_readClause_81 : decode cX3_readClause 81 = .ok (.goto 27, 3) := dchk_at dall_X3_readClause_27_rd02_1 (k := 14) rfl
theorem dX3_readClause_18 : decode cX3_readClause 18 = .ok (.aload_n 0, 1) := dchk_at dall_X3_readClause_27_rd02_1 (k := 15) rfl
theorem dX3_readClause_19 : decode cX3_readClause 19 = .ok (.invokevirtual 80, 3) := dchk_at dall_X3_readClause_27_rd02_1 (k := 16) rfl
theorem dX3_readClause_22 : decode cX3_readClause 22 = .ok (.ireturn, 1) := dchk_at dall_X3_readClause_27_rd02_1 (k := 17) rfl
theorem dX3_readClause_7 : decode cX3_readClause 7 = .ok (.iconst 0, 1) := dchk_at dall_X3_readClause_27_rd02_1 (k := 18) rfl
theorem dX3_readClause_8 : decode cX3_readClause 8 = .ok (.ireturn, 1) := dchk_at dall_X3_readClause_27_rd02_1 (k := 19) rfl
def dl_X3_start_27_rd02_0 : List (Nat × Instr × Nat) := [(0, .aload_n 0, 1), (1, .getfield 9, 3), (4, .iconst 0, 1), (5, .iconst 0, 1), (6, .iastore, 1), (7, .aload_n 0, 1), (8, .getfield 9, 3), (11, .iconst 1, 1), (12, .sipush 1000, 3), (15, .iastore, 1), (16, .aload_n 0, 1), (17, .getfield 9, 3), (20, .iconst 2, 1), (21, .bipush 100, 2), (23, .iastore, 1), (24, .aload_n 0, 1), (25, .iconst 0, 1), (26, .putfield 21, 3), (29, .aload_n 0, 1), (30, .iconst 0, 1), (31, .putfield 25, 3), (34, .aload_n 0, 1), (35, .iconst 0, 1), (36, .putfield 28, 3), (39, .aload_n 0, 1), (40, .iconst 0, 1), (41, .putfield 31, 3), (44, .aload_n 0, 1), (45, .iconst (-1), 1), (46, .putfield 40, 3), (49, .return_, 1)]
set_option maxRecDepth 100000 in
theorem dall_X3_start_27_rd02_0 : dchk cX3_start dl_X3_start_27_rd02_0 = true := by decide +kernel
theorem dX3_start_0 : decode cX3_start 0 = .ok (.aload_n 0, 1) := dchk_at dall_X3_start_27_rd02_0 (k := 0) rfl
theorem dX3_start_1 : decode cX3_start 1 = .ok (.getfield 9, 3) := dchk_at dall_X3_start_27_rd02_0 (k := 1) rfl
theorem dX3_start_4 : decode cX3_start 4 = .ok (.iconst 0, 1) := dchk_at dall_X3_start_27_rd02_0 (k := 2) rfl
theorem dX3_start_5 : decode cX3_start 5 = .ok (.iconst 0, 1) := dchk_at dall_X3_start_27_rd02_0 (k := 3) rfl
theorem dX3_start_6 : decode cX3_start 6 = .ok (.iastore, 1) := dchk_at dall_X3_start_27_rd02_0 (k := 4) rfl
theorem dX3_start_7 : decode cX3_start 7 = .ok (.aload_n 0, 1) := dchk_at dall_X3_start_27_rd02_0 (k := 5) rfl
theorem dX3_start_8 : decode cX3_start 8 = .ok (.getfield 9, 3) := dchk_at dall_X3_start_27_rd02_0 (k := 6) rfl
theorem dX3_start_11 : decode cX3_start 11 = .ok (.iconst 1, 1) := dchk_at dall_X3_start_27_rd02_0 (k := 7) rfl
theorem dX3_start_12 : decode cX3_start 12 = .ok (.sipush 1000, 3) := dchk_at dall_X3_start_27_rd02_0 (k := 8) rfl
theorem dX3_start_15 : decode cX3_start 15 = .ok (.iastore, 1) := dchk_at dall_X3_start_27_rd02_0 (k := 9) rfl
theorem dX3_start_16 : decode cX3_start 16 = .ok (.aload_n 0, 1) := dchk_at dall_X3_start_27_rd02_0 (k := 10) rfl
theorem dX3_start_17 : decode cX3_start 17 = .ok (.getfield 9, 3) := dchk_at dall_X3_start_27_rd02_0 (k := 11) rfl
theorem dX3_start_20 : decode cX3_start 20 = .ok (.iconst 2, 1) := dchk_at dall_X3_start_27_rd02_0 (k := 12) rfl
theorem dX3_start_21 : decode cX3_start 21 = .ok (.bipush 100, 2) := dchk_at dall_X3_start_27_rd02_0 (k := 13) rfl
theorem dX3_start_23 : decode cX3_start 23 = .ok (.iastore, 1) := dchk_at dall_X3_start_27_rd02_0 (k := 14) rfl
theorem dX3_start_24 : decode cX3_start 24 = .ok (.aload_n 0, 1) := dchk_at dall_X3_start_27_rd02_0 (k := 15) rfl
theorem dX3_start_25 : decode cX3_start 25 = .ok (.iconst 0, 1) := dchk_at dall_X3_start_27_rd02_0 (k := 16) rfl
theorem dX3_start_26 : decode cX3_start 26 = .ok (.putfield 21, 3) := dchk_at dall_X3_start_27_rd02_0 (k := 17) rfl
theorem dX3_start_29 : decode cX3_start 29 = .ok (.aload_n 0, 1) := dchk_at dall_X3_start_27_rd02_0 (k := 18) rfl
theorem dX3_start_30 : decode cX3_start 30 = .ok (.iconst 0, 1) := dchk_at dall_X3_start_27_rd02_0 (k := 19) rfl
theorem dX3_start_31 : decode cX3_start 31 = .ok (.putfield 25, 3) := dchk_at dall_X3_start_27_rd02_0 (k := 20) rfl
theorem dX3_start_34 : decode cX3_start 34 = .ok (.aload_n 0, 1) := dchk_at dall_X3_start_27_rd02_0 (k := 21) rfl
theorem dX3_start_35 : decode cX3_start 35 = .ok (.iconst 0, 1) := dchk_at dall_X3_start_27_rd02_0 (k := 22) rfl
theorem dX3_start_36 : decode cX3_start 36 = .ok (.putfield 28, 3) := dchk_at dall_X3_start_27_rd02_0 (k := 23) rfl
theorem dX3_start_39 : decode cX3_start 39 = .ok (.aload_n 0, 1) := dchk_at dall_X3_start_27_rd02_0 (k := 24) rfl
theorem dX3_start_40 : decode cX3_start 40 = .ok (.iconst 0, 1) := dchk_at dall_X3_start_27_rd02_0 (k := 25) rfl
theorem dX3_start_41 : decode cX3_start 41 = .ok (.putfield 31, 3) := dchk_at dall_X3_start_27_rd02_0 (k := 26) rfl
theorem dX3_start_44 : decode cX3_start 44 = .ok (.aload_n 0, 1) := dchk_at dall_X3_start_27_rd02_0 (k := 27) rfl
theorem dX3_start_45 : decode cX3_start 45 = .ok (.iconst (-1), 1) := dchk_at dall_X3_start_27_rd02_0 (k := 28) rfl
theorem dX3_start_46 : decode cX3_start 46 = .ok (.putfield 40, 3) := dchk_at dall_X3_start_27_rd02_0 (k := 29) rfl
theorem dX3_start_49 : decode cX3_start 49 = .ok (.return_, 1) := dchk_at dall_X3_start_27_rd02_0 (k := 30) rfl
def dl_X3_stepOfWord_27_rd02_0 : List (Nat × Instr × Nat) := [(0, .aload_n 0, 1), (1, .ldc 121, 2), (3, .invokevirtual 76, 3), (6, .ifCond .eq 5, 3), (11, .aload_n 0, 1), (12, .ldc 123, 2), (14, .invokevirtual 76, 3), (17, .ifCond .eq 5, 3), (22, .aload_n 0, 1), (23, .ldc 102, 2), (25, .invokevirtual 76, 3), (28, .ifCond .eq 5, 3), (33, .aload_n 0, 1), (34, .ldc 100, 2), (36, .invokevirtual 76, 3), (39, .ifCond .eq 5, 3), (44, .aload_n 0, 1), (45, .ldc 125, 2), (47, .invokevirtual 76, 3), (50, .ifCond .eq 5, 3), (55, .aload_n 0, 1), (56, .ldc 104, 2), (58, .invokevirtual 76, 3), (61, .ifCond .eq 5, 3), (66, .aload_n 0, 1), (67, .ldc 127, 2), (69, .invokevirtual 76, 3), (72, .ifCond .eq 8, 3), (80, .iconst (-1), 1), (81, .ireturn, 1), (75, .bipush 6, 2), (77, .goto 4, 3), (64, .iconst 5, 1), (65, .ireturn, 1), (53, .iconst 4, 1), (54, .ireturn, 1), (42, .iconst 3, 1), (43, .ireturn, 1), (31, .iconst 2, 1), (32, .ireturn, 1), (20, .iconst 1, 1), (21, .ireturn, 1), (9, .iconst 0, 1), (10, .ireturn, 1)]
set_option maxRecDepth 100000 in
theorem dall_X3_stepOfWord_27_rd02_0 : dchk cX3_stepOfWord dl_X3_stepOfWord_27_rd02_0 = true := by decide +kernel
theorem dX3_stepOfWord_0 : decode cX3_stepOfWord 0 = .ok (.aload_n 0, 1) := dchk_at dall_X3_stepOfWord_27_rd02_0 (k := 0) rfl
theorem dX3_stepOfWord_1 : decode cX3_stepOfWord 1 = .ok (.ldc 121, 2) := dchk_at dall_X3_stepOfWord_27_rd02_0 (k := 1) rfl
theorem dX3_stepOfWord_3 : decode cX3_stepOfWord 3 = .ok (.invokevirtual 76, 3) := dchk_at dall_X3_stepOfWord_27_rd02_0 (k := 2) rfl
theorem dX3_stepOfWord_6 : decode cX3_stepOfWord 6 = .ok (.ifCond .eq 5, 3) := dchk_at dall_X3_stepOfWord_27_rd02_0 (k := 3) rfl
theorem dX3_stepOfWord_11 : decode cX3_stepOfWord 11 = .ok (.aload_n 0, 1) := dchk_at dall_X3_stepOfWord_27_rd02_0 (k := 4) rfl
theorem dX3_stepOfWord_12 : decode cX3_stepOfWord 12 = .ok (.ldc 123, 2) := dchk_at dall_X3_stepOfWord_27_rd02_0 (k := 5) rfl
theorem dX3_stepOfWord_14 : decode cX3_stepOfWord 14 = .ok (.invokevirtual 76, 3) := dchk_at dall_X3_stepOfWord_27_rd02_0 (k := 6) rfl
theorem dX3_stepOfWord_17 : decode cX3_stepOfWord 17 = .ok (.ifCond .eq 5, 3) := dchk_at dall_X3_stepOfWord_27_rd02_0 (k := 7) rfl
theorem dX3_stepOfWord_22 : decode cX3_stepOfWord 22 = .ok (.aload_n 0, 1) := dchk_at dall_X3_stepOfWord_27_rd02_0 (k := 8) rfl
theorem dX3_stepOfWord_23 : decode cX3_stepOfWord 23 = .ok (.ldc 102, 2) := dchk_at dall_X3_stepOfWord_27_rd02_0 (k := 9) rfl
theorem dX3_stepOfWord_25 : decode cX3_stepOfWord 25 = .ok (.invokevirtual 76, 3) := dchk_at dall_X3_stepOfWord_27_rd02_0 (k := 10) rfl
theorem dX3_stepOfWord_28 : decode cX3_stepOfWord 28 = .ok (.ifCond .eq 5, 3) := dchk_at dall_X3_stepOfWord_27_rd02_0 (k := 11) rfl
theorem dX3_stepOfWord_33 : decode cX3_stepOfWord 33 = .ok (.aload_n 0, 1) := dchk_at dall_X3_stepOfWord_27_rd02_0 (k := 12) rfl
theorem dX3_stepOfWord_34 : decode cX3_stepOfWord 34 = .ok (.ldc 100, 2) := dchk_at dall_X3_stepOfWord_27_rd02_0 (k := 13) rfl
theorem dX3_stepOfWord_36 : decode cX3_stepOfWord 36 = .ok (.invokevirtual 76, 3) := dchk_at dall_X3_stepOfWord_27_rd02_0 (k := 14) rfl
theorem dX3_stepOfWord_39 : decode cX3_stepOfWord 39 = .ok (.ifCond .eq 5, 3) := dchk_at dall_X3_stepOfWord_27_rd02_0 (k := 15) rfl
theorem dX3_stepOfWord_44 : decode cX3_stepOfWord 44 = .ok (.aload_n 0, 1) := dchk_at dall_X3_stepOfWord_27_rd02_0 (k := 16) rfl
theorem dX3_stepOfWord_45 : decode cX3_stepOfWord 45 = .ok (.ldc 125, 2) := dchk_at dall_X3_stepOfWord_27_rd02_0 (k := 17) rfl
theorem dX3_stepOfWord_47 : decode cX3_stepOfWord 47 = .ok (.invokevirtual 76, 3) := dchk_at dall_X3_stepOfWord_27_rd02_0 (k := 18) rfl
theorem dX3_stepOfWord_50 : decode cX3_stepOfWord 50 = .ok (.ifCond .eq 5, 3) := dchk_at dall_X3_stepOfWord_27_rd02_0 (k := 19) rfl
theorem dX3_stepOfWord_55 : decode cX3_stepOfWord 55 = .ok (.aload_n 0, 1) := dchk_at dall_X3_stepOfWord_27_rd02_0 (k := 20) rfl
theorem dX3_stepOfWord_56 : decode cX3_stepOfWord 56 = .ok (.ldc 104, 2) := dchk_at dall_X3_stepOfWord_27_rd02_0 (k := 21) rfl
theorem dX3_stepOfWord_58 : decode cX3_stepOfWord 58 = .ok (.invokevirtual 76, 3) := dchk_at dall_X3_stepOfWord_27_rd02_0 (k := 22) rfl
theorem dX3_stepOfWord_61 : decode cX3_stepOfWord 61 = .ok (.ifCond .eq 5, 3) := dchk_at dall_X3_stepOfWord_27_rd02_0 (k := 23) rfl
theorem dX3_stepOfWord_66 : decode cX3_stepOfWord 66 = .ok (.aload_n 0, 1) := dchk_at dall_X3_stepOfWord_27_rd02_0 (k := 24) rfl
theorem dX3_stepOfWord_67 : decode cX3_stepOfWord 67 = .ok (.ldc 127, 2) := dchk_at dall_X3_stepOfWord_27_rd02_0 (k := 25) rfl
theorem dX3_stepOfWord_69 : decode cX3_stepOfWord 69 = .ok (.invokevirtual 76, 3) := dchk_at dall_X3_stepOfWord_27_rd02_0 (k := 26) rfl
theorem dX3_stepOfWord_72 : decode cX3_stepOfWord 72 = .ok (.ifCond .eq 8, 3) := dchk_at dall_X3_stepOfWord_27_rd02_0 (k := 27) rfl
theorem dX3_stepOfWord_80 : decode cX3_stepOfWord 80 = .ok (.iconst (-1), 1) := dchk_at dall_X3_stepOfWord_27_rd02_0 (k := 28) rfl
theorem dX3_stepOfWord_81 : decode cX3_stepOfWord 81 = .ok (.ireturn, 1) := dchk_at dall_X3_stepOfWord_27_rd02_0 (k := 29) rfl
theorem dX3_stepOfWord_75 : decode cX3_stepOfWord 75 = .ok (.bipush 6, 2) := dchk_at dall_X3_stepOfWord_27_rd02_0 (k := 30) rfl
theorem dX3_stepOfWord_77 : decode cX3_stepOfWord 77 = .ok (.goto 4, 3) := dchk_at dall_X3_stepOfWord_27_rd02_0 (k := 31) rfl
theorem dX3_stepOfWord_64 : decode cX3_stepOfWord 64 = .ok (.iconst 5, 1) := dchk_at dall_X3_stepOfWord_27_rd02_0 (k := 32) rfl
theorem dX3_stepOfWord_65 : decode cX3_stepOfWord 65 = .ok (.ireturn, 1) := dchk_at dall_X3_stepOfWord_27_rd02_0 (k := 33) rfl
theorem dX3_stepOfWord_53 : decode cX3_stepOfWord 53 = .ok (.iconst 4, 1) := dchk_at dall_X3_stepOfWord_27_rd02_0 (k := 34) rfl
theorem dX3_stepOfWord_54 : decode cX3_stepOfWord 54 = .ok (.ireturn, 1) := dchk_at dall_X3_stepOfWord_27_rd02_0 (k := 35) rfl
theorem dX3_stepOfWord_42 : decode cX3_stepOfWord 42 = .ok (.iconst 3, 1) := dchk_at dall_X3_stepOfWord_27_rd02_0 (k := 36) rfl
theorem dX3_stepOfWord_43 : decode cX3_stepOfWord 43 = .ok (.ireturn, 1) := dchk_at dall_X3_stepOfWord_27_rd02_0 (k := 37) rfl
theorem dX3_stepOfWord_31 : decode cX3_stepOfWord 31 = .ok (.iconst 2, 1) := dchk_at dall_X3_stepOfWord_27_rd02_0 (k := 38) rfl
theorem dX3_stepOfWord_32 : decode cX3_stepOfWord 32 = .ok (.ireturn, 1) := dchk_at dall_X3_stepOfWord_27_rd02_0 (k := 39) rfl
theorem dX3_stepOfWord_20 : decode cX3_stepOfWord 20 = .ok (.iconst 1, 1) := dchk_at dall_X3_stepOfWord_27_rd02_0 (k := 40) rfl
theorem dX3_stepOfWord_21 : decode cX3_stepOfWord 21 = .ok (.ireturn, 1) := dchk_at dall_X3_stepOfWord_27_rd02_0 (k := 41) rfl
theorem dX3_stepOfWord_9 : decode cX3_stepOfWord 9 = .ok (.iconst 0, 1) := dchk_at dall_X3_stepOfWord_27_rd02_0 (k := 42) rfl
theorem dX3_stepOfWord_10 : decode cX3_stepOfWord 10 = .ok (.ireturn, 1) := dchk_at dall_X3_stepOfWord_27_rd02_0 (k := 43) rfl
def F_X3_ruleOfWord (K : Nat) (c_tape_bytes : Nat → Int32) (c_tape_length : Int32) (c_at : Int32) (c_wordStart : Int32) : Option (Int32) :=
  bd1 (F_X3_isWord K 1 c_tape_bytes c_tape_length c_at c_wordStart) (fun r_1 => if r_1 = (0 : Int32) then bd1 (F_X3_isWord K 2 c_tape_bytes c_tape_length c_at c_wordStart) (fun r_5 => if r_5 = (0 : Int32) then bd1 (F_X3_isWord K 3 c_tape_bytes c_tape_length c_at c_wordStart) (fun r_9 => if r_9 = (0 : Int32) then some (-1 : Int32) else some (2 : Int32)) else some (1 : Int32)) else some (0 : Int32))
abbrev w_X3_ruleOfWord (E : EE) (a_ a_tape a_rules a_places a_steps a_tape_bytes : Nat) (c_siteCount : Int32) (c_stepCount : Int32) (c_seenRules : Int32) (c_at : Int32) (c_wordStart : Int32) (c_number : Int32) (c_failed : Int32) (c_tape_length : Int32) (c_tape_bytes : Nat → Int32) : va_W := [(a_, .inr (4, [.ref a_tape, .ref a_rules, .ref a_places, .ref a_steps, .int c_siteCount, .int c_stepCount, .int c_seenRules, .int c_at, .int c_wordStart, .int c_number, .int c_failed])), (a_tape, .inr (7, [.ref a_tape_bytes, .int c_tape_length])), (a_tape_bytes, .inl (E.2.2.1, 320, .inl c_tape_bytes))]
def v_f_X3_ruleOfWord : List Cond := List.cons (.code yX3_ruleOfWord cX3_ruleOfWord 1 (some .int)) (HAppend.hAppend (α := List Cond) (β := List Cond) (γ := List Cond) [.methodLink RX3 76 yX3_isWord, .instanceMethod yX3_isWord, .selects RX3 yX3_isWord yX3_isWord, .initialized RX3] (HAppend.hAppend (α := List Cond) (β := List Cond) (γ := List Cond) v_f_X3_isWord []))
theorem gw_f_X3_ruleOfWord : v_f_X3_ruleOfWord.all goodWord = true := by decide +kernel
theorem g_f_X3_ruleOfWord_f_X3_isWord_76 : GoodIn v_f_X3_ruleOfWord (wsV RX3 76 RX3 yX3_isWord v_f_X3_isWord) := goodIn_app (goodIn_of _ (by decide +kernel)) (goodIn_sub (fun _ h => List.mem_cons_of_mem _ (List.mem_append_right _ (List.mem_append_left _ h))) gw_f_X3_isWord)
theorem hd_X3_ruleOfWord : yX3_ruleOfWord.cls = RX3 ∧ yX3_ruleOfWord.cls ≠ "java/lang/invoke/MethodHandle" ∧ yX3_ruleOfWord.cls ≠ "java/lang/invoke/VarHandle" ∧ (parseMethodDescriptor yX3_ruleOfWord.desc).map (fun d => d.parameters.length) = some 0 := by decide +kernel
set_option maxHeartbeats 4000000 in
set_option maxRecDepth 100000 in
theorem f_X3_ruleOfWord (l : Launch) (E : EE) (K : Nat) (z9 : Nat → Nat) {a_ a_tape a_rules a_places a_steps a_tape_bytes : Nat} {c_siteCount : Int32} {c_stepCount : Int32} {c_seenRules : Int32} {c_at : Int32} {c_wordStart : Int32} {c_number : Int32} {c_failed : Int32} {c_tape_length : Int32} {c_tape_bytes : Nat → Int32} {rr : Int32} (hF : F_X3_ruleOfWord K c_tape_bytes c_tape_length c_at c_wordStart = some rr) : Met l yX3_ruleOfWord v_f_X3_ruleOfWord (({ frames := 5, cells := 0, slots := 0, locals := 107 } : Room)) (va_Pc [.ref a_] (qPZ E z9 (w_X3_ruleOfWord E a_ a_tape a_rules a_places a_steps a_tape_bytes c_siteCount c_stepCount c_seenRules c_at c_wordStart c_number c_failed c_tape_length c_tape_bytes))) (vp_Si (fun q : Int32 => q = rr)) 0 0 (fun _ => False) := by
  refine Met.ofW (cc := cX3_ruleOfWord) (maxL := 1) (ret := (some .int)) (by decide) rfl ?_
  intro p e s m args below meth c s₁ B hml hv
  obtain ⟨rfl, ⟨hK, hN⟩, hP, hZ⟩ := hv
  have hx := B.exec
  have hb := B.bytes
  have hr := B.returns
  have hts := atoms_spec (ws := v_f_X3_ruleOfWord) B.pre
  have hown : s.vm.findClass RX3 = some m.cls := own_of hd_X3_ruleOfWord.1 (findClass_of_methodNamed B.named)
  have hlocks : meth.locks = false := B.notSynchronized
  replace hP : va_P E.1 vwCl [(a_, .inr (4, [.ref a_tape, .ref a_rules, .ref a_places, .ref a_steps, .int c_siteCount, .int c_stepCount, .int c_seenRules, .int c_at, .int c_wordStart, .int c_number, .int c_failed])), (a_tape, .inr (7, [.ref a_tape_bytes, .int c_tape_length])), (a_tape_bytes, .inl (E.2.2.1, 320, .inl c_tape_bytes))] s.heap := hP
  have hl := lv_entry ([.ref a_]) (n := 1) (Nat.le_of_ble_eq_true rfl)
  rw [lg_entry_eq]
  generalize (lg_sl ([.ref a_]) ++ List.replicate (1 - (lg_sl ([.ref a_])).length) Slot.unset).toArray = ls at hl ⊢
  have hl : lv_has ls 1 [(0, .ref a_)] := hl
  obtain ⟨Q, hQ⟩ : ∃ Q : State → Prop, Q = MQ below (vp_Si (fun q : Int32 => q = rr)) #[Value.ref a_] s 0 0 (fun _ => False) := ⟨_, rfl⟩
  rw [← hQ]
  change W p l e ({ frames := 5, cells := 0, slots := 0, locals := 107 } : Room) s m #[Value.ref a_] below meth c s.heap [] 0 0 Q (F0 m 0 ls [])
  unfold F_X3_ruleOfWord at hF
  refine lv_aload_n hx hb dX3_ruleOfWord_0 rfl (lv_at hl 0 rfl) ?_
  refine va_ldcS hx hb hown (ZZ.s1 hZ) dX3_ruleOfWord_1 ?_
  replace hF := bd1_s hF
  obtain ⟨r_1, hc_2, hF⟩ := hF
  have hPc : va_P E.1 vwCl (w_X3_isWord E a_ a_tape a_rules a_places a_steps a_tape_bytes c_siteCount c_stepCount c_seenRules c_at c_wordStart c_number c_failed c_tape_length c_tape_bytes) s.heap := hP.sub (ws' := [(a_, .inr (4, [.ref a_tape, .ref a_rules, .ref a_places, .ref a_steps, .int c_siteCount, .int c_stepCount, .int c_seenRules, .int c_at, .int c_wordStart, .int c_number, .int c_failed])), (a_tape, .inr (7, [.ref a_tape_bytes, .int c_tape_length])), (a_tape_bytes, .inl (E.2.2.1, 320, .inl c_tape_bytes))]) [0, 1, 2] rfl
  have hrc := va_recv hK hPc (ci := 4) (q0 := 0) rfl rfl
  refine pE_z (va_runV (As := [.ref (z9 (20 + 1))]) (rest := [])  ⟨hx, hb, hml, hown, hts⟩ (f_X3_isWord l E K z9 (a_ := a_) (a_tape := a_tape) (a_rules := a_rules) (a_places := a_places) (a_steps := a_steps) (a_tape_bytes := a_tape_bytes) (p1 := 1) (c_siteCount := c_siteCount) (c_stepCount := c_stepCount) (c_seenRules := c_seenRules) (c_at := c_at) (c_wordStart := c_wordStart) (c_number := c_number) (c_failed := c_failed) (c_tape_length := c_tape_length) (c_tape_bytes := c_tape_bytes) hc_2) (cwV 1 hts g_f_X3_ruleOfWord_f_X3_isWord_76 rfl rfl rfl hd_X3_isWord ⟨Nat.le_of_ble_eq_true rfl, Nat.le_of_ble_eq_true rfl⟩) ⟨qPZ.blind, hrc, (qPZ.pre0 ⟨hK, hN⟩ hPc hZ)⟩ rfl rfl hl.1 rfl (lv_room (Nat.le_of_ble_eq_true rfl)) dX3_ruleOfWord_3 ⟨Nat.le_of_ble_eq_true rfl, Nat.le_of_ble_eq_true rfl⟩) (fun hb_3 => ?_)
  refine lv_if_eq (tgt := 11) hx hb dX3_ruleOfWord_6 (by decide) (fun c_4 => ?_) (fun c_4 => ?_)
  ·
    replace hF := ip c_4 hF
    refine lv_aload_n hx hb dX3_ruleOfWord_11 rfl (lv_at hl 0 rfl) ?_
    refine va_ldcS hx hb hown (ZZ.s2 hZ) dX3_ruleOfWord_12 ?_
    replace hF := bd1_s hF
    obtain ⟨r_5, hc_6, hF⟩ := hF
    have hPc : va_P E.1 vwCl (w_X3_isWord E a_ a_tape a_rules a_places a_steps a_tape_bytes c_siteCount c_stepCount c_seenRules c_at c_wordStart c_number c_failed c_tape_length c_tape_bytes) s.heap := hP.sub (ws' := [(a_, .inr (4, [.ref a_tape, .ref a_rules, .ref a_places, .ref a_steps, .int c_siteCount, .int c_stepCount, .int c_seenRules, .int c_at, .int c_wordStart, .int c_number, .int c_failed])), (a_tape, .inr (7, [.ref a_tape_bytes, .int c_tape_length])), (a_tape_bytes, .inl (E.2.2.1, 320, .inl c_tape_bytes))]) [0, 1, 2] rfl
    have hrc := va_recv hK hPc (ci := 4) (q0 := 0) rfl rfl
    refine pE_z (va_runV (As := [.ref (z9 (20 + 2))]) (rest := [])  ⟨hx, hb, hml, hown, hts⟩ (f_X3_isWord l E K z9 (a_ := a_) (a_tape := a_tape) (a_rules := a_rules) (a_places := a_places) (a_steps := a_steps) (a_tape_bytes := a_tape_bytes) (p1 := 2) (c_siteCount := c_siteCount) (c_stepCount := c_stepCount) (c_seenRules := c_seenRules) (c_at := c_at) (c_wordStart := c_wordStart) (c_number := c_number) (c_failed := c_failed) (c_tape_length := c_tape_length) (c_tape_bytes := c_tape_bytes) hc_6) (cwV 1 hts g_f_X3_ruleOfWord_f_X3_isWord_76 rfl rfl rfl hd_X3_isWord ⟨Nat.le_of_ble_eq_true rfl, Nat.le_of_ble_eq_true rfl⟩) ⟨qPZ.blind, hrc, (qPZ.pre0 ⟨hK, hN⟩ hPc hZ)⟩ rfl rfl hl.1 rfl (lv_room (Nat.le_of_ble_eq_true rfl)) dX3_ruleOfWord_14 ⟨Nat.le_of_ble_eq_true rfl, Nat.le_of_ble_eq_true rfl⟩) (fun hb_7 => ?_)
    refine lv_if_eq (tgt := 22) hx hb dX3_ruleOfWord_17 (by decide) (fun c_8 => ?_) (fun c_8 => ?_)
    ·
      replace hF := ip c_8 hF
      refine lv_aload_n hx hb dX3_ruleOfWord_22 rfl (lv_at hl 0 rfl) ?_
      refine va_ldcS hx hb hown (ZZ.s3 hZ) dX3_ruleOfWord_23 ?_
      replace hF := bd1_s hF
      obtain ⟨r_9, hc_10, hF⟩ := hF
      have hPc : va_P E.1 vwCl (w_X3_isWord E a_ a_tape a_rules a_places a_steps a_tape_bytes c_siteCount c_stepCount c_seenRules c_at c_wordStart c_number c_failed c_tape_length c_tape_bytes) s.heap := hP.sub (ws' := [(a_, .inr (4, [.ref a_tape, .ref a_rules, .ref a_places, .ref a_steps, .int c_siteCount, .int c_stepCount, .int c_seenRules, .int c_at, .int c_wordStart, .int c_number, .int c_failed])), (a_tape, .inr (7, [.ref a_tape_bytes, .int c_tape_length])), (a_tape_bytes, .inl (E.2.2.1, 320, .inl c_tape_bytes))]) [0, 1, 2] rfl
      have hrc := va_recv hK hPc (ci := 4) (q0 := 0) rfl rfl
      refine pE_z (va_runV (As := [.ref (z9 (20 + 3))]) (rest := [])  ⟨hx, hb, hml, hown, hts⟩ (f_X3_isWord l E K z9 (a_ := a_) (a_tape := a_tape) (a_rules := a_rules) (a_places := a_places) (a_steps := a_steps) (a_tape_bytes := a_tape_bytes) (p1 := 3) (c_siteCount := c_siteCount) (c_stepCount := c_stepCount) (c_seenRules := c_seenRules) (c_at := c_at) (c_wordStart := c_wordStart) (c_number := c_number) (c_failed := c_failed) (c_tape_length := c_tape_length) (c_tape_bytes := c_tape_bytes) hc_10) (cwV 1 hts g_f_X3_ruleOfWord_f_X3_isWord_76 rfl rfl rfl hd_X3_isWord ⟨Nat.le_of_ble_eq_true rfl, Nat.le_of_ble_eq_true rfl⟩) ⟨qPZ.blind, hrc, (qPZ.pre0 ⟨hK, hN⟩ hPc hZ)⟩ rfl rfl hl.1 rfl (lv_room (Nat.le_of_ble_eq_true rfl)) dX3_ruleOfWord_25 ⟨Nat.le_of_ble_eq_true rfl, Nat.le_of_ble_eq_true rfl⟩) (fun hb_11 => ?_)
      refine lv_if_eq (tgt := 35) hx hb dX3_ruleOfWord_28 (by decide) (fun c_12 => ?_) (fun c_12 => ?_)
      ·
        replace hF := ip c_12 hF
        refine lv_iconst (v := -1) hx hb dX3_ruleOfWord_35 (by decide) ?_
        rw [hQ]
        obtain e9_0 := inj1 hF
        exact W.iret (v := (-1 : Int32)) hx hb hr (fun tt ht hW => ⟨_, rfl, e9_0, ht⟩) (fun _ h => by cases h) dX3_ruleOfWord_36
      ·
        replace hF := inn c_12 hF
        refine lv_iconst (v := 2) hx hb dX3_ruleOfWord_31 (by decide) ?_
        refine lv_goto (tgt := 36) hx hb dX3_ruleOfWord_32 (by decide) ?_
        rw [hQ]
        obtain e9_0 := inj1 hF
        exact W.iret (v := (2 : Int32)) hx hb hr (fun tt ht hW => ⟨_, rfl, e9_0, ht⟩) (fun _ h => by cases h) dX3_ruleOfWord_36
    ·
      replace hF := inn c_8 hF
      refine lv_iconst (v := 1) hx hb dX3_ruleOfWord_20 (by decide) ?_
      rw [hQ]
      obtain e9_0 := inj1 hF
      exact W.iret (v := (1 : Int32)) hx hb hr (fun tt ht hW => ⟨_, rfl, e9_0, ht⟩) (fun _ h => by cases h) dX3_ruleOfWord_21
  ·
    replace hF := inn c_4 hF
    refine lv_iconst (v := 0) hx hb dX3_ruleOfWord_9 (by decide) ?_
    rw [hQ]
    obtain e9_0 := inj1 hF
    exact W.iret (v := (0 : Int32)) hx hb hr (fun tt ht hW => ⟨_, rfl, e9_0, ht⟩) (fun _ h => by cases h) dX3_ruleOfWord_10

def F_X3_readLaw (K : Nat) (c_tape_bytes : Nat → Int32) (c_tape_length : Int32) (c_at : Int32) (c_wordStart : Int32) (c_number : Int32) (c_failed : Int32) : Option (Int32 × Int32 × Int32 × Int32 × Int32) :=
  bd4 (F_X3_readWord K c_tape_bytes c_tape_length c_at c_wordStart c_failed) (fun r_1 w_2 w_3 w_4 => if r_1 = (0 : Int32) then some ((0 : Int32), w_2, w_3, c_number, w_4) else bd1 (F_X3_lawOfWord K c_tape_bytes c_tape_length w_2 w_3) (fun r_8 => if r_8 = (-1 : Int32) then bd2 (F_X3_failAt w_3 w_4) (fun r_11 w_12 => if r_11 = (0 : Int32) then some ((0 : Int32), w_2, w_3, r_8, w_12) else some ((1 : Int32), w_2, w_3, r_8, w_12)) else some ((1 : Int32), w_2, w_3, r_8, w_4)))
abbrev w_X3_readLaw (E : EE) (a_ a_tape a_rules a_places a_steps a_tape_bytes : Nat) (c_siteCount : Int32) (c_stepCount : Int32) (c_seenRules : Int32) (c_at : Int32) (c_wordStart : Int32) (c_number : Int32) (c_failed : Int32) (c_tape_length : Int32) (c_tape_bytes : Nat → Int32) : va_W := [(a_, .inr (4, [.ref a_tape, .ref a_rules, .ref a_places, .ref a_steps, .int c_siteCount, .int c_stepCount, .int c_seenRules, .int c_at, .int c_wordStart, .int c_number, .int c_failed])), (a_tape, .inr (7, [.ref a_tape_bytes, .int c_tape_length])), (a_tape_bytes, .inl (E.2.2.1, 320, .inl c_tape_bytes))]
def v_f_X3_readLaw : List Cond := List.cons (.code yX3_readLaw cX3_readLaw 1 (some .boolean)) (HAppend.hAppend (α := List Cond) (β := List Cond) (γ := List Cond) [.fieldLink RX3 37 "HushWatch$Reader" "number" "I", .fieldLink RX3 34 "HushWatch$Reader" "wordStart" "I", .methodLink RX3 71 yX3_readWord, .instanceMethod yX3_readWord, .selects RX3 yX3_readWord yX3_readWord, .initialized RX3, .methodLink RX3 129 yX3_lawOfWord, .instanceMethod yX3_lawOfWord, .selects RX3 yX3_lawOfWord yX3_lawOfWord, .methodLink RX3 87 yX3_failAt, .instanceMethod yX3_failAt, .selects RX3 yX3_failAt yX3_failAt] (HAppend.hAppend (α := List Cond) (β := List Cond) (γ := List Cond) v_f_X3_readWord (HAppend.hAppend (α := List Cond) (β := List Cond) (γ := List Cond) v_f_X3_lawOfWord (HAppend.hAppend (α := List Cond) (β := List Cond) (γ := List Cond) wsX30 (HAppend.hAppend (α := List Cond) (β := List Cond) (γ := List Cond) v_f_X3_failAt [])))))
theorem gw_f_X3_readLaw : v_f_X3_readLaw.all goodWord = true := by decide +kernel
theorem i_f_X3_readLaw_X3 : ∀ w ∈ wsX30, w ∈ v_f_X3_readLaw := fun _ h => List.mem_cons_of_mem _ (List.mem_append_right _ (List.mem_append_right _ (List.mem_append_right _ (List.mem_append_left _ h))))
theorem g_f_X3_readLaw_f_X3_readWord_71 : GoodIn v_f_X3_readLaw (wsV RX3 71 RX3 yX3_readWord v_f_X3_readWord) := goodIn_app (goodIn_of _ (by decide +kernel)) (goodIn_sub (fun _ h => List.mem_cons_of_mem _ (List.mem_append_right _ (List.mem_append_left _ h))) gw_f_X3_readWord)
theorem g_f_X3_readLaw_f_X3_lawOfWord_129 : GoodIn v_f_X3_readLaw (wsV RX3 129 RX3 yX3_lawOfWord v_f_X3_lawOfWord) := goodIn_app (goodIn_of _ (by decide +kernel)) (goodIn_sub (fun _ h => List.mem_cons_of_mem _ (List.mem_append_right _ (List.mem_append_right _ (List.mem_append_left _ h)))) gw_f_X3_lawOfWord)
theorem g_f_X3_readLaw_f_X3_failAt_87 : GoodIn v_f_X3_readLaw (wsV RX3 87 RX3 yX3_failAt v_f_X3_failAt) := goodIn_app (goodIn_of _ (by decide +kernel)) (goodIn_sub (fun _ h => List.mem_cons_of_mem _ (List.mem_append_right _ (List.mem_append_right _ (List.mem_append_right _ (List.mem_append_right _ (List.mem_append_left _ h)))))) gw_f_X3_failAt)
theorem hd_X3_readLaw : yX3_readLaw.cls = RX3 ∧ yX3_readLaw.cls ≠ "java/lang/invoke/MethodHandle" ∧ yX3_readLaw.cls ≠ "java/lang/invoke/VarHandle" ∧ (parseMethodDescriptor yX3_readLaw.desc).map (fun d => d.parameters.length) = some 0 := by decide +kernel
set_option maxHeartbeats 4000000 in
set_option maxRecDepth 100000 in
theorem f_X3_readLaw (l : Launch) (E : EE) (sz : Nat) (K : Nat) (z9 : Nat → Nat) {a_ a_tape a_rules a_places a_steps a_tape_bytes : Nat} {c_siteCount : Int32} {c_stepCount : Int32} {c_seenRules : Int32} {c_at : Int32} {c_wordStart : Int32} {c_number : Int32} {c_failed : Int32} {c_tape_length : Int32} {c_tape_bytes : Nat → Int32} {rr : Int32} {n_at : Int32} {n_wordStart : Int32} {n_number : Int32} {n_failed : Int32} (hF : F_X3_readLaw K c_tape_bytes c_tape_length c_at c_wordStart c_number c_failed = some (rr, n_at, n_wordStart, n_number, n_failed)) : Met l yX3_readLaw v_f_X3_readLaw (({ frames := 6, cells := 0, slots := 0, locals := 127 } : Room)) (va_Pc [.ref a_] (qWZ E z9 sz (w_X3_readLaw E a_ a_tape a_rules a_places a_steps a_tape_bytes c_siteCount c_stepCount c_seenRules c_at c_wordStart c_number c_failed c_tape_length c_tape_bytes))) (va_Qi (fun (q : Int32) (_u : Unit) => q = rr ∧ (q = 0 ∨ q = 1)) (fun (_u : Unit) tt => va_P E.1 vwCl (w_X3_readLaw E a_ a_tape a_rules a_places a_steps a_tape_bytes c_siteCount c_stepCount c_seenRules n_at n_wordStart n_number n_failed c_tape_length c_tape_bytes) tt.heap ∧ va_D (va_A (w_X3_readLaw E a_ a_tape a_rules a_places a_steps a_tape_bytes c_siteCount c_stepCount c_seenRules c_at c_wordStart c_number c_failed c_tape_length c_tape_bytes) sz) (w_X3_readLaw E a_ a_tape a_rules a_places a_steps a_tape_bytes c_siteCount c_stepCount c_seenRules n_at n_wordStart n_number n_failed c_tape_length c_tape_bytes)) (va_A (w_X3_readLaw E a_ a_tape a_rules a_places a_steps a_tape_bytes c_siteCount c_stepCount c_seenRules c_at c_wordStart c_number c_failed c_tape_length c_tape_bytes) sz)) 0 0 (va_A (w_X3_readLaw E a_ a_tape a_rules a_places a_steps a_tape_bytes c_siteCount c_stepCount c_seenRules c_at c_wordStart c_number c_failed c_tape_length c_tape_bytes) sz) := by
  refine Met.ofW (cc := cX3_readLaw) (maxL := 1) (ret := (some .boolean)) (by decide) rfl ?_
  intro p e s m args below meth c s₁ B hml hv
  obtain ⟨rfl, hsz, ⟨hK, hN⟩, hP, hD0, hZ⟩ := hv
  have hx := B.exec
  have hb := B.bytes
  have hr := B.returns
  have hts := atoms_spec (ws := v_f_X3_readLaw) B.pre
  have hown : s.vm.findClass RX3 = some m.cls := own_of hd_X3_readLaw.1 (findClass_of_methodNamed B.named)
  have hlocks : meth.locks = false := B.notSynchronized
  subst hsz
  have hD := hD0.self (sz := s.heap.size)
  generalize hAe : va_A (w_X3_readLaw E a_ a_tape a_rules a_places a_steps a_tape_bytes c_siteCount c_stepCount c_seenRules c_at c_wordStart c_number c_failed c_tape_length c_tape_bytes) s.heap.size = A at hD hZ ⊢
  have hA : ∀ q : Nat, s.heap.size ≤ q → A q := fun q h => by rw [← hAe]; exact Or.inr h
  have hS : va_S A s.heap s.heap [] := va_S.rf
  have hl := lv_entry ([.ref a_]) (n := 1) (Nat.le_of_ble_eq_true rfl)
  rw [lg_entry_eq]
  generalize (lg_sl ([.ref a_]) ++ List.replicate (1 - (lg_sl ([.ref a_])).length) Slot.unset).toArray = ls at hl ⊢
  have hl : lv_has ls 1 [(0, .ref a_)] := hl
  obtain ⟨Q, hQ⟩ : ∃ Q : State → Prop, Q = MQ below (va_Qi (fun (q : Int32) (_u : Unit) => q = rr ∧ (q = 0 ∨ q = 1)) (fun (_u : Unit) tt => va_P E.1 vwCl (w_X3_readLaw E a_ a_tape a_rules a_places a_steps a_tape_bytes c_siteCount c_stepCount c_seenRules n_at n_wordStart n_number n_failed c_tape_length c_tape_bytes) tt.heap ∧ va_D A (w_X3_readLaw E a_ a_tape a_rules a_places a_steps a_tape_bytes c_siteCount c_stepCount c_seenRules n_at n_wordStart n_number n_failed c_tape_length c_tape_bytes)) A) #[Value.ref a_] s 0 0 A := ⟨_, rfl⟩
  rw [← hQ]
  change W p l e ({ frames := 6, cells := 0, slots := 0, locals := 127 } : Room) s m #[Value.ref a_] below meth c s.heap [] 0 0 Q (F0 m 0 ls [])
  suffices hh9 : ∀ (H : Heap) (locs : List Loc), va_P E.1 vwCl (w_X3_readLaw E a_ a_tape a_rules a_places a_steps a_tape_bytes c_siteCount c_stepCount c_seenRules c_at c_wordStart c_number c_failed c_tape_length c_tape_bytes) H → va_D A (w_X3_readLaw E a_ a_tape a_rules a_places a_steps a_tape_bytes c_siteCount c_stepCount c_seenRules c_at c_wordStart c_number c_failed c_tape_length c_tape_bytes) → va_S A s.heap H locs → W p l e ({ frames := 6, cells := 0, slots := 0, locals := 127 } : Room) s m #[Value.ref a_] below meth c H locs 0 0 Q (F0 m 0 ls []) from hh9 s.heap [] hP hD hS
  clear hP hD hS
  intro H locs hP hD hS
  replace hP : va_P E.1 vwCl [(a_, .inr (4, [.ref a_tape, .ref a_rules, .ref a_places, .ref a_steps, .int c_siteCount, .int c_stepCount, .int c_seenRules, .int c_at, .int c_wordStart, .int c_number, .int c_failed])), (a_tape, .inr (7, [.ref a_tape_bytes, .int c_tape_length])), (a_tape_bytes, .inl (E.2.2.1, 320, .inl c_tape_bytes))] H := hP
  replace hD : va_D A [(a_, .inr (4, [.ref a_tape, .ref a_rules, .ref a_places, .ref a_steps, .int c_siteCount, .int c_stepCount, .int c_seenRules, .int c_at, .int c_wordStart, .int c_number, .int c_failed])), (a_tape, .inr (7, [.ref a_tape_bytes, .int c_tape_length])), (a_tape_bytes, .inl (E.2.2.1, 320, .inl c_tape_bytes))] := hD
  unfold F_X3_readLaw at hF
  refine lv_aload_n hx hb dX3_readLaw_0 rfl (lv_at hl 0 rfl) ?_
  replace hF := bd4_s hF
  obtain ⟨r_1, w_2, w_3, w_4, hc_5, hF⟩ := hF
  obtain ⟨hPc, hDc, hFc⟩ := wcut (wc := (w_X3_readWord E a_ a_tape a_rules a_places a_steps a_tape_bytes c_siteCount c_stepCount c_seenRules c_at c_wordStart c_number c_failed c_tape_length c_tape_bytes)) hP hD hS hA [0, 1, 2] (by decide) rfl
  have hrc := va_recv hK hPc (ci := 4) (q0 := 0) rfl rfl
  refine cE_z (wc := (w_X3_readWord E a_ a_tape a_rules a_places a_steps a_tape_bytes c_siteCount c_stepCount c_seenRules c_at c_wordStart c_number c_failed c_tape_length c_tape_bytes)) (wr := []) (w1 := (w_X3_readWord E a_ a_tape a_rules a_places a_steps a_tape_bytes c_siteCount c_stepCount c_seenRules w_2 w_3 c_number w_4 c_tape_length c_tape_bytes)) (va_runV (As := []) (rest := [])  ⟨hx, hb, hml, hown, hts⟩ (f_X3_readWord l E H.size K (a_ := a_) (a_tape := a_tape) (a_rules := a_rules) (a_places := a_places) (a_steps := a_steps) (a_tape_bytes := a_tape_bytes) (c_siteCount := c_siteCount) (c_stepCount := c_stepCount) (c_seenRules := c_seenRules) (c_at := c_at) (c_wordStart := c_wordStart) (c_number := c_number) (c_failed := c_failed) (c_tape_length := c_tape_length) (c_tape_bytes := c_tape_bytes) hc_5) (cwV 0 hts g_f_X3_readLaw_f_X3_readWord_71 rfl rfl rfl hd_X3_readWord ⟨Nat.le_of_ble_eq_true rfl, Nat.le_of_ble_eq_true rfl⟩) ⟨pW.blind, hrc, (pW.pre ⟨hK, hN⟩ hPc hDc)⟩ rfl rfl hl.1 rfl (lv_room (Nat.le_of_ble_eq_true rfl)) dX3_readLaw_1 ⟨Nat.le_of_ble_eq_true rfl, Nat.le_of_ble_eq_true rfl⟩) hS hFc hP hD [0, 1, 2] [] rfl rfl (by decide) (by decide) (fun hb_6 H locs hP hD hS => ?_)
  replace hP : va_P E.1 vwCl [(a_, .inr (4, [.ref a_tape, .ref a_rules, .ref a_places, .ref a_steps, .int c_siteCount, .int c_stepCount, .int c_seenRules, .int w_2, .int w_3, .int c_number, .int w_4])), (a_tape, .inr (7, [.ref a_tape_bytes, .int c_tape_length])), (a_tape_bytes, .inl (E.2.2.1, 320, .inl c_tape_bytes))] H := hP
  replace hD : va_D A [(a_, .inr (4, [.ref a_tape, .ref a_rules, .ref a_places, .ref a_steps, .int c_siteCount, .int c_stepCount, .int c_seenRules, .int w_2, .int w_3, .int c_number, .int w_4])), (a_tape, .inr (7, [.ref a_tape_bytes, .int c_tape_length])), (a_tape_bytes, .inl (E.2.2.1, 320, .inl c_tape_bytes))] := hD
  refine lv_if_ne (tgt := 9) hx hb dX3_readLaw_4 (by decide) (fun c_7 => ?_) (fun c_7 => ?_)
  ·
    replace hF := inn c_7 hF
    refine lv_aload_n hx hb dX3_readLaw_9 rfl (lv_at hl 0 rfl) ?_
    refine lv_aload_n hx hb dX3_readLaw_10 rfl (lv_at hl 0 rfl) ?_
    replace hF := bd1_s hF
    obtain ⟨r_8, hc_9, hF⟩ := hF
    have hPc : va_P E.1 vwCl (w_X3_lawOfWord E a_ a_tape a_rules a_places a_steps a_tape_bytes c_siteCount c_stepCount c_seenRules w_2 w_3 c_number w_4 c_tape_length c_tape_bytes) H := hP.sub (ws' := [(a_, .inr (4, [.ref a_tape, .ref a_rules, .ref a_places, .ref a_steps, .int c_siteCount, .int c_stepCount, .int c_seenRules, .int w_2, .int w_3, .int c_number, .int w_4])), (a_tape, .inr (7, [.ref a_tape_bytes, .int c_tape_length])), (a_tape_bytes, .inl (E.2.2.1, 320, .inl c_tape_bytes))]) [0, 1, 2] rfl
    have hrc := va_recv hK hPc (ci := 4) (q0 := 0) rfl rfl
    refine pE_i (va_runV (As := []) (rest := [.ref a_])  ⟨hx, hb, hml, hown, hts⟩ (f_X3_lawOfWord l E K z9 (a_ := a_) (a_tape := a_tape) (a_rules := a_rules) (a_places := a_places) (a_steps := a_steps) (a_tape_bytes := a_tape_bytes) (c_siteCount := c_siteCount) (c_stepCount := c_stepCount) (c_seenRules := c_seenRules) (c_at := w_2) (c_wordStart := w_3) (c_number := c_number) (c_failed := w_4) (c_tape_length := c_tape_length) (c_tape_bytes := c_tape_bytes) hc_9) (cwV 0 hts g_f_X3_readLaw_f_X3_lawOfWord_129 rfl rfl rfl hd_X3_lawOfWord ⟨Nat.le_of_ble_eq_true rfl, Nat.le_of_ble_eq_true rfl⟩) ⟨qPZ.blind, hrc, (qPZ.pre ⟨hK, hN⟩ hPc hZ hS)⟩ rfl rfl hl.1 rfl (lv_room (Nat.le_of_ble_eq_true rfl)) dX3_readLaw_11 ⟨Nat.le_of_ble_eq_true rfl, Nat.le_of_ble_eq_true rfl⟩) ?_
    refine pt_X3_9 (v := .int r_8) hx hb hts i_f_X3_readLaw_X3 hown hK hP hD hS 0 rfl (hts (.fieldLink RX3 37 "HushWatch$Reader" "number" "I") (List.mem_of_getElem? (i := 1) rfl)) rfl rfl (Nat.le_of_ble_eq_true rfl) dX3_readLaw_14 (fun H locs hP hD hS => ?_)
    replace hP : va_P E.1 vwCl [(a_, .inr (4, [.ref a_tape, .ref a_rules, .ref a_places, .ref a_steps, .int c_siteCount, .int c_stepCount, .int c_seenRules, .int w_2, .int w_3, .int r_8, .int w_4])), (a_tape, .inr (7, [.ref a_tape_bytes, .int c_tape_length])), (a_tape_bytes, .inl (E.2.2.1, 320, .inl c_tape_bytes))] H := hP
    replace hD : va_D A [(a_, .inr (4, [.ref a_tape, .ref a_rules, .ref a_places, .ref a_steps, .int c_siteCount, .int c_stepCount, .int c_seenRules, .int w_2, .int w_3, .int r_8, .int w_4])), (a_tape, .inr (7, [.ref a_tape_bytes, .int c_tape_length])), (a_tape_bytes, .inl (E.2.2.1, 320, .inl c_tape_bytes))] := hD
    refine lv_aload_n hx hb dX3_readLaw_17 rfl (lv_at hl 0 rfl) ?_
    refine gt_X3_9 (v := .int r_8) hx hb hts i_f_X3_readLaw_X3 hown hK hP 0 rfl (hts (.fieldLink RX3 37 "HushWatch$Reader" "number" "I") (List.mem_of_getElem? (i := 1) rfl)) rfl dX3_readLaw_18 ?_
    refine lv_iconst (v := -1) hx hb dX3_readLaw_21 (by decide) ?_
    refine lv_icmp_ne (tgt := 36) hx hb dX3_readLaw_22 (by decide) (fun c_10 => ?_) (fun c_10 => ?_)
    ·
      replace hF := inn c_10 hF
      refine lv_iconst (v := 1) hx hb dX3_readLaw_36 (by decide) ?_
      refine lv_goto (tgt := 41) hx hb dX3_readLaw_37 (by decide) ?_
      rw [hQ]
      have h9 := fin9 (P := fun u9 : Int32 × Int32 × Int32 × Int32 × Int32 => (1 : Int32) = u9.1 ∧ va_P E.1 vwCl (w_X3_readLaw E a_ a_tape a_rules a_places a_steps a_tape_bytes c_siteCount c_stepCount c_seenRules u9.2.1 u9.2.2.1 u9.2.2.2.1 u9.2.2.2.2 c_tape_length c_tape_bytes) H ∧ va_D A (w_X3_readLaw E a_ a_tape a_rules a_places a_steps a_tape_bytes c_siteCount c_stepCount c_seenRules u9.2.1 u9.2.2.1 u9.2.2.2.1 u9.2.2.2.2 c_tape_length c_tape_bytes)) hF ⟨rfl, hP, hD⟩
      obtain ⟨e9_0, hP9, hD9⟩ := h9
      exact W.zret (v := (1 : Int32)) hx hb hr rfl (fun tt ht hW => ⟨⟨_, (), rfl, ⟨e9_0, Or.inr rfl⟩, ht ▸ hP9, hD9⟩, hS.F ht⟩) hS.2.2 dX3_readLaw_41
    ·
      replace hF := ip c_10 hF
      refine lv_aload_n hx hb dX3_readLaw_25 rfl (lv_at hl 0 rfl) ?_
      refine lv_aload_n hx hb dX3_readLaw_26 rfl (lv_at hl 0 rfl) ?_
      refine gt_X3_8 (v := .int w_3) hx hb hts i_f_X3_readLaw_X3 hown hK hP 0 rfl (hts (.fieldLink RX3 34 "HushWatch$Reader" "wordStart" "I") (List.mem_of_getElem? (i := 2) rfl)) rfl dX3_readLaw_27 ?_
      replace hF := bd2_s hF
      obtain ⟨r_11, w_12, hc_13, hF⟩ := hF
      obtain ⟨hPc, hDc, hFc⟩ := wcut (wc := (w_X3_failAt E a_ a_tape a_rules a_places a_steps c_siteCount c_stepCount c_seenRules w_2 w_3 r_8 w_4)) hP hD hS hA [0] (by decide) rfl
      have hrc := va_recv hK hPc (ci := 4) (q0 := 0) rfl rfl
      refine cE_z (wc := (w_X3_failAt E a_ a_tape a_rules a_places a_steps c_siteCount c_stepCount c_seenRules w_2 w_3 r_8 w_4)) (wr := [(a_tape, .inr (7, [.ref a_tape_bytes, .int c_tape_length])), (a_tape_bytes, .inl (E.2.2.1, 320, .inl c_tape_bytes))]) (w1 := (w_X3_failAt E a_ a_tape a_rules a_places a_steps c_siteCount c_stepCount c_seenRules w_2 w_3 r_8 w_12)) (va_runV (As := [.int w_3]) (rest := [])  ⟨hx, hb, hml, hown, hts⟩ (f_X3_failAt l E H.size (a_ := a_) (a_tape := a_tape) (a_rules := a_rules) (a_places := a_places) (a_steps := a_steps) (p1 := w_3) (c_siteCount := c_siteCount) (c_stepCount := c_stepCount) (c_seenRules := c_seenRules) (c_at := w_2) (c_wordStart := w_3) (c_number := r_8) (c_failed := w_4) hc_13) (cwV 1 hts g_f_X3_readLaw_f_X3_failAt_87 rfl rfl rfl hd_X3_failAt ⟨Nat.le_of_ble_eq_true rfl, Nat.le_of_ble_eq_true rfl⟩) ⟨pW.blind, hrc, (pW.pre ⟨hK, hN⟩ hPc hDc)⟩ rfl rfl hl.1 rfl (lv_room (Nat.le_of_ble_eq_true rfl)) dX3_readLaw_30 ⟨Nat.le_of_ble_eq_true rfl, Nat.le_of_ble_eq_true rfl⟩) hS hFc hP hD [0] [1, 2] rfl rfl (by decide) (by decide) (fun hb_14 H locs hP hD hS => ?_)
      replace hP : va_P E.1 vwCl [(a_tape, .inr (7, [.ref a_tape_bytes, .int c_tape_length])), (a_tape_bytes, .inl (E.2.2.1, 320, .inl c_tape_bytes)), (a_, .inr (4, [.ref a_tape, .ref a_rules, .ref a_places, .ref a_steps, .int c_siteCount, .int c_stepCount, .int c_seenRules, .int w_2, .int w_3, .int r_8, .int w_12]))] H := hP
      replace hD : va_D A [(a_tape, .inr (7, [.ref a_tape_bytes, .int c_tape_length])), (a_tape_bytes, .inl (E.2.2.1, 320, .inl c_tape_bytes)), (a_, .inr (4, [.ref a_tape, .ref a_rules, .ref a_places, .ref a_steps, .int c_siteCount, .int c_stepCount, .int c_seenRules, .int w_2, .int w_3, .int r_8, .int w_12]))] := hD
      refine lv_if_eq (tgt := 40) hx hb dX3_readLaw_33 (by decide) (fun c_15 => ?_) (fun c_15 => ?_)
      ·
        replace hF := ip c_15 hF
        refine lv_iconst (v := 0) hx hb dX3_readLaw_40 (by decide) ?_
        rw [hQ]
        have h9 := fin9 (P := fun u9 : Int32 × Int32 × Int32 × Int32 × Int32 => (0 : Int32) = u9.1 ∧ va_P E.1 vwCl (w_X3_readLaw E a_ a_tape a_rules a_places a_steps a_tape_bytes c_siteCount c_stepCount c_seenRules u9.2.1 u9.2.2.1 u9.2.2.2.1 u9.2.2.2.2 c_tape_length c_tape_bytes) H ∧ va_D A (w_X3_readLaw E a_ a_tape a_rules a_places a_steps a_tape_bytes c_siteCount c_stepCount c_seenRules u9.2.1 u9.2.2.1 u9.2.2.2.1 u9.2.2.2.2 c_tape_length c_tape_bytes)) hF ⟨rfl, hP.sub [2, 0, 1] rfl, hD.sub [2, 0, 1] (by decide) rfl⟩
        obtain ⟨e9_0, hP9, hD9⟩ := h9
        exact W.zret (v := (0 : Int32)) hx hb hr rfl (fun tt ht hW => ⟨⟨_, (), rfl, ⟨e9_0, Or.inl rfl⟩, ht ▸ hP9, hD9⟩, hS.F ht⟩) hS.2.2 dX3_readLaw_41
      ·
        replace hF := inn c_15 hF
        refine lv_iconst (v := 1) hx hb dX3_readLaw_36 (by decide) ?_
        refine lv_goto (tgt := 41) hx hb dX3_readLaw_37 (by decide) ?_
        rw [hQ]
        have h9 := fin9 (P := fun u9 : Int32 × Int32 × Int32 × Int32 × Int32 => (1 : Int32) = u9.1 ∧ va_P E.1 vwCl (w_X3_readLaw E a_ a_tape a_rules a_places a_steps a_tape_bytes c_siteCount c_stepCount c_seenRules u9.2.1 u9.2.2.1 u9.2.2.2.1 u9.2.2.2.2 c_tape_length c_tape_bytes) H ∧ va_D A (w_X3_readLaw E a_ a_tape a_rules a_places a_steps a_tape_bytes c_siteCount c_stepCount c_seenRules u9.2.1 u9.2.2.1 u9.2.2.2.1 u9.2.2.2.2 c_tape_length c_tape_bytes)) hF ⟨rfl, hP.sub [2, 0, 1] rfl, hD.sub [2, 0, 1] (by decide) rfl⟩
        obtain ⟨e9_0, hP9, hD9⟩ := h9
        exact W.zret (v := (1 : Int32)) hx hb hr rfl (fun tt ht hW => ⟨⟨_, (), rfl, ⟨e9_0, Or.inr rfl⟩, ht ▸ hP9, hD9⟩, hS.F ht⟩) hS.2.2 dX3_readLaw_41
  ·
    replace hF := ip c_7 hF
    refine lv_iconst (v := 0) hx hb dX3_readLaw_7 (by decide) ?_
    rw [hQ]
    have h9 := fin9 (P := fun u9 : Int32 × Int32 × Int32 × Int32 × Int32 => (0 : Int32) = u9.1 ∧ va_P E.1 vwCl (w_X3_readLaw E a_ a_tape a_rules a_places a_steps a_tape_bytes c_siteCount c_stepCount c_seenRules u9.2.1 u9.2.2.1 u9.2.2.2.1 u9.2.2.2.2 c_tape_length c_tape_bytes) H ∧ va_D A (w_X3_readLaw E a_ a_tape a_rules a_places a_steps a_tape_bytes c_siteCount c_stepCount c_seenRules u9.2.1 u9.2.2.1 u9.2.2.2.1 u9.2.2.2.2 c_tape_length c_tape_bytes)) hF ⟨rfl, hP, hD⟩
    obtain ⟨e9_0, hP9, hD9⟩ := h9
    exact W.zret (v := (0 : Int32)) hx hb hr rfl (fun tt ht hW => ⟨⟨_, (), rfl, ⟨e9_0, Or.inl rfl⟩, ht ▸ hP9, hD9⟩, hS.F ht⟩) hS.2.2 dX3_readLaw_8

def J_X3_readClause_108 (k0 : Int32) (x1 : Int32) (c_rules : Nat → Int32) (c_places : Nat → Int32) (c_siteCount : Int32) (c_seenRules : Int32) (c_at : Int32) (c_wordStart : Int32) (c_number : Int32) (c_failed : Int32) : Option (Int32 × (Nat → Int32) × (Nat → Int32) × Int32 × Int32 × Int32 × Int32 × Int32 × Int32) :=
  if k0 = (0 : Int32) then zbF k0 (some (k0, c_rules, c_places, c_siteCount, c_seenRules, c_at, c_wordStart, c_number, c_failed)) else ixF x1 3 (nmF (upd c_rules x1.toNatClampNeg c_number) (fun f_36 => zbF k0 (some (k0, f_36, c_places, c_siteCount, c_seenRules, c_at, c_wordStart, c_number, c_failed))))
def F_X3_readClause (K : Nat) (c_tape_bytes : Nat → Int32) (c_tape_length : Int32) (c_rules : Nat → Int32) (c_places : Nat → Int32) (c_siteCount : Int32) (c_seenRules : Int32) (c_at : Int32) (c_wordStart : Int32) (c_number : Int32) (c_failed : Int32) : Option (Int32 × (Nat → Int32) × (Nat → Int32) × Int32 × Int32 × Int32 × Int32 × Int32 × Int32) :=
  bd4 (F_X3_readWord K c_tape_bytes c_tape_length c_at c_wordStart c_failed) (fun r_1 w_2 w_3 w_4 => if r_1 = (0 : Int32) then some ((0 : Int32), c_rules, c_places, c_siteCount, c_seenRules, w_2, w_3, c_number, w_4) else bd1 (F_X3_isWord K 0 c_tape_bytes c_tape_length w_2 w_3) (fun r_8 => if r_8 = (0 : Int32) then bd1 (F_X3_ruleOfWord K c_tape_bytes c_tape_length w_2 w_3) (fun r_12 => if r_12 < (0 : Int32) then bd2 (F_X3_failAt w_3 w_4) (fun r_15 w_16 => some (r_15, c_rules, c_places, c_siteCount, c_seenRules, w_2, w_3, c_number, w_16)) else if (3 : Int32) ≤ r_12 then bd2 (F_X3_failAt w_3 w_4) (fun r_20 w_21 => some (r_20, c_rules, c_places, c_siteCount, c_seenRules, w_2, w_3, c_number, w_21)) else if (c_seenRules >>> (r_12 &&& (31 : Int32))) &&& (1 : Int32) = (0 : Int32) then if r_12 = (0 : Int32) then bd5 (F_X3_readLaw K c_tape_bytes c_tape_length w_2 w_3 c_number w_4) (fun r_44 w_45 w_46 w_47 w_48 => J_X3_readClause_108 r_44 r_12 c_rules c_places c_siteCount (c_seenRules ||| ((1 : Int32) <<< (r_12 &&& (31 : Int32)))) w_45 w_46 w_47 w_48) else if r_12 = (1 : Int32) then bd4 (F_X3_readNumber K (-9999999 : Int32) (9999999 : Int32) c_tape_bytes c_tape_length w_2 c_number w_4) (fun r_38 w_39 w_40 w_41 => J_X3_readClause_108 r_38 r_12 c_rules c_places c_siteCount (c_seenRules ||| ((1 : Int32) <<< (r_12 &&& (31 : Int32)))) w_39 w_3 w_40 w_41) else bd4 (F_X3_readNumber K (1 : Int32) (9999 : Int32) c_tape_bytes c_tape_length w_2 c_number w_4) (fun r_27 w_28 w_29 w_30 => J_X3_readClause_108 r_27 r_12 c_rules c_places c_siteCount (c_seenRules ||| ((1 : Int32) <<< (r_12 &&& (31 : Int32)))) w_28 w_3 w_29 w_30) else bd2 (F_X3_failAt w_3 w_4) (fun r_51 w_52 => some (r_51, c_rules, c_places, c_siteCount, c_seenRules, w_2, w_3, c_number, w_52))) else bd6 (F_X3_readSite K c_tape_bytes c_tape_length c_places c_siteCount w_2 w_3 c_number w_4) (fun r_55 w_56 w_57 w_58 w_59 w_60 => some (r_55, c_rules, w_56, w_57, c_seenRules, w_58, w_3, w_59, w_60))))
abbrev w_X3_readClause (E : EE) (a_ a_tape a_rules a_places a_steps a_tape_bytes : Nat) (c_siteCount : Int32) (c_stepCount : Int32) (c_seenRules : Int32) (c_at : Int32) (c_wordStart : Int32) (c_number : Int32) (c_failed : Int32) (c_tape_length : Int32) (c_tape_bytes : Nat → Int32) (c_rules : Nat → Int32) (c_places : Nat → Int32) : va_W := [(a_, .inr (4, [.ref a_tape, .ref a_rules, .ref a_places, .ref a_steps, .int c_siteCount, .int c_stepCount, .int c_seenRules, .int c_at, .int c_wordStart, .int c_number, .int c_failed])), (a_tape, .inr (7, [.ref a_tape_bytes, .int c_tape_length])), (a_tape_bytes, .inl (E.2.2.1, 320, .inl c_tape_bytes)), (a_rules, .inl (E.2.1, 3, .inl c_rules)), (a_places, .inl (E.2.1, 16, .inl c_places))]
def v_f_X3_readClause : List Cond := List.cons (.code yX3_readClause cX3_readClause 3 (some .boolean)) (HAppend.hAppend (α := List Cond) (β := List Cond) (γ := List Cond) [.fieldLink RX3 34 "HushWatch$Reader" "wordStart" "I", .fieldLink RX3 9 "HushWatch$Reader" "rules" "[I", .fieldLink RX3 28 "HushWatch$Reader" "seenRules" "I", .fieldLink RX3 37 "HushWatch$Reader" "number" "I", .constant RX3 94 (-9999999), .constant RX3 95 (9999999), .methodLink RX3 71 yX3_readWord, .instanceMethod yX3_readWord, .selects RX3 yX3_readWord yX3_readWord, .initialized RX3, .methodLink RX3 76 yX3_isWord, .instanceMethod yX3_isWord, .selects RX3 yX3_isWord yX3_isWord, .methodLink RX3 83 yX3_ruleOfWord, .instanceMethod yX3_ruleOfWord, .selects RX3 yX3_ruleOfWord yX3_ruleOfWord, .methodLink RX3 87 yX3_failAt, .instanceMethod yX3_failAt, .selects RX3 yX3_failAt yX3_failAt, .methodLink RX3 96 yX3_readNumber, .instanceMethod yX3_readNumber, .selects RX3 yX3_readNumber yX3_readNumber, .methodLink RX3 91 yX3_readLaw, .instanceMethod yX3_readLaw, .selects RX3 yX3_readLaw yX3_readLaw, .methodLink RX3 80 yX3_readSite, .instanceMethod yX3_readSite, .selects RX3 yX3_readSite yX3_readSite] (HAppend.hAppend (α := List Cond) (β := List Cond) (γ := List Cond) v_f_X3_readWord (HAppend.hAppend (α := List Cond) (β := List Cond) (γ := List Cond) v_f_X3_isWord (HAppend.hAppend (α := List Cond) (β := List Cond) (γ := List Cond) v_f_X3_ruleOfWord (HAppend.hAppend (α := List Cond) (β := List Cond) (γ := List Cond) wsX30 (HAppend.hAppend (α := List Cond) (β := List Cond) (γ := List Cond) v_f_X3_failAt (HAppend.hAppend (α := List Cond) (β := List Cond) (γ := List Cond) v_f_X3_readNumber (HAppend.hAppend (α := List Cond) (β := List Cond) (γ := List Cond) v_f_X3_readLaw (HAppend.hAppend (α := List Cond) (β := List Cond) (γ := List Cond) v_f_X3_readSite [])))))))))
theorem gw_f_X3_readClause : v_f_X3_readClause.all goodWord = true := by decide +kernel
theorem i_f_X3_readClause_X3 : ∀ w ∈ wsX30, w ∈ v_f_X3_readClause := fun _ h => List.mem_cons_of_mem _ (List.mem_append_right _ (List.mem_append_right _ (List.mem_append_right _ (List.mem_append_right _ (List.mem_append_left _ h)))))
theorem g_f_X3_readClause_f_X3_readWord_71 : GoodIn v_f_X3_readClause (wsV RX3 71 RX3 yX3_readWord v_f_X3_readWord) := goodIn_app (goodIn_of _ (by decide +kernel)) (goodIn_sub (fun _ h => List.mem_cons_of_mem _ (List.mem_append_right _ (List.mem_append_left _ h))) gw_f_X3_readWord)
theorem g_f_X3_readClause_f_X3_isWord_76 : GoodIn v_f_X3_readClause (wsV RX3 76 RX3 yX3_isWord v_f_X3_isWord) := goodIn_app (goodIn_of _ (by decide +kernel)) (goodIn_sub (fun _ h => List.mem_cons_of_mem _ (List.mem_append_right _ (List.mem_append_right _ (List.mem_append_left _ h)))) gw_f_X3_isWord)
theorem g_f_X3_readClause_f_X3_ruleOfWord_83 : GoodIn v_f_X3_readClause (wsV RX3 83 RX3 yX3_ruleOfWord v_f_X3_ruleOfWord) := goodIn_app (goodIn_of _ (by decide +kernel)) (goodIn_sub (fun _ h => List.mem_cons_of_mem _ (List.mem_append_right _ (List.mem_append_right _ (List.mem_append_right _ (List.mem_append_left _ h))))) gw_f_X3_ruleOfWord)
theorem g_f_X3_readClause_f_X3_failAt_87 : GoodIn v_f_X3_readClause (wsV RX3 87 RX3 yX3_failAt v_f_X3_failAt) := goodIn_app (goodIn_of _ (by decide +kernel)) (goodIn_sub (fun _ h => List.mem_cons_of_mem _ (List.mem_append_right _ (List.mem_append_right _ (List.mem_append_right _ (List.mem_append_right _ (List.mem_append_right _ (List.mem_append_left _ h))))))) gw_f_X3_failAt)
theorem g_f_X3_readClause_f_X3_readNumber_96 : GoodIn v_f_X3_readClause (wsV RX3 96 RX3 yX3_readNumber v_f_X3_readNumber) := goodIn_app (goodIn_of _ (by decide +kernel)) (goodIn_sub (fun _ h => List.mem_cons_of_mem _ (List.mem_append_right _ (List.mem_append_right _ (List.mem_append_right _ (List.mem_append_right _ (List.mem_append_right _ (List.mem_append_right _ (List.mem_append_left _ h)))))))) gw_f_X3_readNumber)
theorem g_f_X3_readClause_f_X3_readLaw_91 : GoodIn v_f_X3_readClause (wsV RX3 91 RX3 yX3_readLaw v_f_X3_readLaw) := goodIn_app (goodIn_of _ (by decide +kernel)) (goodIn_sub (fun _ h => List.mem_cons_of_mem _ (List.mem_append_right _ (List.mem_append_right _ (List.mem_append_right _ (List.mem_append_right _ (List.mem_append_right _ (List.mem_append_right _ (List.mem_append_right _ (List.mem_append_left _ h))))))))) gw_f_X3_readLaw)
theorem g_f_X3_readClause_f_X3_readSite_80 : GoodIn v_f_X3_readClause (wsV RX3 80 RX3 yX3_readSite v_f_X3_readSite) := goodIn_app (goodIn_of _ (by decide +kernel)) (goodIn_sub (fun _ h => List.mem_cons_of_mem _ (List.mem_append_right _ (List.mem_append_right _ (List.mem_append_right _ (List.mem_append_right _ (List.mem_append_right _ (List.mem_append_right _ (List.mem_append_right _ (List.mem_append_right _ (List.mem_append_left _ h)))))))))) gw_f_X3_readSite)
theorem hd_X3_readClause : yX3_readClause.cls = RX3 ∧ yX3_readClause.cls ≠ "java/lang/invoke/MethodHandle" ∧ yX3_readClause.cls ≠ "java/lang/invoke/VarHandle" ∧ (parseMethodDescriptor yX3_readClause.desc).map (fun d => d.parameters.length) = some 0 := by decide +kernel
set_option maxHeartbeats 4000000 in
set_option maxRecDepth 100000 in
theorem j_X3_readClause_108 {p : Program} (l : Launch) {e : Env} {s : State} {m : MethodId} {below : List Frame} {meth : Method} {c : Code} {Q : State → Prop} (E : EE) (K : Nat) {z9 : Nat → Nat} {a_ a_tape a_rules a_places a_steps a_tape_bytes : Nat} {c_stepCount : Int32} {c_tape_length : Int32} {c_tape_bytes : Nat → Int32} {k0 : Int32} {x1 : Int32} {c_rules : Nat → Int32} {c_places : Nat → Int32} {c_siteCount : Int32} {c_seenRules : Int32} {c_at : Int32} {c_wordStart : Int32} {c_number : Int32} {c_failed : Int32} (hx : p.tables.exec = Jvm.exec) (hb : c.code = cX3_readClause) (hml : c.maxLocals = 3) (hown : s.vm.findClass RX3 = some m.cls) (hts : ∀ w ∈ v_f_X3_readClause, w.before #[Value.ref a_] s = true) (hK : va_K E.1 vwCl (TY E) s) (hN : NX s) {A : Nat → Prop} (hA : ∀ q : Nat, s.heap.size ≤ q → A q) (hZ : ZZ z9 A s s.heap) {rr : Int32} {n_rules : Nat → Int32} {n_places : Nat → Int32} {n_siteCount : Int32} {n_seenRules : Int32} {n_at : Int32} {n_wordStart : Int32} {n_number : Int32} {n_failed : Int32} (hr : meth.sig.returnType = (some .boolean)) (hlocks : meth.locks = false) (hQ : Q = MQ below (va_Qi (fun (q : Int32) (_u : Unit) => q = rr ∧ (q = 0 ∨ q = 1)) (fun (_u : Unit) tt => va_P E.1 vwCl (w_X3_readClause E a_ a_tape a_rules a_places a_steps a_tape_bytes n_siteCount c_stepCount n_seenRules n_at n_wordStart n_number n_failed c_tape_length c_tape_bytes n_rules n_places) tt.heap ∧ va_D A (w_X3_readClause E a_ a_tape a_rules a_places a_steps a_tape_bytes n_siteCount c_stepCount n_seenRules n_at n_wordStart n_number n_failed c_tape_length c_tape_bytes n_rules n_places)) A) #[Value.ref a_] s 0 0 A) (hF : J_X3_readClause_108 k0 x1 c_rules c_places c_siteCount c_seenRules c_at c_wordStart c_number c_failed = some (rr, n_rules, n_places, n_siteCount, n_seenRules, n_at, n_wordStart, n_number, n_failed)) : ∀ (H : Heap) (locs : List Loc) (ls : Array Slot), va_P E.1 vwCl (w_X3_readClause E a_ a_tape a_rules a_places a_steps a_tape_bytes c_siteCount c_stepCount c_seenRules c_at c_wordStart c_number c_failed c_tape_length c_tape_bytes c_rules c_places) H → va_D A (w_X3_readClause E a_ a_tape a_rules a_places a_steps a_tape_bytes c_siteCount c_stepCount c_seenRules c_at c_wordStart c_number c_failed c_tape_length c_tape_bytes c_rules c_places) → va_S A s.heap H locs → lv_has ls 3 [(0, .ref a_), (1, .int x1)] → W p l e ({ frames := 7, cells := 0, slots := 0, locals := 147 } : Room) s m #[Value.ref a_] below meth c H locs 0 0 Q (F0 m 108 ls [.int k0]) := by
  unfold J_X3_readClause_108 at hF
  intro H locs ls hP hD hS hl
  replace hP : va_P E.1 vwCl [(a_, .inr (4, [.ref a_tape, .ref a_rules, .ref a_places, .ref a_steps, .int c_siteCount, .int c_stepCount, .int c_seenRules, .int c_at, .int c_wordStart, .int c_number, .int c_failed])), (a_tape, .inr (7, [.ref a_tape_bytes, .int c_tape_length])), (a_tape_bytes, .inl (E.2.2.1, 320, .inl c_tape_bytes)), (a_rules, .inl (E.2.1, 3, .inl c_rules)), (a_places, .inl (E.2.1, 16, .inl c_places))] H := hP
  replace hD : va_D A [(a_, .inr (4, [.ref a_tape, .ref a_rules, .ref a_places, .ref a_steps, .int c_siteCount, .int c_stepCount, .int c_seenRules, .int c_at, .int c_wordStart, .int c_number, .int c_failed])), (a_tape, .inr (7, [.ref a_tape_bytes, .int c_tape_length])), (a_tape_bytes, .inl (E.2.2.1, 320, .inl c_tape_bytes)), (a_rules, .inl (E.2.1, 3, .inl c_rules)), (a_places, .inl (E.2.1, 16, .inl c_places))] := hD
  refine lv_istore_n (lv' := [(2, .int k0), (0, .ref a_), (1, .int x1)]) hx hb dX3_readClause_108 rfl hl (by decide) rfl (fun ls hl => ?_)
  refine lv_iload_n hx hb dX3_readClause_109 rfl (lv_at hl 0 rfl) ?_
  refine lv_if_eq (tgt := 123) hx hb dX3_readClause_110 (by decide) (fun c_33 => ?_) (fun c_33 => ?_)
  ·
    replace hF := ip c_33 hF
    refine lv_iload_n hx hb dX3_readClause_123 rfl (lv_at hl 0 rfl) ?_
    rw [hQ]
    replace hF := zb_s hF
    obtain ⟨hz_34, hF⟩ := hF
    have h9 := fin9 (P := fun u9 : Int32 × (Nat → Int32) × (Nat → Int32) × Int32 × Int32 × Int32 × Int32 × Int32 × Int32 => k0 = u9.1 ∧ va_P E.1 vwCl (w_X3_readClause E a_ a_tape a_rules a_places a_steps a_tape_bytes u9.2.2.2.1 c_stepCount u9.2.2.2.2.1 u9.2.2.2.2.2.1 u9.2.2.2.2.2.2.1 u9.2.2.2.2.2.2.2.1 u9.2.2.2.2.2.2.2.2 c_tape_length c_tape_bytes u9.2.1 u9.2.2.1) H ∧ va_D A (w_X3_readClause E a_ a_tape a_rules a_places a_steps a_tape_bytes u9.2.2.2.1 c_stepCount u9.2.2.2.2.1 u9.2.2.2.2.2.1 u9.2.2.2.2.2.2.1 u9.2.2.2.2.2.2.2.1 u9.2.2.2.2.2.2.2.2 c_tape_length c_tape_bytes u9.2.1 u9.2.2.1)) hF ⟨rfl, hP, hD⟩
    obtain ⟨e9_0, hP9, hD9⟩ := h9
    exact W.zret (v := k0) hx hb hr (nar_bool hz_34) (fun tt ht hW => ⟨⟨_, (), rfl, ⟨e9_0, hz_34⟩, ht ▸ hP9, hD9⟩, hS.F ht⟩) hS.2.2 dX3_readClause_124
  ·
    replace hF := inn c_33 hF
    refine lv_aload_n hx hb dX3_readClause_113 rfl (lv_at hl 1 rfl) ?_
    refine gt_X3_1 (v := .ref a_rules) hx hb hts i_f_X3_readClause_X3 hown hK hP 0 rfl (hts (.fieldLink RX3 9 "HushWatch$Reader" "rules" "[I") (List.mem_of_getElem? (i := 2) rfl)) rfl dX3_readClause_114 ?_
    refine lv_iload_n hx hb dX3_readClause_117 rfl (lv_at hl 2 rfl) ?_
    refine lv_aload_n hx hb dX3_readClause_118 rfl (lv_at hl 1 rfl) ?_
    refine gt_X3_9 (v := .int c_number) hx hb hts i_f_X3_readClause_X3 hown hK hP 0 rfl (hts (.fieldLink RX3 37 "HushWatch$Reader" "number" "I") (List.mem_of_getElem? (i := 4) rfl)) rfl dX3_readClause_119 ?_
    replace hF := ix_s hF
    obtain ⟨hi_35, hF⟩ := hF
    refine va_iast hx hb hK hP hD hS 3 0 rfl rfl hi_35 dX3_readClause_122 (fun H locs hP hD hS => ?_)
    replace hP : va_P E.1 vwCl [(a_, .inr (4, [.ref a_tape, .ref a_rules, .ref a_places, .ref a_steps, .int c_siteCount, .int c_stepCount, .int c_seenRules, .int c_at, .int c_wordStart, .int c_number, .int c_failed])), (a_tape, .inr (7, [.ref a_tape_bytes, .int c_tape_length])), (a_tape_bytes, .inl (E.2.2.1, 320, .inl c_tape_bytes)), (a_rules, .inl (E.2.1, 3, .inl (upd c_rules x1.toNatClampNeg c_number))), (a_places, .inl (E.2.1, 16, .inl c_places))] H := hP
    replace hD : va_D A [(a_, .inr (4, [.ref a_tape, .ref a_rules, .ref a_places, .ref a_steps, .int c_siteCount, .int c_stepCount, .int c_seenRules, .int c_at, .int c_wordStart, .int c_number, .int c_failed])), (a_tape, .inr (7, [.ref a_tape_bytes, .int c_tape_length])), (a_tape_bytes, .inl (E.2.2.1, 320, .inl c_tape_bytes)), (a_rules, .inl (E.2.1, 3, .inl (upd c_rules x1.toNatClampNeg c_number))), (a_places, .inl (E.2.1, 16, .inl c_places))] := hD
    replace hF := nm_s hF
    obtain ⟨f_36, hf_36, hF⟩ := hF
    rw [← hf_36] at hP hD
    refine lv_iload_n hx hb dX3_readClause_123 rfl (lv_at hl 0 rfl) ?_
    rw [hQ]
    replace hF := zb_s hF
    obtain ⟨hz_37, hF⟩ := hF
    have h9 := fin9 (P := fun u9 : Int32 × (Nat → Int32) × (Nat → Int32) × Int32 × Int32 × Int32 × Int32 × Int32 × Int32 => k0 = u9.1 ∧ va_P E.1 vwCl (w_X3_readClause E a_ a_tape a_rules a_places a_steps a_tape_bytes u9.2.2.2.1 c_stepCount u9.2.2.2.2.1 u9.2.2.2.2.2.1 u9.2.2.2.2.2.2.1 u9.2.2.2.2.2.2.2.1 u9.2.2.2.2.2.2.2.2 c_tape_length c_tape_bytes u9.2.1 u9.2.2.1) H ∧ va_D A (w_X3_readClause E a_ a_tape a_rules a_places a_steps a_tape_bytes u9.2.2.2.1 c_stepCount u9.2.2.2.2.1 u9.2.2.2.2.2.1 u9.2.2.2.2.2.2.1 u9.2.2.2.2.2.2.2.1 u9.2.2.2.2.2.2.2.2 c_tape_length c_tape_bytes u9.2.1 u9.2.2.1)) hF ⟨rfl, hP, hD⟩
    obtain ⟨e9_0, hP9, hD9⟩ := h9
    exact W.zret (v := k0) hx hb hr (nar_bool hz_37) (fun tt ht hW => ⟨⟨_, (), rfl, ⟨e9_0, hz_37⟩, ht ▸ hP9, hD9⟩, hS.F ht⟩) hS.2.2 dX3_readClause_124

set_option maxHeartbeats 4000000 in
set_option maxRecDepth 100000 in
theorem f_X3_readClause (l : Launch) (E : EE) (sz : Nat) (K : Nat) (z9 : Nat → Nat) {a_ a_tape a_rules a_places a_steps a_tape_bytes : Nat} {c_siteCount : Int32} {c_stepCount : Int32} {c_seenRules : Int32} {c_at : Int32} {c_wordStart : Int32} {c_number : Int32} {c_failed : Int32} {c_tape_length : Int32} {c_tape_bytes : Nat → Int32} {c_rules : Nat → Int32} {c_places : Nat → Int32} {rr : Int32} {n_rules : Nat → Int32} {n_places : Nat → Int32} {n_siteCount : Int32} {n_seenRules : Int32} {n_at : Int32} {n_wordStart : Int32} {n_number : Int32} {n_failed : Int32} (hF : F_X3_readClause K c_tape_bytes c_tape_length c_rules c_places c_siteCount c_seenRules c_at c_wordStart c_number c_failed = some (rr, n_rules, n_places, n_siteCount, n_seenRules, n_at, n_wordStart, n_number, n_failed)) : Met l yX3_readClause v_f_X3_readClause (({ frames := 7, cells := 0, slots := 0, locals := 147 } : Room)) (va_Pc [.ref a_] (qWZ E z9 sz (w_X3_readClause E a_ a_tape a_rules a_places a_steps a_tape_bytes c_siteCount c_stepCount c_seenRules c_at c_wordStart c_number c_failed c_tape_length c_tape_bytes c_rules c_places))) (va_Qi (fun (q : Int32) (_u : Unit) => q = rr ∧ (q = 0 ∨ q = 1)) (fun (_u : Unit) tt => va_P E.1 vwCl (w_X3_readClause E a_ a_tape a_rules a_places a_steps a_tape_bytes n_siteCount c_stepCount n_seenRules n_at n_wordStart n_number n_failed c_tape_length c_tape_bytes n_rules n_places) tt.heap ∧ va_D (va_A (w_X3_readClause E a_ a_tape a_rules a_places a_steps a_tape_bytes c_siteCount c_stepCount c_seenRules c_at c_wordStart c_number c_failed c_tape_length c_tape_bytes c_rules c_places) sz) (w_X3_readClause E a_ a_tape a_rules a_places a_steps a_tape_bytes n_siteCount c_stepCount n_seenRules n_at n_wordStart n_number n_failed c_tape_length c_tape_bytes n_rules n_places)) (va_A (w_X3_readClause E a_ a_tape a_rules a_places a_steps a_tape_bytes c_siteCount c_stepCount c_seenRules c_at c_wordStart c_number c_failed c_tape_length c_tape_bytes c_rules c_places) sz)) 0 0 (va_A (w_X3_readClause E a_ a_tape a_rules a_places a_steps a_tape_bytes c_siteCount c_stepCount c_seenRules c_at c_wordStart c_number c_failed c_tape_length c_tape_bytes c_rules c_places) sz) := by
  refine Met.ofW (cc := cX3_readClause) (maxL := 3) (ret := (some .boolean)) (by decide) rfl ?_
  intro p e s m args below meth c s₁ B hml hv
  obtain ⟨rfl, hsz, ⟨hK, hN⟩, hP, hD0, hZ⟩ := hv
  have hx := B.exec
  have hb := B.bytes
  have hr := B.returns
  have hts := atoms_spec (ws := v_f_X3_readClause) B.pre
  have hown : s.vm.findClass RX3 = some m.cls := own_of hd_X3_readClause.1 (findClass_of_methodNamed B.named)
  have hlocks : meth.locks = false := B.notSynchronized
  subst hsz
  have hD := hD0.self (sz := s.heap.size)
  generalize hAe : va_A (w_X3_readClause E a_ a_tape a_rules a_places a_steps a_tape_bytes c_siteCount c_stepCount c_seenRules c_at c_wordStart c_number c_failed c_tape_length c_tape_bytes c_rules c_places) s.heap.size = A at hD hZ ⊢
  have hA : ∀ q : Nat, s.heap.size ≤ q → A q := fun q h => by rw [← hAe]; exact Or.inr h
  have hS : va_S A s.heap s.heap [] := va_S.rf
  have hl := lv_entry ([.ref a_]) (n := 3) (Nat.le_of_ble_eq_true rfl)
  rw [lg_entry_eq]
  generalize (lg_sl ([.ref a_]) ++ List.replicate (3 - (lg_sl ([.ref a_])).length) Slot.unset).toArray = ls at hl ⊢
  have hl : lv_has ls 3 [(0, .ref a_)] := hl
  obtain ⟨Q, hQ⟩ : ∃ Q : State → Prop, Q = MQ below (va_Qi (fun (q : Int32) (_u : Unit) => q = rr ∧ (q = 0 ∨ q = 1)) (fun (_u : Unit) tt => va_P E.1 vwCl (w_X3_readClause E a_ a_tape a_rules a_places a_steps a_tape_bytes n_siteCount c_stepCount n_seenRules n_at n_wordStart n_number n_failed c_tape_length c_tape_bytes n_rules n_places) tt.heap ∧ va_D A (w_X3_readClause E a_ a_tape a_rules a_places a_steps a_tape_bytes n_siteCount c_stepCount n_seenRules n_at n_wordStart n_number n_failed c_tape_length c_tape_bytes n_rules n_places)) A) #[Value.ref a_] s 0 0 A := ⟨_, rfl⟩
  rw [← hQ]
  change W p l e ({ frames := 7, cells := 0, slots := 0, locals := 147 } : Room) s m #[Value.ref a_] below meth c s.heap [] 0 0 Q (F0 m 0 ls [])
  suffices hh9 : ∀ (H : Heap) (locs : List Loc), va_P E.1 vwCl (w_X3_readClause E a_ a_tape a_rules a_places a_steps a_tape_bytes c_siteCount c_stepCount c_seenRules c_at c_wordStart c_number c_failed c_tape_length c_tape_bytes c_rules c_places) H → va_D A (w_X3_readClause E a_ a_tape a_rules a_places a_steps a_tape_bytes c_siteCount c_stepCount c_seenRules c_at c_wordStart c_number c_failed c_tape_length c_tape_bytes c_rules c_places) → va_S A s.heap H locs → W p l e ({ frames := 7, cells := 0, slots := 0, locals := 147 } : Room) s m #[Value.ref a_] below meth c H locs 0 0 Q (F0 m 0 ls []) from hh9 s.heap [] hP hD hS
  clear hP hD hS
  intro H locs hP hD hS
  replace hP : va_P E.1 vwCl [(a_, .inr (4, [.ref a_tape, .ref a_rules, .ref a_places, .ref a_steps, .int c_siteCount, .int c_stepCount, .int c_seenRules, .int c_at, .int c_wordStart, .int c_number, .int c_failed])), (a_tape, .inr (7, [.ref a_tape_bytes, .int c_tape_length])), (a_tape_bytes, .inl (E.2.2.1, 320, .inl c_tape_bytes)), (a_rules, .inl (E.2.1, 3, .inl c_rules)), (a_places, .inl (E.2.1, 16, .inl c_places))] H := hP
  replace hD : va_D A [(a_, .inr (4, [.ref a_tape, .ref a_rules, .ref a_places, .ref a_steps, .int c_siteCount, .int c_stepCount, .int c_seenRules, .int c_at, .int c_wordStart, .int c_number, .int c_failed])), (a_tape, .inr (7, [.ref a_tape_bytes, .int c_tape_length])), (a_tape_bytes, .inl (E.2.2.1, 320, .inl c_tape_bytes)), (a_rules, .inl (E.2.1, 3, .inl c_rules)), (a_places, .inl (E.2.1, 16, .inl c_places))] := hD
  unfold F_X3_readClause at hF
  refine lv_aload_n hx hb dX3_readClause_0 rfl (lv_at hl 0 rfl) ?_
  replace hF := bd4_s hF
  obtain ⟨r_1, w_2, w_3, w_4, hc_5, hF⟩ := hF
  obtain ⟨hPc, hDc, hFc⟩ := wcut (wc := (w_X3_readWord E a_ a_tape a_rules a_places a_steps a_tape_bytes c_siteCount c_stepCount c_seenRules c_at c_wordStart c_number c_failed c_tape_length c_tape_bytes)) hP hD hS hA [0, 1, 2] (by decide) rfl
  have hrc := va_recv hK hPc (ci := 4) (q0 := 0) rfl rfl
  refine cE_z (wc := (w_X3_readWord E a_ a_tape a_rules a_places a_steps a_tape_bytes c_siteCount c_stepCount c_seenRules c_at c_wordStart c_number c_failed c_tape_length c_tape_bytes)) (wr := [(a_rules, .inl (E.2.1, 3, .inl c_rules)), (a_places, .inl (E.2.1, 16, .inl c_places))]) (w1 := (w_X3_readWord E a_ a_tape a_rules a_places a_steps a_tape_bytes c_siteCount c_stepCount c_seenRules w_2 w_3 c_number w_4 c_tape_length c_tape_bytes)) (va_runV (As := []) (rest := [])  ⟨hx, hb, hml, hown, hts⟩ (f_X3_readWord l E H.size K (a_ := a_) (a_tape := a_tape) (a_rules := a_rules) (a_places := a_places) (a_steps := a_steps) (a_tape_bytes := a_tape_bytes) (c_siteCount := c_siteCount) (c_stepCount := c_stepCount) (c_seenRules := c_seenRules) (c_at := c_at) (c_wordStart := c_wordStart) (c_number := c_number) (c_failed := c_failed) (c_tape_length := c_tape_length) (c_tape_bytes := c_tape_bytes) hc_5) (cwV 0 hts g_f_X3_readClause_f_X3_readWord_71 rfl rfl rfl hd_X3_readWord ⟨Nat.le_of_ble_eq_true rfl, Nat.le_of_ble_eq_true rfl⟩) ⟨pW.blind, hrc, (pW.pre ⟨hK, hN⟩ hPc hDc)⟩ rfl rfl hl.1 rfl (lv_room (Nat.le_of_ble_eq_true rfl)) dX3_readClause_1 ⟨Nat.le_of_ble_eq_true rfl, Nat.le_of_ble_eq_true rfl⟩) hS hFc hP hD [0, 1, 2] [3, 4] rfl rfl (by decide) (by decide) (fun hb_6 H locs hP hD hS => ?_)
  replace hP : va_P E.1 vwCl [(a_rules, .inl (E.2.1, 3, .inl c_rules)), (a_places, .inl (E.2.1, 16, .inl c_places)), (a_, .inr (4, [.ref a_tape, .ref a_rules, .ref a_places, .ref a_steps, .int c_siteCount, .int c_stepCount, .int c_seenRules, .int w_2, .int w_3, .int c_number, .int w_4])), (a_tape, .inr (7, [.ref a_tape_bytes, .int c_tape_length])), (a_tape_bytes, .inl (E.2.2.1, 320, .inl c_tape_bytes))] H := hP
  replace hD : va_D A [(a_rules, .inl (E.2.1, 3, .inl c_rules)), (a_places, .inl (E.2.1, 16, .inl c_places)), (a_, .inr (4, [.ref a_tape, .ref a_rules, .ref a_places, .ref a_steps, .int c_siteCount, .int c_stepCount, .int c_seenRules, .int w_2, .int w_3, .int c_number, .int w_4])), (a_tape, .inr (7, [.ref a_tape_bytes, .int c_tape_length])), (a_tape_bytes, .inl (E.2.2.1, 320, .inl c_tape_bytes))] := hD
  refine lv_if_ne (tgt := 9) hx hb dX3_readClause_4 (by decide) (fun c_7 => ?_) (fun c_7 => ?_)
  ·
    replace hF := inn c_7 hF
    refine lv_aload_n hx hb dX3_readClause_9 rfl (lv_at hl 0 rfl) ?_
    refine va_ldcS hx hb hown (ZZ.s0 hZ) dX3_readClause_10 ?_
    replace hF := bd1_s hF
    obtain ⟨r_8, hc_9, hF⟩ := hF
    have hPc : va_P E.1 vwCl (w_X3_isWord E a_ a_tape a_rules a_places a_steps a_tape_bytes c_siteCount c_stepCount c_seenRules w_2 w_3 c_number w_4 c_tape_length c_tape_bytes) H := hP.sub (ws' := [(a_, .inr (4, [.ref a_tape, .ref a_rules, .ref a_places, .ref a_steps, .int c_siteCount, .int c_stepCount, .int c_seenRules, .int w_2, .int w_3, .int c_number, .int w_4])), (a_tape, .inr (7, [.ref a_tape_bytes, .int c_tape_length])), (a_tape_bytes, .inl (E.2.2.1, 320, .inl c_tape_bytes))]) [2, 3, 4] rfl
    have hrc := va_recv hK hPc (ci := 4) (q0 := 0) rfl rfl
    refine pE_z (va_runV (As := [.ref (z9 (20 + 0))]) (rest := [])  ⟨hx, hb, hml, hown, hts⟩ (f_X3_isWord l E K z9 (a_ := a_) (a_tape := a_tape) (a_rules := a_rules) (a_places := a_places) (a_steps := a_steps) (a_tape_bytes := a_tape_bytes) (p1 := 0) (c_siteCount := c_siteCount) (c_stepCount := c_stepCount) (c_seenRules := c_seenRules) (c_at := w_2) (c_wordStart := w_3) (c_number := c_number) (c_failed := w_4) (c_tape_length := c_tape_length) (c_tape_bytes := c_tape_bytes) hc_9) (cwV 1 hts g_f_X3_readClause_f_X3_isWord_76 rfl rfl rfl hd_X3_isWord ⟨Nat.le_of_ble_eq_true rfl, Nat.le_of_ble_eq_true rfl⟩) ⟨qPZ.blind, hrc, (qPZ.pre ⟨hK, hN⟩ hPc hZ hS)⟩ rfl rfl hl.1 rfl (lv_room (Nat.le_of_ble_eq_true rfl)) dX3_readClause_12 ⟨Nat.le_of_ble_eq_true rfl, Nat.le_of_ble_eq_true rfl⟩) (fun hb_10 => ?_)
    refine lv_if_eq (tgt := 23) hx hb dX3_readClause_15 (by decide) (fun c_11 => ?_) (fun c_11 => ?_)
    ·
      replace hF := ip c_11 hF
      refine lv_aload_n hx hb dX3_readClause_23 rfl (lv_at hl 0 rfl) ?_
      replace hF := bd1_s hF
      obtain ⟨r_12, hc_13, hF⟩ := hF
      have hPc : va_P E.1 vwCl (w_X3_ruleOfWord E a_ a_tape a_rules a_places a_steps a_tape_bytes c_siteCount c_stepCount c_seenRules w_2 w_3 c_number w_4 c_tape_length c_tape_bytes) H := hP.sub (ws' := [(a_, .inr (4, [.ref a_tape, .ref a_rules, .ref a_places, .ref a_steps, .int c_siteCount, .int c_stepCount, .int c_seenRules, .int w_2, .int w_3, .int c_number, .int w_4])), (a_tape, .inr (7, [.ref a_tape_bytes, .int c_tape_length])), (a_tape_bytes, .inl (E.2.2.1, 320, .inl c_tape_bytes))]) [2, 3, 4] rfl
      have hrc := va_recv hK hPc (ci := 4) (q0 := 0) rfl rfl
      refine pE_i (va_runV (As := []) (rest := [])  ⟨hx, hb, hml, hown, hts⟩ (f_X3_ruleOfWord l E K z9 (a_ := a_) (a_tape := a_tape) (a_rules := a_rules) (a_places := a_places) (a_steps := a_steps) (a_tape_bytes := a_tape_bytes) (c_siteCount := c_siteCount) (c_stepCount := c_stepCount) (c_seenRules := c_seenRules) (c_at := w_2) (c_wordStart := w_3) (c_number := c_number) (c_failed := w_4) (c_tape_length := c_tape_length) (c_tape_bytes := c_tape_bytes) hc_13) (cwV 0 hts g_f_X3_readClause_f_X3_ruleOfWord_83 rfl rfl rfl hd_X3_ruleOfWord ⟨Nat.le_of_ble_eq_true rfl, Nat.le_of_ble_eq_true rfl⟩) ⟨qPZ.blind, hrc, (qPZ.pre ⟨hK, hN⟩ hPc hZ hS)⟩ rfl rfl hl.1 rfl (lv_room (Nat.le_of_ble_eq_true rfl)) dX3_readClause_24 ⟨Nat.le_of_ble_eq_true rfl, Nat.le_of_ble_eq_true rfl⟩) ?_
      refine lv_istore_n (lv' := [(1, .int r_12), (0, .ref a_)]) hx hb dX3_readClause_27 rfl hl (by decide) rfl (fun ls hl => ?_)
      refine lv_iload_n hx hb dX3_readClause_28 rfl (lv_at hl 0 rfl) ?_
      refine lv_if_lt (tgt := 52) hx hb dX3_readClause_29 (by decide) (fun c_14 => ?_) (fun c_14 => ?_)
      ·
        replace hF := ip c_14 hF
        refine lv_aload_n hx hb dX3_readClause_52 rfl (lv_at hl 1 rfl) ?_
        refine lv_aload_n hx hb dX3_readClause_53 rfl (lv_at hl 1 rfl) ?_
        refine gt_X3_8 (v := .int w_3) hx hb hts i_f_X3_readClause_X3 hown hK hP 2 rfl (hts (.fieldLink RX3 34 "HushWatch$Reader" "wordStart" "I") (List.mem_of_getElem? (i := 1) rfl)) rfl dX3_readClause_54 ?_
        replace hF := bd2_s hF
        obtain ⟨r_15, w_16, hc_17, hF⟩ := hF
        obtain ⟨hPc, hDc, hFc⟩ := wcut (wc := (w_X3_failAt E a_ a_tape a_rules a_places a_steps c_siteCount c_stepCount c_seenRules w_2 w_3 c_number w_4)) hP hD hS hA [2] (by decide) rfl
        have hrc := va_recv hK hPc (ci := 4) (q0 := 0) rfl rfl
        refine cE_z (wc := (w_X3_failAt E a_ a_tape a_rules a_places a_steps c_siteCount c_stepCount c_seenRules w_2 w_3 c_number w_4)) (wr := [(a_rules, .inl (E.2.1, 3, .inl c_rules)), (a_places, .inl (E.2.1, 16, .inl c_places)), (a_tape, .inr (7, [.ref a_tape_bytes, .int c_tape_length])), (a_tape_bytes, .inl (E.2.2.1, 320, .inl c_tape_bytes))]) (w1 := (w_X3_failAt E a_ a_tape a_rules a_places a_steps c_siteCount c_stepCount c_seenRules w_2 w_3 c_number w_16)) (va_runV (As := [.int w_3]) (rest := [])  ⟨hx, hb, hml, hown, hts⟩ (f_X3_failAt l E H.size (a_ := a_) (a_tape := a_tape) (a_rules := a_rules) (a_places := a_places) (a_steps := a_steps) (p1 := w_3) (c_siteCount := c_siteCount) (c_stepCount := c_stepCount) (c_seenRules := c_seenRules) (c_at := w_2) (c_wordStart := w_3) (c_number := c_number) (c_failed := w_4) hc_17) (cwV 1 hts g_f_X3_readClause_f_X3_failAt_87 rfl rfl rfl hd_X3_failAt ⟨Nat.le_of_ble_eq_true rfl, Nat.le_of_ble_eq_true rfl⟩) ⟨pW.blind, hrc, (pW.pre ⟨hK, hN⟩ hPc hDc)⟩ rfl rfl hl.1 rfl (lv_room (Nat.le_of_ble_eq_true rfl)) dX3_readClause_57 ⟨Nat.le_of_ble_eq_true rfl, Nat.le_of_ble_eq_true rfl⟩) hS hFc hP hD [2] [0, 1, 3, 4] rfl rfl (by decide) (by decide) (fun hb_18 H locs hP hD hS => ?_)
        replace hP : va_P E.1 vwCl [(a_rules, .inl (E.2.1, 3, .inl c_rules)), (a_places, .inl (E.2.1, 16, .inl c_places)), (a_tape, .inr (7, [.ref a_tape_bytes, .int c_tape_length])), (a_tape_bytes, .inl (E.2.2.1, 320, .inl c_tape_bytes)), (a_, .inr (4, [.ref a_tape, .ref a_rules, .ref a_places, .ref a_steps, .int c_siteCount, .int c_stepCount, .int c_seenRules, .int w_2, .int w_3, .int c_number, .int w_16]))] H := hP
        replace hD : va_D A [(a_rules, .inl (E.2.1, 3, .inl c_rules)), (a_places, .inl (E.2.1, 16, .inl c_places)), (a_tape, .inr (7, [.ref a_tape_bytes, .int c_tape_length])), (a_tape_bytes, .inl (E.2.2.1, 320, .inl c_tape_bytes)), (a_, .inr (4, [.ref a_tape, .ref a_rules, .ref a_places, .ref a_steps, .int c_siteCount, .int c_stepCount, .int c_seenRules, .int w_2, .int w_3, .int c_number, .int w_16]))] := hD
        rw [hQ]
        have h9 := fin9 (P := fun u9 : Int32 × (Nat → Int32) × (Nat → Int32) × Int32 × Int32 × Int32 × Int32 × Int32 × Int32 => r_15 = u9.1 ∧ va_P E.1 vwCl (w_X3_readClause E a_ a_tape a_rules a_places a_steps a_tape_bytes u9.2.2.2.1 c_stepCount u9.2.2.2.2.1 u9.2.2.2.2.2.1 u9.2.2.2.2.2.2.1 u9.2.2.2.2.2.2.2.1 u9.2.2.2.2.2.2.2.2 c_tape_length c_tape_bytes u9.2.1 u9.2.2.1) H ∧ va_D A (w_X3_readClause E a_ a_tape a_rules a_places a_steps a_tape_bytes u9.2.2.2.1 c_stepCount u9.2.2.2.2.1 u9.2.2.2.2.2.1 u9.2.2.2.2.2.2.1 u9.2.2.2.2.2.2.2.1 u9.2.2.2.2.2.2.2.2 c_tape_length c_tape_bytes u9.2.1 u9.2.2.1)) hF ⟨rfl, hP.sub [4, 2, 3, 0, 1] rfl, hD.sub [4, 2, 3, 0, 1] (by decide) rfl⟩
        obtain ⟨e9_0, hP9, hD9⟩ := h9
        exact W.zret (v := r_15) hx hb hr (nar_bool hb_18) (fun tt ht hW => ⟨⟨_, (), rfl, ⟨e9_0, hb_18⟩, ht ▸ hP9, hD9⟩, hS.F ht⟩) hS.2.2 dX3_readClause_60
      ·
        replace hF := inn c_14 hF
        refine lv_iload_n hx hb dX3_readClause_32 rfl (lv_at hl 0 rfl) ?_
        refine lv_aload_n hx hb dX3_readClause_33 rfl (lv_at hl 1 rfl) ?_
        refine gt_X3_1 (v := .ref a_rules) hx hb hts i_f_X3_readClause_X3 hown hK hP 2 rfl (hts (.fieldLink RX3 9 "HushWatch$Reader" "rules" "[I") (List.mem_of_getElem? (i := 2) rfl)) rfl dX3_readClause_34 ?_
        refine va_alen (v := 3) hx hb hK hP 0 0 rfl rfl rfl dX3_readClause_37 ?_
        refine lv_icmp_ge (tgt := 52) hx hb dX3_readClause_38 (by decide) (fun c_19 => ?_) (fun c_19 => ?_)
        ·
          replace hF := ip c_19 hF
          refine lv_aload_n hx hb dX3_readClause_52 rfl (lv_at hl 1 rfl) ?_
          refine lv_aload_n hx hb dX3_readClause_53 rfl (lv_at hl 1 rfl) ?_
          refine gt_X3_8 (v := .int w_3) hx hb hts i_f_X3_readClause_X3 hown hK hP 2 rfl (hts (.fieldLink RX3 34 "HushWatch$Reader" "wordStart" "I") (List.mem_of_getElem? (i := 1) rfl)) rfl dX3_readClause_54 ?_
          replace hF := bd2_s hF
          obtain ⟨r_20, w_21, hc_22, hF⟩ := hF
          obtain ⟨hPc, hDc, hFc⟩ := wcut (wc := (w_X3_failAt E a_ a_tape a_rules a_places a_steps c_siteCount c_stepCount c_seenRules w_2 w_3 c_number w_4)) hP hD hS hA [2] (by decide) rfl
          have hrc := va_recv hK hPc (ci := 4) (q0 := 0) rfl rfl
          refine cE_z (wc := (w_X3_failAt E a_ a_tape a_rules a_places a_steps c_siteCount c_stepCount c_seenRules w_2 w_3 c_number w_4)) (wr := [(a_rules, .inl (E.2.1, 3, .inl c_rules)), (a_places, .inl (E.2.1, 16, .inl c_places)), (a_tape, .inr (7, [.ref a_tape_bytes, .int c_tape_length])), (a_tape_bytes, .inl (E.2.2.1, 320, .inl c_tape_bytes))]) (w1 := (w_X3_failAt E a_ a_tape a_rules a_places a_steps c_siteCount c_stepCount c_seenRules w_2 w_3 c_number w_21)) (va_runV (As := [.int w_3]) (rest := [])  ⟨hx, hb, hml, hown, hts⟩ (f_X3_failAt l E H.size (a_ := a_) (a_tape := a_tape) (a_rules := a_rules) (a_places := a_places) (a_steps := a_steps) (p1 := w_3) (c_siteCount := c_siteCount) (c_stepCount := c_stepCount) (c_seenRules := c_seenRules) (c_at := w_2) (c_wordStart := w_3) (c_number := c_number) (c_failed := w_4) hc_22) (cwV 1 hts g_f_X3_readClause_f_X3_failAt_87 rfl rfl rfl hd_X3_failAt ⟨Nat.le_of_ble_eq_true rfl, Nat.le_of_ble_eq_true rfl⟩) ⟨pW.blind, hrc, (pW.pre ⟨hK, hN⟩ hPc hDc)⟩ rfl rfl hl.1 rfl (lv_room (Nat.le_of_ble_eq_true rfl)) dX3_readClause_57 ⟨Nat.le_of_ble_eq_true rfl, Nat.le_of_ble_eq_true rfl⟩) hS hFc hP hD [2] [0, 1, 3, 4] rfl rfl (by decide) (by decide) (fun hb_23 H locs hP hD hS => ?_)
          replace hP : va_P E.1 vwCl [(a_rules, .inl (E.2.1, 3, .inl c_rules)), (a_places, .inl (E.2.1, 16, .inl c_places)), (a_tape, .inr (7, [.ref a_tape_bytes, .int c_tape_length])), (a_tape_bytes, .inl (E.2.2.1, 320, .inl c_tape_bytes)), (a_, .inr (4, [.ref a_tape, .ref a_rules, .ref a_places, .ref a_steps, .int c_siteCount, .int c_stepCount, .int c_seenRules, .int w_2, .int w_3, .int c_number, .int w_21]))] H := hP
          replace hD : va_D A [(a_rules, .inl (E.2.1, 3, .inl c_rules)), (a_places, .inl (E.2.1, 16, .inl c_places)), (a_tape, .inr (7, [.ref a_tape_bytes, .int c_tape_length])), (a_tape_bytes, .inl (E.2.2.1, 320, .inl c_tape_bytes)), (a_, .inr (4, [.ref a_tape, .ref a_rules, .ref a_places, .ref a_steps, .int c_siteCount, .int c_stepCount, .int c_seenRules, .int w_2, .int w_3, .int c_number, .int w_21]))] := hD
          rw [hQ]
          have h9 := fin9 (P := fun u9 : Int32 × (Nat → Int32) × (Nat → Int32) × Int32 × Int32 × Int32 × Int32 × Int32 × Int32 => r_20 = u9.1 ∧ va_P E.1 vwCl (w_X3_readClause E a_ a_tape a_rules a_places a_steps a_tape_bytes u9.2.2.2.1 c_stepCount u9.2.2.2.2.1 u9.2.2.2.2.2.1 u9.2.2.2.2.2.2.1 u9.2.2.2.2.2.2.2.1 u9.2.2.2.2.2.2.2.2 c_tape_length c_tape_bytes u9.2.1 u9.2.2.1) H ∧ va_D A (w_X3_readClause E a_ a_tape a_rules a_places a_steps a_tape_bytes u9.2.2.2.1 c_stepCount u9.2.2.2.2.1 u9.2.2.2.2.2.1 u9.2.2.2.2.2.2.1 u9.2.2.2.2.2.2.2.1 u9.2.2.2.2.2.2.2.2 c_tape_length c_tape_bytes u9.2.1 u9.2.2.1)) hF ⟨rfl, hP.sub [4, 2, 3, 0, 1] rfl, hD.sub [4, 2, 3, 0, 1] (by decide) rfl⟩
          obtain ⟨e9_0, hP9, hD9⟩ := h9
          exact W.zret (v := r_20) hx hb hr (nar_bool hb_23) (fun tt ht hW => ⟨⟨_, (), rfl, ⟨e9_0, hb_23⟩, ht ▸ hP9, hD9⟩, hS.F ht⟩) hS.2.2 dX3_readClause_60
        ·
          replace hF := inn c_19 hF
          refine lv_aload_n hx hb dX3_readClause_41 rfl (lv_at hl 1 rfl) ?_
          refine gt_X3_6 (v := .int c_seenRules) hx hb hts i_f_X3_readClause_X3 hown hK hP 2 rfl (hts (.fieldLink RX3 28 "HushWatch$Reader" "seenRules" "I") (List.mem_of_getElem? (i := 3) rfl)) rfl dX3_readClause_42 ?_
          refine lv_iload_n hx hb dX3_readClause_45 rfl (lv_at hl 0 rfl) ?_
          refine lv_ishr hx hb dX3_readClause_46 ?_
          refine lv_iconst (v := 1) hx hb dX3_readClause_47 (by decide) ?_
          refine lv_iand hx hb dX3_readClause_48 ?_
          refine lv_if_eq (tgt := 61) hx hb dX3_readClause_49 (by decide) (fun c_24 => ?_) (fun c_24 => ?_)
          ·
            replace hF := ip c_24 hF
            refine lv_aload_n hx hb dX3_readClause_61 rfl (lv_at hl 1 rfl) ?_
            refine lv_dup hx hb dX3_readClause_62 rfl ?_
            refine gt_X3_6 (v := .int c_seenRules) hx hb hts i_f_X3_readClause_X3 hown hK hP 2 rfl (hts (.fieldLink RX3 28 "HushWatch$Reader" "seenRules" "I") (List.mem_of_getElem? (i := 3) rfl)) rfl dX3_readClause_63 ?_
            refine lv_iconst (v := 1) hx hb dX3_readClause_66 (by decide) ?_
            refine lv_iload_n hx hb dX3_readClause_67 rfl (lv_at hl 0 rfl) ?_
            refine lv_ishl hx hb dX3_readClause_68 ?_
            refine lv_ior hx hb dX3_readClause_69 ?_
            refine pt_X3_6 (v := .int (c_seenRules ||| ((1 : Int32) <<< (r_12 &&& (31 : Int32))))) hx hb hts i_f_X3_readClause_X3 hown hK hP hD hS 2 rfl (hts (.fieldLink RX3 28 "HushWatch$Reader" "seenRules" "I") (List.mem_of_getElem? (i := 3) rfl)) rfl rfl (Nat.le_of_ble_eq_true rfl) dX3_readClause_70 (fun H locs hP hD hS => ?_)
            replace hP : va_P E.1 vwCl [(a_rules, .inl (E.2.1, 3, .inl c_rules)), (a_places, .inl (E.2.1, 16, .inl c_places)), (a_, .inr (4, [.ref a_tape, .ref a_rules, .ref a_places, .ref a_steps, .int c_siteCount, .int c_stepCount, .int (c_seenRules ||| ((1 : Int32) <<< (r_12 &&& (31 : Int32)))), .int w_2, .int w_3, .int c_number, .int w_4])), (a_tape, .inr (7, [.ref a_tape_bytes, .int c_tape_length])), (a_tape_bytes, .inl (E.2.2.1, 320, .inl c_tape_bytes))] H := hP
            replace hD : va_D A [(a_rules, .inl (E.2.1, 3, .inl c_rules)), (a_places, .inl (E.2.1, 16, .inl c_places)), (a_, .inr (4, [.ref a_tape, .ref a_rules, .ref a_places, .ref a_steps, .int c_siteCount, .int c_stepCount, .int (c_seenRules ||| ((1 : Int32) <<< (r_12 &&& (31 : Int32)))), .int w_2, .int w_3, .int c_number, .int w_4])), (a_tape, .inr (7, [.ref a_tape_bytes, .int c_tape_length])), (a_tape_bytes, .inl (E.2.2.1, 320, .inl c_tape_bytes))] := hD
            refine lv_iload_n hx hb dX3_readClause_73 rfl (lv_at hl 0 rfl) ?_
            refine lv_if_ne (tgt := 84) hx hb dX3_readClause_74 (by decide) (fun c_25 => ?_) (fun c_25 => ?_)
            ·
              replace hF := inn c_25 hF
              refine lv_iload_n hx hb dX3_readClause_84 rfl (lv_at hl 0 rfl) ?_
              refine lv_iconst (v := 1) hx hb dX3_readClause_85 (by decide) ?_
              refine lv_icmp_ne (tgt := 100) hx hb dX3_readClause_86 (by decide) (fun c_26 => ?_) (fun c_26 => ?_)
              ·
                replace hF := inn c_26 hF
                refine lv_aload_n hx hb dX3_readClause_100 rfl (lv_at hl 1 rfl) ?_
                refine lv_iconst (v := 1) hx hb dX3_readClause_101 (by decide) ?_
                refine lv_sipush (v := 9999) hx hb dX3_readClause_102 (by decide) ?_
                replace hF := bd4_s hF
                obtain ⟨r_27, w_28, w_29, w_30, hc_31, hF⟩ := hF
                obtain ⟨hPc, hDc, hFc⟩ := wcut (wc := (w_X3_readNumber E a_ a_tape a_rules a_places a_steps a_tape_bytes c_siteCount c_stepCount (c_seenRules ||| ((1 : Int32) <<< (r_12 &&& (31 : Int32)))) w_2 w_3 c_number w_4 c_tape_length c_tape_bytes)) hP hD hS hA [2, 3, 4] (by decide) rfl
                have hrc := va_recv hK hPc (ci := 4) (q0 := 0) rfl rfl
                refine cE_z (wc := (w_X3_readNumber E a_ a_tape a_rules a_places a_steps a_tape_bytes c_siteCount c_stepCount (c_seenRules ||| ((1 : Int32) <<< (r_12 &&& (31 : Int32)))) w_2 w_3 c_number w_4 c_tape_length c_tape_bytes)) (wr := [(a_rules, .inl (E.2.1, 3, .inl c_rules)), (a_places, .inl (E.2.1, 16, .inl c_places))]) (w1 := (w_X3_readNumber E a_ a_tape a_rules a_places a_steps a_tape_bytes c_siteCount c_stepCount (c_seenRules ||| ((1 : Int32) <<< (r_12 &&& (31 : Int32)))) w_28 w_3 w_29 w_30 c_tape_length c_tape_bytes)) (va_runV (As := [.int (1 : Int32), .int (9999 : Int32)]) (rest := [])  ⟨hx, hb, hml, hown, hts⟩ (f_X3_readNumber l E H.size K (a_ := a_) (a_tape := a_tape) (a_rules := a_rules) (a_places := a_places) (a_steps := a_steps) (a_tape_bytes := a_tape_bytes) (p1 := (1 : Int32)) (p2 := (9999 : Int32)) (c_siteCount := c_siteCount) (c_stepCount := c_stepCount) (c_seenRules := c_seenRules ||| ((1 : Int32) <<< (r_12 &&& (31 : Int32)))) (c_at := w_2) (c_wordStart := w_3) (c_number := c_number) (c_failed := w_4) (c_tape_length := c_tape_length) (c_tape_bytes := c_tape_bytes) hc_31) (cwV 2 hts g_f_X3_readClause_f_X3_readNumber_96 rfl rfl rfl hd_X3_readNumber ⟨Nat.le_of_ble_eq_true rfl, Nat.le_of_ble_eq_true rfl⟩) ⟨pW.blind, hrc, (pW.pre ⟨hK, hN⟩ hPc hDc)⟩ rfl rfl hl.1 rfl (lv_room (Nat.le_of_ble_eq_true rfl)) dX3_readClause_105 ⟨Nat.le_of_ble_eq_true rfl, Nat.le_of_ble_eq_true rfl⟩) hS hFc hP hD [2, 3, 4] [0, 1] rfl rfl (by decide) (by decide) (fun hb_32 H locs hP hD hS => ?_)
                replace hP : va_P E.1 vwCl [(a_rules, .inl (E.2.1, 3, .inl c_rules)), (a_places, .inl (E.2.1, 16, .inl c_places)), (a_, .inr (4, [.ref a_tape, .ref a_rules, .ref a_places, .ref a_steps, .int c_siteCount, .int c_stepCount, .int (c_seenRules ||| ((1 : Int32) <<< (r_12 &&& (31 : Int32)))), .int w_28, .int w_3, .int w_29, .int w_30])), (a_tape, .inr (7, [.ref a_tape_bytes, .int c_tape_length])), (a_tape_bytes, .inl (E.2.2.1, 320, .inl c_tape_bytes))] H := hP
                replace hD : va_D A [(a_rules, .inl (E.2.1, 3, .inl c_rules)), (a_places, .inl (E.2.1, 16, .inl c_places)), (a_, .inr (4, [.ref a_tape, .ref a_rules, .ref a_places, .ref a_steps, .int c_siteCount, .int c_stepCount, .int (c_seenRules ||| ((1 : Int32) <<< (r_12 &&& (31 : Int32)))), .int w_28, .int w_3, .int w_29, .int w_30])), (a_tape, .inr (7, [.ref a_tape_bytes, .int c_tape_length])), (a_tape_bytes, .inl (E.2.2.1, 320, .inl c_tape_bytes))] := hD
                exact j_X3_readClause_108 l E K (c_stepCount := c_stepCount) (c_tape_length := c_tape_length) (c_tape_bytes := c_tape_bytes) (k0 := r_27) (x1 := r_12) (c_rules := c_rules) (c_places := c_places) (c_siteCount := c_siteCount) (c_seenRules := c_seenRules ||| ((1 : Int32) <<< (r_12 &&& (31 : Int32)))) (c_at := w_28) (c_wordStart := w_3) (c_number := w_29) (c_failed := w_30) hx hb hml hown hts hK hN hA hZ hr hlocks hQ hF H locs ls (hP.sub [2, 3, 4, 0, 1] rfl) (hD.sub [2, 3, 4, 0, 1] (by decide) rfl) hS (lv_sub hl [1, 0] rfl)
              ·
                replace hF := ip c_26 hF
                refine lv_aload_n hx hb dX3_readClause_89 rfl (lv_at hl 1 rfl) ?_
                refine lv_ldc (v := -9999999) hx hb hown (hts (.constant RX3 94 (-9999999)) (List.mem_of_getElem? (i := 5) rfl)) dX3_readClause_90 ?_
                refine lv_ldc (v := 9999999) hx hb hown (hts (.constant RX3 95 (9999999)) (List.mem_of_getElem? (i := 6) rfl)) dX3_readClause_92 ?_
                replace hF := bd4_s hF
                obtain ⟨r_38, w_39, w_40, w_41, hc_42, hF⟩ := hF
                obtain ⟨hPc, hDc, hFc⟩ := wcut (wc := (w_X3_readNumber E a_ a_tape a_rules a_places a_steps a_tape_bytes c_siteCount c_stepCount (c_seenRules ||| ((1 : Int32) <<< (r_12 &&& (31 : Int32)))) w_2 w_3 c_number w_4 c_tape_length c_tape_bytes)) hP hD hS hA [2, 3, 4] (by decide) rfl
                have hrc := va_recv hK hPc (ci := 4) (q0 := 0) rfl rfl
                refine cE_z (wc := (w_X3_readNumber E a_ a_tape a_rules a_places a_steps a_tape_bytes c_siteCount c_stepCount (c_seenRules ||| ((1 : Int32) <<< (r_12 &&& (31 : Int32)))) w_2 w_3 c_number w_4 c_tape_length c_tape_bytes)) (wr := [(a_rules, .inl (E.2.1, 3, .inl c_rules)), (a_places, .inl (E.2.1, 16, .inl c_places))]) (w1 := (w_X3_readNumber E a_ a_tape a_rules a_places a_steps a_tape_bytes c_siteCount c_stepCount (c_seenRules ||| ((1 : Int32) <<< (r_12 &&& (31 : Int32)))) w_39 w_3 w_40 w_41 c_tape_length c_tape_bytes)) (va_runV (As := [.int (-9999999 : Int32), .int (9999999 : Int32)]) (rest := [])  ⟨hx, hb, hml, hown, hts⟩ (f_X3_readNumber l E H.size K (a_ := a_) (a_tape := a_tape) (a_rules := a_rules) (a_places := a_places) (a_steps := a_steps) (a_tape_bytes := a_tape_bytes) (p1 := (-9999999 : Int32)) (p2 := (9999999 : Int32)) (c_siteCount := c_siteCount) (c_stepCount := c_stepCount) (c_seenRules := c_seenRules ||| ((1 : Int32) <<< (r_12 &&& (31 : Int32)))) (c_at := w_2) (c_wordStart := w_3) (c_number := c_number) (c_failed := w_4) (c_tape_length := c_tape_length) (c_tape_bytes := c_tape_bytes) hc_42) (cwV 2 hts g_f_X3_readClause_f_X3_readNumber_96 rfl rfl rfl hd_X3_readNumber ⟨Nat.le_of_ble_eq_true rfl, Nat.le_of_ble_eq_true rfl⟩) ⟨pW.blind, hrc, (pW.pre ⟨hK, hN⟩ hPc hDc)⟩ rfl rfl hl.1 rfl (lv_room (Nat.le_of_ble_eq_true rfl)) dX3_readClause_94 ⟨Nat.le_of_ble_eq_true rfl, Nat.le_of_ble_eq_true rfl⟩) hS hFc hP hD [2, 3, 4] [0, 1] rfl rfl (by decide) (by decide) (fun hb_43 H locs hP hD hS => ?_)
                replace hP : va_P E.1 vwCl [(a_rules, .inl (E.2.1, 3, .inl c_rules)), (a_places, .inl (E.2.1, 16, .inl c_places)), (a_, .inr (4, [.ref a_tape, .ref a_rules, .ref a_places, .ref a_steps, .int c_siteCount, .int c_stepCount, .int (c_seenRules ||| ((1 : Int32) <<< (r_12 &&& (31 : Int32)))), .int w_39, .int w_3, .int w_40, .int w_41])), (a_tape, .inr (7, [.ref a_tape_bytes, .int c_tape_length])), (a_tape_bytes, .inl (E.2.2.1, 320, .inl c_tape_bytes))] H := hP
                replace hD : va_D A [(a_rules, .inl (E.2.1, 3, .inl c_rules)), (a_places, .inl (E.2.1, 16, .inl c_places)), (a_, .inr (4, [.ref a_tape, .ref a_rules, .ref a_places, .ref a_steps, .int c_siteCount, .int c_stepCount, .int (c_seenRules ||| ((1 : Int32) <<< (r_12 &&& (31 : Int32)))), .int w_39, .int w_3, .int w_40, .int w_41])), (a_tape, .inr (7, [.ref a_tape_bytes, .int c_tape_length])), (a_tape_bytes, .inl (E.2.2.1, 320, .inl c_tape_bytes))] := hD
                refine lv_goto (tgt := 108) hx hb dX3_readClause_97 (by decide) ?_
                exact j_X3_readClause_108 l E K (c_stepCount := c_stepCount) (c_tape_length := c_tape_length) (c_tape_bytes := c_tape_bytes) (k0 := r_38) (x1 := r_12) (c_rules := c_rules) (c_places := c_places) (c_siteCount := c_siteCount) (c_seenRules := c_seenRules ||| ((1 : Int32) <<< (r_12 &&& (31 : Int32)))) (c_at := w_39) (c_wordStart := w_3) (c_number := w_40) (c_failed := w_41) hx hb hml hown hts hK hN hA hZ hr hlocks hQ hF H locs ls (hP.sub [2, 3, 4, 0, 1] rfl) (hD.sub [2, 3, 4, 0, 1] (by decide) rfl) hS (lv_sub hl [1, 0] rfl)
            ·
              replace hF := ip c_25 hF
              refine lv_aload_n hx hb dX3_readClause_77 rfl (lv_at hl 1 rfl) ?_
              replace hF := bd5_s hF
              obtain ⟨r_44, w_45, w_46, w_47, w_48, hc_49, hF⟩ := hF
              obtain ⟨hPc, hDc, hFc⟩ := wcut (wc := (w_X3_readLaw E a_ a_tape a_rules a_places a_steps a_tape_bytes c_siteCount c_stepCount (c_seenRules ||| ((1 : Int32) <<< (r_12 &&& (31 : Int32)))) w_2 w_3 c_number w_4 c_tape_length c_tape_bytes)) hP hD hS hA [2, 3, 4] (by decide) rfl
              have hrc := va_recv hK hPc (ci := 4) (q0 := 0) rfl rfl
              refine cE_z (wc := (w_X3_readLaw E a_ a_tape a_rules a_places a_steps a_tape_bytes c_siteCount c_stepCount (c_seenRules ||| ((1 : Int32) <<< (r_12 &&& (31 : Int32)))) w_2 w_3 c_number w_4 c_tape_length c_tape_bytes)) (wr := [(a_rules, .inl (E.2.1, 3, .inl c_rules)), (a_places, .inl (E.2.1, 16, .inl c_places))]) (w1 := (w_X3_readLaw E a_ a_tape a_rules a_places a_steps a_tape_bytes c_siteCount c_stepCount (c_seenRules ||| ((1 : Int32) <<< (r_12 &&& (31 : Int32)))) w_45 w_46 w_47 w_48 c_tape_length c_tape_bytes)) (va_runV (As := []) (rest := [])  ⟨hx, hb, hml, hown, hts⟩ (f_X3_readLaw l E H.size K z9 (a_ := a_) (a_tape := a_tape) (a_rules := a_rules) (a_places := a_places) (a_steps := a_steps) (a_tape_bytes := a_tape_bytes) (c_siteCount := c_siteCount) (c_stepCount := c_stepCount) (c_seenRules := c_seenRules ||| ((1 : Int32) <<< (r_12 &&& (31 : Int32)))) (c_at := w_2) (c_wordStart := w_3) (c_number := c_number) (c_failed := w_4) (c_tape_length := c_tape_length) (c_tape_bytes := c_tape_bytes) hc_49) (cwV 0 hts g_f_X3_readClause_f_X3_readLaw_91 rfl rfl rfl hd_X3_readLaw ⟨Nat.le_of_ble_eq_true rfl, Nat.le_of_ble_eq_true rfl⟩) ⟨qWZ.blind, hrc, (qWZ.pre ⟨hK, hN⟩ hPc hDc hZ hS hFc)⟩ rfl rfl hl.1 rfl (lv_room (Nat.le_of_ble_eq_true rfl)) dX3_readClause_78 ⟨Nat.le_of_ble_eq_true rfl, Nat.le_of_ble_eq_true rfl⟩) hS hFc hP hD [2, 3, 4] [0, 1] rfl rfl (by decide) (by decide) (fun hb_50 H locs hP hD hS => ?_)
              replace hP : va_P E.1 vwCl [(a_rules, .inl (E.2.1, 3, .inl c_rules)), (a_places, .inl (E.2.1, 16, .inl c_places)), (a_, .inr (4, [.ref a_tape, .ref a_rules, .ref a_places, .ref a_steps, .int c_siteCount, .int c_stepCount, .int (c_seenRules ||| ((1 : Int32) <<< (r_12 &&& (31 : Int32)))), .int w_45, .int w_46, .int w_47, .int w_48])), (a_tape, .inr (7, [.ref a_tape_bytes, .int c_tape_length])), (a_tape_bytes, .inl (E.2.2.1, 320, .inl c_tape_bytes))] H := hP
              replace hD : va_D A [(a_rules, .inl (E.2.1, 3, .inl c_rules)), (a_places, .inl (E.2.1, 16, .inl c_places)), (a_, .inr (4, [.ref a_tape, .ref a_rules, .ref a_places, .ref a_steps, .int c_siteCount, .int c_stepCount, .int (c_seenRules ||| ((1 : Int32) <<< (r_12 &&& (31 : Int32)))), .int w_45, .int w_46, .int w_47, .int w_48])), (a_tape, .inr (7, [.ref a_tape_bytes, .int c_tape_length])), (a_tape_bytes, .inl (E.2.2.1, 320, .inl c_tape_bytes))] := hD
              refine lv_goto (tgt := 108) hx hb dX3_readClause_81 (by decide) ?_
              exact j_X3_readClause_108 l E K (c_stepCount := c_stepCount) (c_tape_length := c_tape_length) (c_tape_bytes := c_tape_bytes) (k0 := r_44) (x1 := r_12) (c_rules := c_rules) (c_places := c_places) (c_siteCount := c_siteCount) (c_seenRules := c_seenRules ||| ((1 : Int32) <<< (r_12 &&& (31 : Int32)))) (c_at := w_45) (c_wordStart := w_46) (c_number := w_47) (c_failed := w_48) hx hb hml hown hts hK hN hA hZ hr hlocks hQ hF H locs ls (hP.sub [2, 3, 4, 0, 1] rfl) (hD.sub [2, 3, 4, 0, 1] (by decide) rfl) hS (lv_sub hl [1, 0] rfl)
          ·
            replace hF := inn c_24 hF
            refine lv_aload_n hx hb dX3_readClause_52 rfl (lv_at hl 1 rfl) ?_
            refine lv_aload_n hx hb dX3_readClause_53 rfl (lv_at hl 1 rfl) ?_
            refine gt_X3_8 (v := .int w_3) hx hb hts i_f_X3_readClause_X3 hown hK hP 2 rfl (hts (.fieldLink RX3 34 "HushWatch$Reader" "wordStart" "I") (List.mem_of_getElem? (i := 1) rfl)) rfl dX3_readClause_54 ?_
            replace hF := bd2_s hF
            obtain ⟨r_51, w_52, hc_53, hF⟩ := hF
            obtain ⟨hPc, hDc, hFc⟩ := wcut (wc := (w_X3_failAt E a_ a_tape a_rules a_places a_steps c_siteCount c_stepCount c_seenRules w_2 w_3 c_number w_4)) hP hD hS hA [2] (by decide) rfl
            have hrc := va_recv hK hPc (ci := 4) (q0 := 0) rfl rfl
            refine cE_z (wc := (w_X3_failAt E a_ a_tape a_rules a_places a_steps c_siteCount c_stepCount c_seenRules w_2 w_3 c_number w_4)) (wr := [(a_rules, .inl (E.2.1, 3, .inl c_rules)), (a_places, .inl (E.2.1, 16, .inl c_places)), (a_tape, .inr (7, [.ref a_tape_bytes, .int c_tape_length])), (a_tape_bytes, .inl (E.2.2.1, 320, .inl c_tape_bytes))]) (w1 := (w_X3_failAt E a_ a_tape a_rules a_places a_steps c_siteCount c_stepCount c_seenRules w_2 w_3 c_number w_52)) (va_runV (As := [.int w_3]) (rest := [])  ⟨hx, hb, hml, hown, hts⟩ (f_X3_failAt l E H.size (a_ := a_) (a_tape := a_tape) (a_rules := a_rules) (a_places := a_places) (a_steps := a_steps) (p1 := w_3) (c_siteCount := c_siteCount) (c_stepCount := c_stepCount) (c_seenRules := c_seenRules) (c_at := w_2) (c_wordStart := w_3) (c_number := c_number) (c_failed := w_4) hc_53) (cwV 1 hts g_f_X3_readClause_f_X3_failAt_87 rfl rfl rfl hd_X3_failAt ⟨Nat.le_of_ble_eq_true rfl, Nat.le_of_ble_eq_true rfl⟩) ⟨pW.blind, hrc, (pW.pre ⟨hK, hN⟩ hPc hDc)⟩ rfl rfl hl.1 rfl (lv_room (Nat.le_of_ble_eq_true rfl)) dX3_readClause_57 ⟨Nat.le_of_ble_eq_true rfl, Nat.le_of_ble_eq_true rfl⟩) hS hFc hP hD [2] [0, 1, 3, 4] rfl rfl (by decide) (by decide) (fun hb_54 H locs hP hD hS => ?_)
            replace hP : va_P E.1 vwCl [(a_rules, .inl (E.2.1, 3, .inl c_rules)), (a_places, .inl (E.2.1, 16, .inl c_places)), (a_tape, .inr (7, [.ref a_tape_bytes, .int c_tape_length])), (a_tape_bytes, .inl (E.2.2.1, 320, .inl c_tape_bytes)), (a_, .inr (4, [.ref a_tape, .ref a_rules, .ref a_places, .ref a_steps, .int c_siteCount, .int c_stepCount, .int c_seenRules, .int w_2, .int w_3, .int c_number, .int w_52]))] H := hP
            replace hD : va_D A [(a_rules, .inl (E.2.1, 3, .inl c_rules)), (a_places, .inl (E.2.1, 16, .inl c_places)), (a_tape, .inr (7, [.ref a_tape_bytes, .int c_tape_length])), (a_tape_bytes, .inl (E.2.2.1, 320, .inl c_tape_bytes)), (a_, .inr (4, [.ref a_tape, .ref a_rules, .ref a_places, .ref a_steps, .int c_siteCount, .int c_stepCount, .int c_seenRules, .int w_2, .int w_3, .int c_number, .int w_52]))] := hD
            rw [hQ]
            have h9 := fin9 (P := fun u9 : Int32 × (Nat → Int32) × (Nat → Int32) × Int32 × Int32 × Int32 × Int32 × Int32 × Int32 => r_51 = u9.1 ∧ va_P E.1 vwCl (w_X3_readClause E a_ a_tape a_rules a_places a_steps a_tape_bytes u9.2.2.2.1 c_stepCount u9.2.2.2.2.1 u9.2.2.2.2.2.1 u9.2.2.2.2.2.2.1 u9.2.2.2.2.2.2.2.1 u9.2.2.2.2.2.2.2.2 c_tape_length c_tape_bytes u9.2.1 u9.2.2.1) H ∧ va_D A (w_X3_readClause E a_ a_tape a_rules a_places a_steps a_tape_bytes u9.2.2.2.1 c_stepCount u9.2.2.2.2.1 u9.2.2.2.2.2.1 u9.2.2.2.2.2.2.1 u9.2.2.2.2.2.2.2.1 u9.2.2.2.2.2.2.2.2 c_tape_length c_tape_bytes u9.2.1 u9.2.2.1)) hF ⟨rfl, hP.sub [4, 2, 3, 0, 1] rfl, hD.sub [4, 2, 3, 0, 1] (by decide) rfl⟩
            obtain ⟨e9_0, hP9, hD9⟩ := h9
            exact W.zret (v := r_51) hx hb hr (nar_bool hb_54) (fun tt ht hW => ⟨⟨_, (), rfl, ⟨e9_0, hb_54⟩, ht ▸ hP9, hD9⟩, hS.F ht⟩) hS.2.2 dX3_readClause_60
    ·
      replace hF := inn c_11 hF
      refine lv_aload_n hx hb dX3_readClause_18 rfl (lv_at hl 0 rfl) ?_
      replace hF := bd6_s hF
      obtain ⟨r_55, w_56, w_57, w_58, w_59, w_60, hc_61, hF⟩ := hF
      obtain ⟨hPc, hDc, hFc⟩ := wcut (wc := (w_X3_readSite E a_ a_tape a_rules a_places a_steps a_tape_bytes c_siteCount c_stepCount c_seenRules w_2 w_3 c_number w_4 c_tape_length c_tape_bytes c_places)) hP hD hS hA [2, 3, 4, 1] (by decide) rfl
      have hrc := va_recv hK hPc (ci := 4) (q0 := 0) rfl rfl
      refine cE_z (wc := (w_X3_readSite E a_ a_tape a_rules a_places a_steps a_tape_bytes c_siteCount c_stepCount c_seenRules w_2 w_3 c_number w_4 c_tape_length c_tape_bytes c_places)) (wr := [(a_rules, .inl (E.2.1, 3, .inl c_rules))]) (w1 := (w_X3_readSite E a_ a_tape a_rules a_places a_steps a_tape_bytes w_57 c_stepCount c_seenRules w_58 w_3 w_59 w_60 c_tape_length c_tape_bytes w_56)) (va_runV (As := []) (rest := [])  ⟨hx, hb, hml, hown, hts⟩ (f_X3_readSite l E H.size K (a_ := a_) (a_tape := a_tape) (a_rules := a_rules) (a_places := a_places) (a_steps := a_steps) (a_tape_bytes := a_tape_bytes) (c_siteCount := c_siteCount) (c_stepCount := c_stepCount) (c_seenRules := c_seenRules) (c_at := w_2) (c_wordStart := w_3) (c_number := c_number) (c_failed := w_4) (c_tape_length := c_tape_length) (c_tape_bytes := c_tape_bytes) (c_places := c_places) hc_61) (cwV 0 hts g_f_X3_readClause_f_X3_readSite_80 rfl rfl rfl hd_X3_readSite ⟨Nat.le_of_ble_eq_true rfl, Nat.le_of_ble_eq_true rfl⟩) ⟨pW.blind, hrc, (pW.pre ⟨hK, hN⟩ hPc hDc)⟩ rfl rfl hl.1 rfl (lv_room (Nat.le_of_ble_eq_true rfl)) dX3_readClause_19 ⟨Nat.le_of_ble_eq_true rfl, Nat.le_of_ble_eq_true rfl⟩) hS hFc hP hD [2, 3, 4, 1] [0] rfl rfl (by decide) (by decide) (fun hb_62 H locs hP hD hS => ?_)
      replace hP : va_P E.1 vwCl [(a_rules, .inl (E.2.1, 3, .inl c_rules)), (a_, .inr (4, [.ref a_tape, .ref a_rules, .ref a_places, .ref a_steps, .int w_57, .int c_stepCount, .int c_seenRules, .int w_58, .int w_3, .int w_59, .int w_60])), (a_tape, .inr (7, [.ref a_tape_bytes, .int c_tape_length])), (a_tape_bytes, .inl (E.2.2.1, 320, .inl c_tape_bytes)), (a_places, .inl (E.2.1, 16, .inl w_56))] H := hP
      replace hD : va_D A [(a_rules, .inl (E.2.1, 3, .inl c_rules)), (a_, .inr (4, [.ref a_tape, .ref a_rules, .ref a_places, .ref a_steps, .int w_57, .int c_stepCount, .int c_seenRules, .int w_58, .int w_3, .int w_59, .int w_60])), (a_tape, .inr (7, [.ref a_tape_bytes, .int c_tape_length])), (a_tape_bytes, .inl (E.2.2.1, 320, .inl c_tape_bytes)), (a_places, .inl (E.2.1, 16, .inl w_56))] := hD
      rw [hQ]
      have h9 := fin9 (P := fun u9 : Int32 × (Nat → Int32) × (Nat → Int32) × Int32 × Int32 × Int32 × Int32 × Int32 × Int32 => r_55 = u9.1 ∧ va_P E.1 vwCl (w_X3_readClause E a_ a_tape a_rules a_places a_steps a_tape_bytes u9.2.2.2.1 c_stepCount u9.2.2.2.2.1 u9.2.2.2.2.2.1 u9.2.2.2.2.2.2.1 u9.2.2.2.2.2.2.2.1 u9.2.2.2.2.2.2.2.2 c_tape_length c_tape_bytes u9.2.1 u9.2.2.1) H ∧ va_D A (w_X3_readClause E a_ a_tape a_rules a_places a_steps a_tape_bytes u9.2.2.2.1 c_stepCount u9.2.2.2.2.1 u9.2.2.2.2.2.1 u9.2.2.2.2.2.2.1 u9.2.2.2.2.2.2.2.1 u9.2.2.2.2.2.2.2.2 c_tape_length c_tape_bytes u9.2.1 u9.2.2.1)) hF ⟨rfl, hP.sub [1, 2, 3, 0, 4] rfl, hD.sub [1, 2, 3, 0, 4] (by decide) rfl⟩
      obtain ⟨e9_0, hP9, hD9⟩ := h9
      exact W.zret (v := r_55) hx hb hr (nar_bool hb_62) (fun tt ht hW => ⟨⟨_, (), rfl, ⟨e9_0, hb_62⟩, ht ▸ hP9, hD9⟩, hS.F ht⟩) hS.2.2 dX3_readClause_22
  ·
    replace hF := ip c_7 hF
    refine lv_iconst (v := 0) hx hb dX3_readClause_7 (by decide) ?_
    rw [hQ]
    have h9 := fin9 (P := fun u9 : Int32 × (Nat → Int32) × (Nat → Int32) × Int32 × Int32 × Int32 × Int32 × Int32 × Int32 => (0 : Int32) = u9.1 ∧ va_P E.1 vwCl (w_X3_readClause E a_ a_tape a_rules a_places a_steps a_tape_bytes u9.2.2.2.1 c_stepCount u9.2.2.2.2.1 u9.2.2.2.2.2.1 u9.2.2.2.2.2.2.1 u9.2.2.2.2.2.2.2.1 u9.2.2.2.2.2.2.2.2 c_tape_length c_tape_bytes u9.2.1 u9.2.2.1) H ∧ va_D A (w_X3_readClause E a_ a_tape a_rules a_places a_steps a_tape_bytes u9.2.2.2.1 c_stepCount u9.2.2.2.2.1 u9.2.2.2.2.2.1 u9.2.2.2.2.2.2.1 u9.2.2.2.2.2.2.2.1 u9.2.2.2.2.2.2.2.2 c_tape_length c_tape_bytes u9.2.1 u9.2.2.1)) hF ⟨rfl, hP.sub [2, 3, 4, 0, 1] rfl, hD.sub [2, 3, 4, 0, 1] (by decide) rfl⟩
    obtain ⟨e9_0, hP9, hD9⟩ := h9
    exact W.zret (v := (0 : Int32)) hx hb hr rfl (fun tt ht hW => ⟨⟨_, (), rfl, ⟨e9_0, Or.inl rfl⟩, ht ▸ hP9, hD9⟩, hS.F ht⟩) hS.2.2 dX3_readClause_8

def F_X3_start (c_rules : Nat → Int32) (c_siteCount : Int32) (c_stepCount : Int32) (c_seenRules : Int32) (c_at : Int32) (c_failed : Int32) : Option ((Nat → Int32) × Int32 × Int32 × Int32 × Int32 × Int32) :=
  nmF (upd c_rules 0 (0 : Int32)) (fun f_1 => nmF (upd f_1 1 (1000 : Int32)) (fun f_2 => nmF (upd f_2 2 (100 : Int32)) (fun f_3 => some (f_3, (0 : Int32), (0 : Int32), (0 : Int32), (0 : Int32), (-1 : Int32)))))
abbrev w_X3_start (E : EE) (a_ a_tape a_rules a_places a_steps : Nat) (c_siteCount : Int32) (c_stepCount : Int32) (c_seenRules : Int32) (c_at : Int32) (c_wordStart : Int32) (c_number : Int32) (c_failed : Int32) (c_rules : Nat → Int32) : va_W := [(a_, .inr (4, [.ref a_tape, .ref a_rules, .ref a_places, .ref a_steps, .int c_siteCount, .int c_stepCount, .int c_seenRules, .int c_at, .int c_wordStart, .int c_number, .int c_failed])), (a_rules, .inl (E.2.1, 3, .inl c_rules))]
def v_f_X3_start : List Cond := List.cons (.code yX3_start cX3_start 1 none) (HAppend.hAppend (α := List Cond) (β := List Cond) (γ := List Cond) [.fieldLink RX3 9 "HushWatch$Reader" "rules" "[I", .fieldLink RX3 21 "HushWatch$Reader" "siteCount" "I", .fieldLink RX3 25 "HushWatch$Reader" "stepCount" "I", .fieldLink RX3 28 "HushWatch$Reader" "seenRules" "I", .fieldLink RX3 31 "HushWatch$Reader" "at" "I", .fieldLink RX3 40 "HushWatch$Reader" "failed" "I"] (HAppend.hAppend (α := List Cond) (β := List Cond) (γ := List Cond) wsX30 []))
theorem gw_f_X3_start : v_f_X3_start.all goodWord = true := by decide +kernel
theorem i_f_X3_start_X3 : ∀ w ∈ wsX30, w ∈ v_f_X3_start := fun _ h => List.mem_cons_of_mem _ (List.mem_append_right _ (List.mem_append_left _ h))
theorem hd_X3_start : yX3_start.cls = RX3 ∧ yX3_start.cls ≠ "java/lang/invoke/MethodHandle" ∧ yX3_start.cls ≠ "java/lang/invoke/VarHandle" ∧ (parseMethodDescriptor yX3_start.desc).map (fun d => d.parameters.length) = some 0 := by decide +kernel
set_option maxHeartbeats 4000000 in
set_option maxRecDepth 100000 in
theorem f_X3_start (l : Launch) (E : EE) (sz : Nat) {a_ a_tape a_rules a_places a_steps : Nat} {c_siteCount : Int32} {c_stepCount : Int32} {c_seenRules : Int32} {c_at : Int32} {c_wordStart : Int32} {c_number : Int32} {c_failed : Int32} {c_rules : Nat → Int32} {n_rules : Nat → Int32} {n_siteCount : Int32} {n_stepCount : Int32} {n_seenRules : Int32} {n_at : Int32} {n_failed : Int32} (hF : F_X3_start c_rules c_siteCount c_stepCount c_seenRules c_at c_failed = some (n_rules, n_siteCount, n_stepCount, n_seenRules, n_at, n_failed)) : Met l yX3_start v_f_X3_start (({ frames := 0, cells := 0, slots := 0, locals := 0 } : Room)) (va_Pc [.ref a_] (pW E sz (w_X3_start E a_ a_tape a_rules a_places a_steps c_siteCount c_stepCount c_seenRules c_at c_wordStart c_number c_failed c_rules))) (va_Qv (fun (_u : Unit) => True) (fun (_u : Unit) tt => va_P E.1 vwCl (w_X3_start E a_ a_tape a_rules a_places a_steps n_siteCount n_stepCount n_seenRules n_at c_wordStart c_number n_failed n_rules) tt.heap ∧ va_D (va_A (w_X3_start E a_ a_tape a_rules a_places a_steps c_siteCount c_stepCount c_seenRules c_at c_wordStart c_number c_failed c_rules) sz) (w_X3_start E a_ a_tape a_rules a_places a_steps n_siteCount n_stepCount n_seenRules n_at c_wordStart c_number n_failed n_rules)) (va_A (w_X3_start E a_ a_tape a_rules a_places a_steps c_siteCount c_stepCount c_seenRules c_at c_wordStart c_number c_failed c_rules) sz)) 0 0 (va_A (w_X3_start E a_ a_tape a_rules a_places a_steps c_siteCount c_stepCount c_seenRules c_at c_wordStart c_number c_failed c_rules) sz) := by
  refine Met.ofW (cc := cX3_start) (maxL := 1) (ret := none) (by decide) rfl ?_
  intro p e s m args below meth c s₁ B hml hv
  obtain ⟨rfl, hsz, ⟨hK, hN⟩, hP, hD0⟩ := hv
  have hx := B.exec
  have hb := B.bytes
  have hr := B.returns
  have hts := atoms_spec (ws := v_f_X3_start) B.pre
  have hown : s.vm.findClass RX3 = some m.cls := own_of hd_X3_start.1 (findClass_of_methodNamed B.named)
  have hlocks : meth.locks = false := B.notSynchronized
  subst hsz
  have hD := hD0.self (sz := s.heap.size)
  generalize hAe : va_A (w_X3_start E a_ a_tape a_rules a_places a_steps c_siteCount c_stepCount c_seenRules c_at c_wordStart c_number c_failed c_rules) s.heap.size = A at hD ⊢
  have hA : ∀ q : Nat, s.heap.size ≤ q → A q := fun q h => by rw [← hAe]; exact Or.inr h
  have hS : va_S A s.heap s.heap [] := va_S.rf
  have hl := lv_entry ([.ref a_]) (n := 1) (Nat.le_of_ble_eq_true rfl)
  rw [lg_entry_eq]
  generalize (lg_sl ([.ref a_]) ++ List.replicate (1 - (lg_sl ([.ref a_])).length) Slot.unset).toArray = ls at hl ⊢
  have hl : lv_has ls 1 [(0, .ref a_)] := hl
  obtain ⟨Q, hQ⟩ : ∃ Q : State → Prop, Q = MQ below (va_Qv (fun (_u : Unit) => True) (fun (_u : Unit) tt => va_P E.1 vwCl (w_X3_start E a_ a_tape a_rules a_places a_steps n_siteCount n_stepCount n_seenRules n_at c_wordStart c_number n_failed n_rules) tt.heap ∧ va_D A (w_X3_start E a_ a_tape a_rules a_places a_steps n_siteCount n_stepCount n_seenRules n_at c_wordStart c_number n_failed n_rules)) A) #[Value.ref a_] s 0 0 A := ⟨_, rfl⟩
  rw [← hQ]
  change W p l e ({ frames := 0, cells := 0, slots := 0, locals := 0 } : Room) s m #[Value.ref a_] below meth c s.heap [] 0 0 Q (F0 m 0 ls [])
  suffices hh9 : ∀ (H : Heap) (locs : List Loc), va_P E.1 vwCl (w_X3_start E a_ a_tape a_rules a_places a_steps c_siteCount c_stepCount c_seenRules c_at c_wordStart c_number c_failed c_rules) H → va_D A (w_X3_start E a_ a_tape a_rules a_places a_steps c_siteCount c_stepCount c_seenRules c_at c_wordStart c_number c_failed c_rules) → va_S A s.heap H locs → W p l e ({ frames := 0, cells := 0, slots := 0, locals := 0 } : Room) s m #[Value.ref a_] below meth c H locs 0 0 Q (F0 m 0 ls []) from hh9 s.heap [] hP hD hS
  clear hP hD hS
  intro H locs hP hD hS
  replace hP : va_P E.1 vwCl [(a_, .inr (4, [.ref a_tape, .ref a_rules, .ref a_places, .ref a_steps, .int c_siteCount, .int c_stepCount, .int c_seenRules, .int c_at, .int c_wordStart, .int c_number, .int c_failed])), (a_rules, .inl (E.2.1, 3, .inl c_rules))] H := hP
  replace hD : va_D A [(a_, .inr (4, [.ref a_tape, .ref a_rules, .ref a_places, .ref a_steps, .int c_siteCount, .int c_stepCount, .int c_seenRules, .int c_at, .int c_wordStart, .int c_number, .int c_failed])), (a_rules, .inl (E.2.1, 3, .inl c_rules))] := hD
  unfold F_X3_start at hF
  refine lv_aload_n hx hb dX3_start_0 rfl (lv_at hl 0 rfl) ?_
  refine gt_X3_1 (v := .ref a_rules) hx hb hts i_f_X3_start_X3 hown hK hP 0 rfl (hts (.fieldLink RX3 9 "HushWatch$Reader" "rules" "[I") (List.mem_of_getElem? (i := 1) rfl)) rfl dX3_start_1 ?_
  refine lv_iconst (v := 0) hx hb dX3_start_4 (by decide) ?_
  refine lv_iconst (v := 0) hx hb dX3_start_5 (by decide) ?_
  refine va_iast hx hb hK hP hD hS 1 0 rfl rfl (vin rfl) dX3_start_6 (fun H locs hP hD hS => ?_)
  replace hP : va_P E.1 vwCl [(a_, .inr (4, [.ref a_tape, .ref a_rules, .ref a_places, .ref a_steps, .int c_siteCount, .int c_stepCount, .int c_seenRules, .int c_at, .int c_wordStart, .int c_number, .int c_failed])), (a_rules, .inl (E.2.1, 3, .inl (upd c_rules 0 (0 : Int32))))] H := hP
  replace hD : va_D A [(a_, .inr (4, [.ref a_tape, .ref a_rules, .ref a_places, .ref a_steps, .int c_siteCount, .int c_stepCount, .int c_seenRules, .int c_at, .int c_wordStart, .int c_number, .int c_failed])), (a_rules, .inl (E.2.1, 3, .inl (upd c_rules 0 (0 : Int32))))] := hD
  replace hF := nm_s hF
  obtain ⟨f_1, hf_1, hF⟩ := hF
  rw [← hf_1] at hP hD
  refine lv_aload_n hx hb dX3_start_7 rfl (lv_at hl 0 rfl) ?_
  refine gt_X3_1 (v := .ref a_rules) hx hb hts i_f_X3_start_X3 hown hK hP 0 rfl (hts (.fieldLink RX3 9 "HushWatch$Reader" "rules" "[I") (List.mem_of_getElem? (i := 1) rfl)) rfl dX3_start_8 ?_
  refine lv_iconst (v := 1) hx hb dX3_start_11 (by decide) ?_
  refine lv_sipush (v := 1000) hx hb dX3_start_12 (by decide) ?_
  refine va_iast hx hb hK hP hD hS 1 0 rfl rfl (vin rfl) dX3_start_15 (fun H locs hP hD hS => ?_)
  replace hP : va_P E.1 vwCl [(a_, .inr (4, [.ref a_tape, .ref a_rules, .ref a_places, .ref a_steps, .int c_siteCount, .int c_stepCount, .int c_seenRules, .int c_at, .int c_wordStart, .int c_number, .int c_failed])), (a_rules, .inl (E.2.1, 3, .inl (upd f_1 1 (1000 : Int32))))] H := hP
  replace hD : va_D A [(a_, .inr (4, [.ref a_tape, .ref a_rules, .ref a_places, .ref a_steps, .int c_siteCount, .int c_stepCount, .int c_seenRules, .int c_at, .int c_wordStart, .int c_number, .int c_failed])), (a_rules, .inl (E.2.1, 3, .inl (upd f_1 1 (1000 : Int32))))] := hD
  replace hF := nm_s hF
  obtain ⟨f_2, hf_2, hF⟩ := hF
  rw [← hf_2] at hP hD
  refine lv_aload_n hx hb dX3_start_16 rfl (lv_at hl 0 rfl) ?_
  refine gt_X3_1 (v := .ref a_rules) hx hb hts i_f_X3_start_X3 hown hK hP 0 rfl (hts (.fieldLink RX3 9 "HushWatch$Reader" "rules" "[I") (List.mem_of_getElem? (i := 1) rfl)) rfl dX3_start_17 ?_
  refine lv_iconst (v := 2) hx hb dX3_start_20 (by decide) ?_
  refine lv_bipush (v := 100) hx hb dX3_start_21 (by decide) ?_
  refine va_iast hx hb hK hP hD hS 1 0 rfl rfl (vin rfl) dX3_start_23 (fun H locs hP hD hS => ?_)
  replace hP : va_P E.1 vwCl [(a_, .inr (4, [.ref a_tape, .ref a_rules, .ref a_places, .ref a_steps, .int c_siteCount, .int c_stepCount, .int c_seenRules, .int c_at, .int c_wordStart, .int c_number, .int c_failed])), (a_rules, .inl (E.2.1, 3, .inl (upd f_2 2 (100 : Int32))))] H := hP
  replace hD : va_D A [(a_, .inr (4, [.ref a_tape, .ref a_rules, .ref a_places, .ref a_steps, .int c_siteCount, .int c_stepCount, .int c_seenRules, .int c_at, .int c_wordStart, .int c_number, .int c_failed])), (a_rules, .inl (E.2.1, 3, .inl (upd f_2 2 (100 : Int32))))] := hD
  replace hF := nm_s hF
  obtain ⟨f_3, hf_3, hF⟩ := hF
  rw [← hf_3] at hP hD
  refine lv_aload_n hx hb dX3_start_24 rfl (lv_at hl 0 rfl) ?_
  refine lv_iconst (v := 0) hx hb dX3_start_25 (by decide) ?_
  refine pt_X3_4 (v := .int (0 : Int32)) hx hb hts i_f_X3_start_X3 hown hK hP hD hS 0 rfl (hts (.fieldLink RX3 21 "HushWatch$Reader" "siteCount" "I") (List.mem_of_getElem? (i := 2) rfl)) rfl rfl (Nat.le_of_ble_eq_true rfl) dX3_start_26 (fun H locs hP hD hS => ?_)
  replace hP : va_P E.1 vwCl [(a_, .inr (4, [.ref a_tape, .ref a_rules, .ref a_places, .ref a_steps, .int (0 : Int32), .int c_stepCount, .int c_seenRules, .int c_at, .int c_wordStart, .int c_number, .int c_failed])), (a_rules, .inl (E.2.1, 3, .inl f_3))] H := hP
  replace hD : va_D A [(a_, .inr (4, [.ref a_tape, .ref a_rules, .ref a_places, .ref a_steps, .int (0 : Int32), .int c_stepCount, .int c_seenRules, .int c_at, .int c_wordStart, .int c_number, .int c_failed])), (a_rules, .inl (E.2.1, 3, .inl f_3))] := hD
  refine lv_aload_n hx hb dX3_start_29 rfl (lv_at hl 0 rfl) ?_
  refine lv_iconst (v := 0) hx hb dX3_start_30 (by decide) ?_
  refine pt_X3_5 (v := .int (0 : Int32)) hx hb hts i_f_X3_start_X3 hown hK hP hD hS 0 rfl (hts (.fieldLink RX3 25 "HushWatch$Reader" "stepCount" "I") (List.mem_of_getElem? (i := 3) rfl)) rfl rfl (Nat.le_of_ble_eq_true rfl) dX3_start_31 (fun H locs hP hD hS => ?_)
  replace hP : va_P E.1 vwCl [(a_, .inr (4, [.ref a_tape, .ref a_rules, .ref a_places, .ref a_steps, .int (0 : Int32), .int (0 : Int32), .int c_seenRules, .int c_at, .int c_wordStart, .int c_number, .int c_failed])), (a_rules, .inl (E.2.1, 3, .inl f_3))] H := hP
  replace hD : va_D A [(a_, .inr (4, [.ref a_tape, .ref a_rules, .ref a_places, .ref a_steps, .int (0 : Int32), .int (0 : Int32), .int c_seenRules, .int c_at, .int c_wordStart, .int c_number, .int c_failed])), (a_rules, .inl (E.2.1, 3, .inl f_3))] := hD
  refine lv_aload_n hx hb dX3_start_34 rfl (lv_at hl 0 rfl) ?_
  refine lv_iconst (v := 0) hx hb dX3_start_35 (by decide) ?_
  refine pt_X3_6 (v := .int (0 : Int32)) hx hb hts i_f_X3_start_X3 hown hK hP hD hS 0 rfl (hts (.fieldLink RX3 28 "HushWatch$Reader" "seenRules" "I") (List.mem_of_getElem? (i := 4) rfl)) rfl rfl (Nat.le_of_ble_eq_true rfl) dX3_start_36 (fun H locs hP hD hS => ?_)
  replace hP : va_P E.1 vwCl [(a_, .inr (4, [.ref a_tape, .ref a_rules, .ref a_places, .ref a_steps, .int (0 : Int32), .int (0 : Int32), .int (0 : Int32), .int c_at, .int c_wordStart, .int c_number, .int c_failed])), (a_rules, .inl (E.2.1, 3, .inl f_3))] H := hP
  replace hD : va_D A [(a_, .inr (4, [.ref a_tape, .ref a_rules, .ref a_places, .ref a_steps, .int (0 : Int32), .int (0 : Int32), .int (0 : Int32), .int c_at, .int c_wordStart, .int c_number, .int c_failed])), (a_rules, .inl (E.2.1, 3, .inl f_3))] := hD
  refine lv_aload_n hx hb dX3_start_39 rfl (lv_at hl 0 rfl) ?_
  refine lv_iconst (v := 0) hx hb dX3_start_40 (by decide) ?_
  refine pt_X3_7 (v := .int (0 : Int32)) hx hb hts i_f_X3_start_X3 hown hK hP hD hS 0 rfl (hts (.fieldLink RX3 31 "HushWatch$Reader" "at" "I") (List.mem_of_getElem? (i := 5) rfl)) rfl rfl (Nat.le_of_ble_eq_true rfl) dX3_start_41 (fun H locs hP hD hS => ?_)
  replace hP : va_P E.1 vwCl [(a_, .inr (4, [.ref a_tape, .ref a_rules, .ref a_places, .ref a_steps, .int (0 : Int32), .int (0 : Int32), .int (0 : Int32), .int (0 : Int32), .int c_wordStart, .int c_number, .int c_failed])), (a_rules, .inl (E.2.1, 3, .inl f_3))] H := hP
  replace hD : va_D A [(a_, .inr (4, [.ref a_tape, .ref a_rules, .ref a_places, .ref a_steps, .int (0 : Int32), .int (0 : Int32), .int (0 : Int32), .int (0 : Int32), .int c_wordStart, .int c_number, .int c_failed])), (a_rules, .inl (E.2.1, 3, .inl f_3))] := hD
  refine lv_aload_n hx hb dX3_start_44 rfl (lv_at hl 0 rfl) ?_
  refine lv_iconst (v := -1) hx hb dX3_start_45 (by decide) ?_
  refine pt_X3_10 (v := .int (-1 : Int32)) hx hb hts i_f_X3_start_X3 hown hK hP hD hS 0 rfl (hts (.fieldLink RX3 40 "HushWatch$Reader" "failed" "I") (List.mem_of_getElem? (i := 6) rfl)) rfl rfl (Nat.le_of_ble_eq_true rfl) dX3_start_46 (fun H locs hP hD hS => ?_)
  replace hP : va_P E.1 vwCl [(a_, .inr (4, [.ref a_tape, .ref a_rules, .ref a_places, .ref a_steps, .int (0 : Int32), .int (0 : Int32), .int (0 : Int32), .int (0 : Int32), .int c_wordStart, .int c_number, .int (-1 : Int32)])), (a_rules, .inl (E.2.1, 3, .inl f_3))] H := hP
  replace hD : va_D A [(a_, .inr (4, [.ref a_tape, .ref a_rules, .ref a_places, .ref a_steps, .int (0 : Int32), .int (0 : Int32), .int (0 : Int32), .int (0 : Int32), .int c_wordStart, .int c_number, .int (-1 : Int32)])), (a_rules, .inl (E.2.1, 3, .inl f_3))] := hD
  rw [hQ]
  have h9 := fin9 (P := fun u9 : (Nat → Int32) × Int32 × Int32 × Int32 × Int32 × Int32 => va_P E.1 vwCl (w_X3_start E a_ a_tape a_rules a_places a_steps u9.2.1 u9.2.2.1 u9.2.2.2.1 u9.2.2.2.2.1 c_wordStart c_number u9.2.2.2.2.2 u9.1) H ∧ va_D A (w_X3_start E a_ a_tape a_rules a_places a_steps u9.2.1 u9.2.2.1 u9.2.2.2.1 u9.2.2.2.2.1 c_wordStart c_number u9.2.2.2.2.2 u9.1)) hF ⟨hP, hD⟩
  obtain ⟨hP9, hD9⟩ := h9
  exact W.vret hx hb hr (fun tt ht hW => ⟨⟨(), rfl, trivial, ht ▸ hP9, hD9⟩, hS.F ht⟩) hS.2.2 dX3_start_49

def F_X3_stepOfWord (K : Nat) (c_tape_bytes : Nat → Int32) (c_tape_length : Int32) (c_at : Int32) (c_wordStart : Int32) : Option (Int32) :=
  bd1 (F_X3_isWord K 8 c_tape_bytes c_tape_length c_at c_wordStart) (fun r_1 => if r_1 = (0 : Int32) then bd1 (F_X3_isWord K 9 c_tape_bytes c_tape_length c_at c_wordStart) (fun r_5 => if r_5 = (0 : Int32) then bd1 (F_X3_isWord K 2 c_tape_bytes c_tape_length c_at c_wordStart) (fun r_9 => if r_9 = (0 : Int32) then bd1 (F_X3_isWord K 1 c_tape_bytes c_tape_length c_at c_wordStart) (fun r_13 => if r_13 = (0 : Int32) then bd1 (F_X3_isWord K 10 c_tape_bytes c_tape_length c_at c_wordStart) (fun r_17 => if r_17 = (0 : Int32) then bd1 (F_X3_isWord K 3 c_tape_bytes c_tape_length c_at c_wordStart) (fun r_21 => if r_21 = (0 : Int32) then bd1 (F_X3_isWord K 11 c_tape_bytes c_tape_length c_at c_wordStart) (fun r_25 => if r_25 = (0 : Int32) then some (-1 : Int32) else some (6 : Int32)) else some (5 : Int32)) else some (4 : Int32)) else some (3 : Int32)) else some (2 : Int32)) else some (1 : Int32)) else some (0 : Int32))
abbrev w_X3_stepOfWord (E : EE) (a_ a_tape a_rules a_places a_steps a_tape_bytes : Nat) (c_siteCount : Int32) (c_stepCount : Int32) (c_seenRules : Int32) (c_at : Int32) (c_wordStart : Int32) (c_number : Int32) (c_failed : Int32) (c_tape_length : Int32) (c_tape_bytes : Nat → Int32) : va_W := [(a_, .inr (4, [.ref a_tape, .ref a_rules, .ref a_places, .ref a_steps, .int c_siteCount, .int c_stepCount, .int c_seenRules, .int c_at, .int c_wordStart, .int c_number, .int c_failed])), (a_tape, .inr (7, [.ref a_tape_bytes, .int c_tape_length])), (a_tape_bytes, .inl (E.2.2.1, 320, .inl c_tape_bytes))]
def v_f_X3_stepOfWord : List Cond := List.cons (.code yX3_stepOfWord cX3_stepOfWord 1 (some .int)) (HAppend.hAppend (α := List Cond) (β := List Cond) (γ := List Cond) [.methodLink RX3 76 yX3_isWord, .instanceMethod yX3_isWord, .selects RX3 yX3_isWord yX3_isWord, .initialized RX3] (HAppend.hAppend (α := List Cond) (β := List Cond) (γ := List Cond) v_f_X3_isWord []))
theorem gw_f_X3_stepOfWord : v_f_X3_stepOfWord.all goodWord = true := by decide +kernel
theorem g_f_X3_stepOfWord_f_X3_isWord_76 : GoodIn v_f_X3_stepOfWord (wsV RX3 76 RX3 yX3_isWord v_f_X3_isWord) := goodIn_app (goodIn_of _ (by decide +kernel)) (goodIn_sub (fun _ h => List.mem_cons_of_mem _ (List.mem_append_right _ (List.mem_append_left _ h))) gw_f_X3_isWord)
theorem hd_X3_stepOfWord : yX3_stepOfWord.cls = RX3 ∧ yX3_stepOfWord.cls ≠ "java/lang/invoke/MethodHandle" ∧ yX3_stepOfWord.cls ≠ "java/lang/invoke/VarHandle" ∧ (parseMethodDescriptor yX3_stepOfWord.desc).map (fun d => d.parameters.length) = some 0 := by decide +kernel
set_option maxHeartbeats 4000000 in
set_option maxRecDepth 100000 in
theorem f_X3_stepOfWord (l : Launch) (E : EE) (K : Nat) (z9 : Nat → Nat) {a_ a_tape a_rules a_places a_steps a_tape_bytes : Nat} {c_siteCount : Int32} {c_stepCount : Int32} {c_seenRules : Int32} {c_at : Int32} {c_wordStart : Int32} {c_number : Int32} {c_failed : Int32} {c_tape_length : Int32} {c_tape_bytes : Nat → Int32} {rr : Int32} (hF : F_X3_stepOfWord K c_tape_bytes c_tape_length c_at c_wordStart = some rr) : Met l yX3_stepOfWord v_f_X3_stepOfWord (({ frames := 5, cells := 0, slots := 0, locals := 107 } : Room)) (va_Pc [.ref a_] (qPZ E z9 (w_X3_stepOfWord E a_ a_tape a_rules a_places a_steps a_tape_bytes c_siteCount c_stepCount c_seenRules c_at c_wordStart c_number c_failed c_tape_length c_tape_bytes))) (vp_Si (fun q : Int32 => q = rr)) 0 0 (fun _ => False) := by
  refine Met.ofW (cc := cX3_stepOfWord) (maxL := 1) (ret := (some .int)) (by decide) rfl ?_
  intro p e s m args below meth c s₁ B hml hv
  obtain ⟨rfl, ⟨hK, hN⟩, hP, hZ⟩ := hv
  have hx := B.exec
  have hb := B.bytes
  have hr := B.returns
  have hts := atoms_spec (ws := v_f_X3_stepOfWord) B.pre
  have hown : s.vm.findClass RX3 = some m.cls := own_of hd_X3_stepOfWord.1 (findClass_of_methodNamed B.named)
  have hlocks : meth.locks = false := B.notSynchronized
  replace hP : va_P E.1 vwCl [(a_, .inr (4, [.ref a_tape, .ref a_rules, .ref a_places, .ref a_steps, .int c_siteCount, .int c_stepCount, .int c_seenRules, .int c_at, .int c_wordStart, .int c_number, .int c_failed])), (a_tape, .inr (7, [.ref a_tape_bytes, .int c_tape_length])), (a_tape_bytes, .inl (E.2.2.1, 320, .inl c_tape_bytes))] s.heap := hP
  have hl := lv_entry ([.ref a_]) (n := 1) (Nat.le_of_ble_eq_true rfl)
  rw [lg_entry_eq]
  generalize (lg_sl ([.ref a_]) ++ List.replicate (1 - (lg_sl ([.ref a_])).length) Slot.unset).toArray = ls at hl ⊢
  have hl : lv_has ls 1 [(0, .ref a_)] := hl
  obtain ⟨Q, hQ⟩ : ∃ Q : State → Prop, Q = MQ below (vp_Si (fun q : Int32 => q = rr)) #[Value.ref a_] s 0 0 (fun _ => False) := ⟨_, rfl⟩
  rw [← hQ]
  change W p l e ({ frames := 5, cells := 0, slots := 0, locals := 107 } : Room) s m #[Value.ref a_] below meth c s.heap [] 0 0 Q (F0 m 0 ls [])
  unfold F_X3_stepOfWord at hF
  refine lv_aload_n hx hb dX3_stepOfWord_0 rfl (lv_at hl 0 rfl) ?_
  refine va_ldcS hx hb hown (ZZ.s8 hZ) dX3_stepOfWord_1 ?_
  replace hF := bd1_s hF
  obtain ⟨r_1, hc_2, hF⟩ := hF
  have hPc : va_P E.1 vwCl (w_X3_isWord E a_ a_tape a_rules a_places a_steps a_tape_bytes c_siteCount c_stepCount c_seenRules c_at c_wordStart c_number c_failed c_tape_length c_tape_bytes) s.heap := hP.sub (ws' := [(a_, .inr (4, [.ref a_tape, .ref a_rules, .ref a_places, .ref a_steps, .int c_siteCount, .int c_stepCount, .int c_seenRules, .int c_at, .int c_wordStart, .int c_number, .int c_failed])), (a_tape, .inr (7, [.ref a_tape_bytes, .int c_tape_length])), (a_tape_bytes, .inl (E.2.2.1, 320, .inl c_tape_bytes))]) [0, 1, 2] rfl
  have hrc := va_recv hK hPc (ci := 4) (q0 := 0) rfl rfl
  refine pE_z (va_runV (As := [.ref (z9 (20 + 8))]) (rest := [])  ⟨hx, hb, hml, hown, hts⟩ (f_X3_isWord l E K z9 (a_ := a_) (a_tape := a_tape) (a_rules := a_rules) (a_places := a_places) (a_steps := a_steps) (a_tape_bytes := a_tape_bytes) (p1 := 8) (c_siteCount := c_siteCount) (c_stepCount := c_stepCount) (c_seenRules := c_seenRules) (c_at := c_at) (c_wordStart := c_wordStart) (c_number := c_number) (c_failed := c_failed) (c_tape_length := c_tape_length) (c_tape_bytes := c_tape_bytes) hc_2) (cwV 1 hts g_f_X3_stepOfWord_f_X3_isWord_76 rfl rfl rfl hd_X3_isWord ⟨Nat.le_of_ble_eq_true rfl, Nat.le_of_ble_eq_true rfl⟩) ⟨qPZ.blind, hrc, (qPZ.pre0 ⟨hK, hN⟩ hPc hZ)⟩ rfl rfl hl.1 rfl (lv_room (Nat.le_of_ble_eq_true rfl)) dX3_stepOfWord_3 ⟨Nat.le_of_ble_eq_true rfl, Nat.le_of_ble_eq_true rfl⟩) (fun hb_3 => ?_)
  refine lv_if_eq (tgt := 11) hx hb dX3_stepOfWord_6 (by decide) (fun c_4 => ?_) (fun c_4 => ?_)
  ·
    replace hF := ip c_4 hF
    refine lv_aload_n hx hb dX3_stepOfWord_11 rfl (lv_at hl 0 rfl) ?_
    refine va_ldcS hx hb hown (ZZ.s9 hZ) dX3_stepOfWord_12 ?_
    replace hF := bd1_s hF
    obtain ⟨r_5, hc_6, hF⟩ := hF
    have hPc : va_P E.1 vwCl (w_X3_isWord E a_ a_tape a_rules a_places a_steps a_tape_bytes c_siteCount c_stepCount c_seenRules c_at c_wordStart c_number c_failed c_tape_length c_tape_bytes) s.heap := hP.sub (ws' := [(a_, .inr (4, [.ref a_tape, .ref a_rules, .ref a_places, .ref a_steps, .int c_siteCount, .int c_stepCount, .int c_seenRules, .int c_at, .int c_wordStart, .int c_number, .int c_failed])), (a_tape, .inr (7, [.ref a_tape_bytes, .int c_tape_length])), (a_tape_bytes, .inl (E.2.2.1, 320, .inl c_tape_bytes))]) [0, 1, 2] rfl
    have hrc := va_recv hK hPc (ci := 4) (q0 := 0) rfl rfl
    refine pE_z (va_runV (As := [.ref (z9 (20 + 9))]) (rest := [])  ⟨hx, hb, hml, hown, hts⟩ (f_X3_isWord l E K z9 (a_ := a_) (a_tape := a_tape) (a_rules := a_rules) (a_places := a_places) (a_steps := a_steps) (a_tape_bytes := a_tape_bytes) (p1 := 9) (c_siteCount := c_siteCount) (c_stepCount := c_stepCount) (c_seenRules := c_seenRules) (c_at := c_at) (c_wordStart := c_wordStart) (c_number := c_number) (c_failed := c_failed) (c_tape_length := c_tape_length) (c_tape_bytes := c_tape_bytes) hc_6) (cwV 1 hts g_f_X3_stepOfWord_f_X3_isWord_76 rfl rfl rfl hd_X3_isWord ⟨Nat.le_of_ble_eq_true rfl, Nat.le_of_ble_eq_true rfl⟩) ⟨qPZ.blind, hrc, (qPZ.pre0 ⟨hK, hN⟩ hPc hZ)⟩ rfl rfl hl.1 rfl (lv_room (Nat.le_of_ble_eq_true rfl)) dX3_stepOfWord_14 ⟨Nat.le_of_ble_eq_true rfl, Nat.le_of_ble_eq_true rfl⟩) (fun hb_7 => ?_)
    refine lv_if_eq (tgt := 22) hx hb dX3_stepOfWord_17 (by decide) (fun c_8 => ?_) (fun c_8 => ?_)
    ·
      replace hF := ip c_8 hF
      refine lv_aload_n hx hb dX3_stepOfWord_22 rfl (lv_at hl 0 rfl) ?_
      refine va_ldcS hx hb hown (ZZ.s2 hZ) dX3_stepOfWord_23 ?_
      replace hF := bd1_s hF
      obtain ⟨r_9, hc_10, hF⟩ := hF
      have hPc : va_P E.1 vwCl (w_X3_isWord E a_ a_tape a_rules a_places a_steps a_tape_bytes c_siteCount c_stepCount c_seenRules c_at c_wordStart c_number c_failed c_tape_length c_tape_bytes) s.heap := hP.sub (ws' := [(a_, .inr (4, [.ref a_tape, .ref a_rules, .ref a_places, .ref a_steps, .int c_siteCount, .int c_stepCount, .int c_seenRules, .int c_at, .int c_wordStart, .int c_number, .int c_failed])), (a_tape, .inr (7, [.ref a_tape_bytes, .int c_tape_length])), (a_tape_bytes, .inl (E.2.2.1, 320, .inl c_tape_bytes))]) [0, 1, 2] rfl
      have hrc := va_recv hK hPc (ci := 4) (q0 := 0) rfl rfl
      refine pE_z (va_runV (As := [.ref (z9 (20 + 2))]) (rest := [])  ⟨hx, hb, hml, hown, hts⟩ (f_X3_isWord l E K z9 (a_ := a_) (a_tape := a_tape) (a_rules := a_rules) (a_places := a_places) (a_steps := a_steps) (a_tape_bytes := a_tape_bytes) (p1 := 2) (c_siteCount := c_siteCount) (c_stepCount := c_stepCount) (c_seenRules := c_seenRules) (c_at := c_at) (c_wordStart := c_wordStart) (c_number := c_number) (c_failed := c_failed) (c_tape_length := c_tape_length) (c_tape_bytes := c_tape_bytes) hc_10) (cwV 1 hts g_f_X3_stepOfWord_f_X3_isWord_76 rfl rfl rfl hd_X3_isWord ⟨Nat.le_of_ble_eq_true rfl, Nat.le_of_ble_eq_true rfl⟩) ⟨qPZ.blind, hrc, (qPZ.pre0 ⟨hK, hN⟩ hPc hZ)⟩ rfl rfl hl.1 rfl (lv_room (Nat.le_of_ble_eq_true rfl)) dX3_stepOfWord_25 ⟨Nat.le_of_ble_eq_true rfl, Nat.le_of_ble_eq_true rfl⟩) (fun hb_11 => ?_)
      refine lv_if_eq (tgt := 33) hx hb dX3_stepOfWord_28 (by decide) (fun c_12 => ?_) (fun c_12 => ?_)
      ·
        replace hF := ip c_12 hF
        refine lv_aload_n hx hb dX3_stepOfWord_33 rfl (lv_at hl 0 rfl) ?_
        refine va_ldcS hx hb hown (ZZ.s1 hZ) dX3_stepOfWord_34 ?_
        replace hF := bd1_s hF
        obtain ⟨r_13, hc_14, hF⟩ := hF
        have hPc : va_P E.1 vwCl (w_X3_isWord E a_ a_tape a_rules a_places a_steps a_tape_bytes c_siteCount c_stepCount c_seenRules c_at c_wordStart c_number c_failed c_tape_length c_tape_bytes) s.heap := hP.sub (ws' := [(a_, .inr (4, [.ref a_tape, .ref a_rules, .ref a_places, .ref a_steps, .int c_siteCount, .int c_stepCount, .int c_seenRules, .int c_at, .int c_wordStart, .int c_number, .int c_failed])), (a_tape, .inr (7, [.ref a_tape_bytes, .int c_tape_length])), (a_tape_bytes, .inl (E.2.2.1, 320, .inl c_tape_bytes))]) [0, 1, 2] rfl
        have hrc := va_recv hK hPc (ci := 4) (q0 := 0) rfl rfl
        refine pE_z (va_runV (As := [.ref (z9 (20 + 1))]) (rest := [])  ⟨hx, hb, hml, hown, hts⟩ (f_X3_isWord l E K z9 (a_ := a_) (a_tape := a_tape) (a_rules := a_rules) (a_places := a_places) (a_steps := a_steps) (a_tape_bytes := a_tape_bytes) (p1 := 1) (c_siteCount := c_siteCount) (c_stepCount := c_stepCount) (c_seenRules := c_seenRules) (c_at := c_at) (c_wordStart := c_wordStart) (c_number := c_number) (c_failed := c_failed) (c_tape_length := c_tape_length) (c_tape_bytes := c_tape_bytes) hc_14) (cwV 1 hts g_f_X3_stepOfWord_f_X3_isWord_76 rfl rfl rfl hd_X3_isWord ⟨Nat.le_of_ble_eq_true rfl, Nat.le_of_ble_eq_true rfl⟩) ⟨qPZ.blind, hrc, (qPZ.pre0 ⟨hK, hN⟩ hPc hZ)⟩ rfl rfl hl.1 rfl (lv_room (Nat.le_of_ble_eq_true rfl)) dX3_stepOfWord_36 ⟨Nat.le_of_ble_eq_true rfl, Nat.le_of_ble_eq_true rfl⟩) (fun hb_15 => ?_)
        refine lv_if_eq (tgt := 44) hx hb dX3_stepOfWord_39 (by decide) (fun c_16 => ?_) (fun c_16 => ?_)
        ·
          replace hF := ip c_16 hF
          refine lv_aload_n hx hb dX3_stepOfWord_44 rfl (lv_at hl 0 rfl) ?_
          refine va_ldcS hx hb hown (ZZ.s10 hZ) dX3_stepOfWord_45 ?_
          replace hF := bd1_s hF
          obtain ⟨r_17, hc_18, hF⟩ := hF
          have hPc : va_P E.1 vwCl (w_X3_isWord E a_ a_tape a_rules a_places a_steps a_tape_bytes c_siteCount c_stepCount c_seenRules c_at c_wordStart c_number c_failed c_tape_length c_tape_bytes) s.heap := hP.sub (ws' := [(a_, .inr (4, [.ref a_tape, .ref a_rules, .ref a_places, .ref a_steps, .int c_siteCount, .int c_stepCount, .int c_seenRules, .int c_at, .int c_wordStart, .int c_number, .int c_failed])), (a_tape, .inr (7, [.ref a_tape_bytes, .int c_tape_length])), (a_tape_bytes, .inl (E.2.2.1, 320, .inl c_tape_bytes))]) [0, 1, 2] rfl
          have hrc := va_recv hK hPc (ci := 4) (q0 := 0) rfl rfl
          refine pE_z (va_runV (As := [.ref (z9 (20 + 10))]) (rest := [])  ⟨hx, hb, hml, hown, hts⟩ (f_X3_isWord l E K z9 (a_ := a_) (a_tape := a_tape) (a_rules := a_rules) (a_places := a_places) (a_steps := a_steps) (a_tape_bytes := a_tape_bytes) (p1 := 10) (c_siteCount := c_siteCount) (c_stepCount := c_stepCount) (c_seenRules := c_seenRules) (c_at := c_at) (c_wordStart := c_wordStart) (c_number := c_number) (c_failed := c_failed) (c_tape_length := c_tape_length) (c_tape_bytes := c_tape_bytes) hc_18) (cwV 1 hts g_f_X3_stepOfWord_f_X3_isWord_76 rfl rfl rfl hd_X3_isWord ⟨Nat.le_of_ble_eq_true rfl, Nat.le_of_ble_eq_true rfl⟩) ⟨qPZ.blind, hrc, (qPZ.pre0 ⟨hK, hN⟩ hPc hZ)⟩ rfl rfl hl.1 rfl (lv_room (Nat.le_of_ble_eq_true rfl)) dX3_stepOfWord_47 ⟨Nat.le_of_ble_eq_true rfl, Nat.le_of_ble_eq_true rfl⟩) (fun hb_19 => ?_)
          refine lv_if_eq (tgt := 55) hx hb dX3_stepOfWord_50 (by decide) (fun c_20 => ?_) (fun c_20 => ?_)
          ·
            replace hF := ip c_20 hF
            refine lv_aload_n hx hb dX3_stepOfWord_55 rfl (lv_at hl 0 rfl) ?_
            refine va_ldcS hx hb hown (ZZ.s3 hZ) dX3_stepOfWord_56 ?_
            replace hF := bd1_s hF
            obtain ⟨r_21, hc_22, hF⟩ := hF
            have hPc : va_P E.1 vwCl (w_X3_isWord E a_ a_tape a_rules a_places a_steps a_tape_bytes c_siteCount c_stepCount c_seenRules c_at c_wordStart c_number c_failed c_tape_length c_tape_bytes) s.heap := hP.sub (ws' := [(a_, .inr (4, [.ref a_tape, .ref a_rules, .ref a_places, .ref a_steps, .int c_siteCount, .int c_stepCount, .int c_seenRules, .int c_at, .int c_wordStart, .int c_number, .int c_failed])), (a_tape, .inr (7, [.ref a_tape_bytes, .int c_tape_length])), (a_tape_bytes, .inl (E.2.2.1, 320, .inl c_tape_bytes))]) [0, 1, 2] rfl
            have hrc := va_recv hK hPc (ci := 4) (q0 := 0) rfl rfl
            refine pE_z (va_runV (As := [.ref (z9 (20 + 3))]) (rest := [])  ⟨hx, hb, hml, hown, hts⟩ (f_X3_isWord l E K z9 (a_ := a_) (a_tape := a_tape) (a_rules := a_rules) (a_places := a_places) (a_steps := a_steps) (a_tape_bytes := a_tape_bytes) (p1 := 3) (c_siteCount := c_siteCount) (c_stepCount := c_stepCount) (c_seenRules := c_seenRules) (c_at := c_at) (c_wordStart := c_wordStart) (c_number := c_number) (c_failed := c_failed) (c_tape_length := c_tape_length) (c_tape_bytes := c_tape_bytes) hc_22) (cwV 1 hts g_f_X3_stepOfWord_f_X3_isWord_76 rfl rfl rfl hd_X3_isWord ⟨Nat.le_of_ble_eq_true rfl, Nat.le_of_ble_eq_true rfl⟩) ⟨qPZ.blind, hrc, (qPZ.pre0 ⟨hK, hN⟩ hPc hZ)⟩ rfl rfl hl.1 rfl (lv_room (Nat.le_of_ble_eq_true rfl)) dX3_stepOfWord_58 ⟨Nat.le_of_ble_eq_true rfl, Nat.le_of_ble_eq_true rfl⟩) (fun hb_23 => ?_)
            refine lv_if_eq (tgt := 66) hx hb dX3_stepOfWord_61 (by decide) (fun c_24 => ?_) (fun c_24 => ?_)
            ·
              replace hF := ip c_24 hF
              refine lv_aload_n hx hb dX3_stepOfWord_66 rfl (lv_at hl 0 rfl) ?_
              refine va_ldcS hx hb hown (ZZ.s11 hZ) dX3_stepOfWord_67 ?_
              replace hF := bd1_s hF
              obtain ⟨r_25, hc_26, hF⟩ := hF
              have hPc : va_P E.1 vwCl (w_X3_isWord E a_ a_tape a_rules a_places a_steps a_tape_bytes c_siteCount c_stepCount c_seenRules c_at c_wordStart c_number c_failed c_tape_length c_tape_bytes) s.heap := hP.sub (ws' := [(a_, .inr (4, [.ref a_tape, .ref a_rules, .ref a_places, .ref a_steps, .int c_siteCount, .int c_stepCount, .int c_seenRules, .int c_at, .int c_wordStart, .int c_number, .int c_failed])), (a_tape, .inr (7, [.ref a_tape_bytes, .int c_tape_length])), (a_tape_bytes, .inl (E.2.2.1, 320, .inl c_tape_bytes))]) [0, 1, 2] rfl
              have hrc := va_recv hK hPc (ci := 4) (q0 := 0) rfl rfl
              refine pE_z (va_runV (As := [.ref (z9 (20 + 11))]) (rest := [])  ⟨hx, hb, hml, hown, hts⟩ (f_X3_isWord l E K z9 (a_ := a_) (a_tape := a_tape) (a_rules := a_rules) (a_places := a_places) (a_steps := a_steps) (a_tape_bytes := a_tape_bytes) (p1 := 11) (c_siteCount := c_siteCount) (c_stepCount := c_stepCount) (c_seenRules := c_seenRules) (c_at := c_at) (c_wordStart := c_wordStart) (c_number := c_number) (c_failed := c_failed) (c_tape_length := c_tape_length) (c_tape_bytes := c_tape_bytes) hc_26) (cwV 1 hts g_f_X3_stepOfWord_f_X3_isWord_76 rfl rfl rfl hd_X3_isWord ⟨Nat.le_of_ble_eq_true rfl, Nat.le_of_ble_eq_true rfl⟩) ⟨qPZ.blind, hrc, (qPZ.pre0 ⟨hK, hN⟩ hPc hZ)⟩ rfl rfl hl.1 rfl (lv_room (Nat.le_of_ble_eq_true rfl)) dX3_stepOfWord_69 ⟨Nat.le_of_ble_eq_true rfl, Nat.le_of_ble_eq_true rfl⟩) (fun hb_27 => ?_)
              refine lv_if_eq (tgt := 80) hx hb dX3_stepOfWord_72 (by decide) (fun c_28 => ?_) (fun c_28 => ?_)
              ·
                replace hF := ip c_28 hF
                refine lv_iconst (v := -1) hx hb dX3_stepOfWord_80 (by decide) ?_
                rw [hQ]
                obtain e9_0 := inj1 hF
                exact W.iret (v := (-1 : Int32)) hx hb hr (fun tt ht hW => ⟨_, rfl, e9_0, ht⟩) (fun _ h => by cases h) dX3_stepOfWord_81
              ·
                replace hF := inn c_28 hF
                refine lv_bipush (v := 6) hx hb dX3_stepOfWord_75 (by decide) ?_
                refine lv_goto (tgt := 81) hx hb dX3_stepOfWord_77 (by decide) ?_
                rw [hQ]
                obtain e9_0 := inj1 hF
                exact W.iret (v := (6 : Int32)) hx hb hr (fun tt ht hW => ⟨_, rfl, e9_0, ht⟩) (fun _ h => by cases h) dX3_stepOfWord_81
            ·
              replace hF := inn c_24 hF
              refine lv_iconst (v := 5) hx hb dX3_stepOfWord_64 (by decide) ?_
              rw [hQ]
              obtain e9_0 := inj1 hF
              exact W.iret (v := (5 : Int32)) hx hb hr (fun tt ht hW => ⟨_, rfl, e9_0, ht⟩) (fun _ h => by cases h) dX3_stepOfWord_65
          ·
            replace hF := inn c_20 hF
            refine lv_iconst (v := 4) hx hb dX3_stepOfWord_53 (by decide) ?_
            rw [hQ]
            obtain e9_0 := inj1 hF
            exact W.iret (v := (4 : Int32)) hx hb hr (fun tt ht hW => ⟨_, rfl, e9_0, ht⟩) (fun _ h => by cases h) dX3_stepOfWord_54
        ·
          replace hF := inn c_16 hF
          refine lv_iconst (v := 3) hx hb dX3_stepOfWord_42 (by decide) ?_
          rw [hQ]
          obtain e9_0 := inj1 hF
          exact W.iret (v := (3 : Int32)) hx hb hr (fun tt ht hW => ⟨_, rfl, e9_0, ht⟩) (fun _ h => by cases h) dX3_stepOfWord_43
      ·
        replace hF := inn c_12 hF
        refine lv_iconst (v := 2) hx hb dX3_stepOfWord_31 (by decide) ?_
        rw [hQ]
        obtain e9_0 := inj1 hF
        exact W.iret (v := (2 : Int32)) hx hb hr (fun tt ht hW => ⟨_, rfl, e9_0, ht⟩) (fun _ h => by cases h) dX3_stepOfWord_32
    ·
      replace hF := inn c_8 hF
      refine lv_iconst (v := 1) hx hb dX3_stepOfWord_20 (by decide) ?_
      rw [hQ]
      obtain e9_0 := inj1 hF
      exact W.iret (v := (1 : Int32)) hx hb hr (fun tt ht hW => ⟨_, rfl, e9_0, ht⟩) (fun _ h => by cases h) dX3_stepOfWord_21
  ·
    replace hF := inn c_4 hF
    refine lv_iconst (v := 0) hx hb dX3_stepOfWord_9 (by decide) ?_
    rw [hQ]
    obtain e9_0 := inj1 hF
    exact W.iret (v := (0 : Int32)) hx hb hr (fun tt ht hW => ⟨_, rfl, e9_0, ht⟩) (fun _ h => by cases h) dX3_stepOfWord_10
