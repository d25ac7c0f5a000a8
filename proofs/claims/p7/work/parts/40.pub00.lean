def dl_X7_act_40_pub00_0 : List (Nat × Instr × Nat) := [(103, .iload 7, 2), (105, .invokevirtual 332, 3), (108, .aload_n 0, 1), (109, .getfield 35, 3), (112, .getfield 114, 3), (115, .bipush 16, 2), (117, .dup2, 1), (118, .iaload, 1), (119, .iconst 1, 1), (120, .iadd, 1), (121, .iastore, 1), (122, .iload 7, 2), (124, .ireturn, 1), (0, .aload_n 0, 1), (1, .getfield 35, 3), (4, .iload_n 1, 1), (5, .iload_n 2, 1), (6, .iload_n 3, 1), (7, .iload 4, 2), (9, .invokevirtual 220, 3), (12, .istore 6, 2), (14, .iload 6, 2), (16, .iconst (-1), 1), (17, .if_icmp .eq 36, 3), (53, .aload_n 0, 1), (54, .getfield 58, 3), (57, .aload_n 0, 1), (58, .getfield 35, 3), (61, .invokevirtual 330, 3), (64, .aload_n 0, 1), (65, .getfield 35, 3), (68, .iload_n 1, 1), (69, .iload_n 2, 1), (70, .iload_n 3, 1), (71, .iload 4, 2), (73, .invokevirtual 241, 3), (76, .istore 7, 2), (78, .aload_n 0, 1), (79, .getfield 48, 3), (82, .aload_n 0, 1), (83, .getfield 35, 3), (86, .getfield 114, 3), (89, .bipush 16, 2), (91, .iaload, 1), (92, .iload_n 1, 1), (93, .iload_n 1, 1), (94, .iconst 1, 1), (95, .if_icmp .ne 7, 3), (102, .iload_n 2, 1), (98, .iconst (-1), 1)]
set_option maxRecDepth 100000 in
theorem dall_X7_act_40_pub00_0 : dchk cX7_act dl_X7_act_40_pub00_0 = true := by decide +kernel
theorem dX7_act_103 : decode cX7_act 103 = .ok (.iload 7, 2) := dchk_at dall_X7_act_40_pub00_0 (k := 0) rfl
theorem dX7_act_105 : decode cX7_act 105 = .ok (.invokevirtual 332, 3) := dchk_at dall_X7_act_40_pub00_0 (k := 1) rfl
theorem dX7_act_108 : decode cX7_act 108 = .ok (.aload_n 0, 1) := dchk_at dall_X7_act_40_pub00_0 (k := 2) rfl
theorem dX7_act_109 : decode cX7_act 109 = .ok (.getfield 35, 3) := dchk_at dall_X7_act_40_pub00_0 (k := 3) rfl
theorem dX7_act_112 : decode cX7_act 112 = .ok (.getfield 114, 3) := dchk_at dall_X7_act_40_pub00_0 (k := 4) rfl
theorem dX7_act_115 : decode cX7_act 115 = .ok (.bipush 16, 2) := dchk_at dall_X7_act_40_pub00_0 (k := 5) rfl
theorem dX7_act_117 : decode cX7_act 117 = .ok (.dup2, 1) := dchk_at dall_X7_act_40_pub00_0 (k := 6) rfl
theorem dX7_act_118 : decode cX7_act 118 = .ok (.iaload, 1) := dchk_at dall_X7_act_40_pub00_0 (k := 7) rfl
theorem dX7_act_119 : decode cX7_act 119 = .ok (.iconst 1, 1) := dchk_at dall_X7_act_40_pub00_0 (k := 8) rfl
theorem dX7_act_120 : decode cX7_act 120 = .ok (.iadd, 1) := dchk_at dall_X7_act_40_pub00_0 (k := 9) rfl
theorem dX7_act_121 : decode cX7_act 121 = .ok (.iastore, 1) := dchk_at dall_X7_act_40_pub00_0 (k := 10) rfl
theorem dX7_act_122 : decode cX7_act 122 = .ok (.iload 7, 2) := dchk_at dall_X7_act_40_pub00_0 (k := 11) rfl
theorem dX7_act_124 : decode cX7_act 124 = .ok (.ireturn, 1) := dchk_at dall_X7_act_40_pub00_0 (k := 12) rfl
theorem dX7_act_0 : decode cX7_act 0 = .ok (.aload_n 0, 1) := dchk_at dall_X7_act_40_pub00_0 (k := 13) rfl
theorem dX7_act_1 : decode cX7_act 1 = .ok (.getfield 35, 3) := dchk_at dall_X7_act_40_pub00_0 (k := 14) rfl
theorem dX7_act_4 : decode cX7_act 4 = .ok (.iload_n 1, 1) := dchk_at dall_X7_act_40_pub00_0 (k := 15) rfl
theorem dX7_act_5 : decode cX7_act 5 = .ok (.iload_n 2, 1) := dchk_at dall_X7_act_40_pub00_0 (k := 16) rfl
theorem dX7_act_6 : decode cX7_act 6 = .ok (.iload_n 3, 1) := dchk_at dall_X7_act_40_pub00_0 (k := 17) rfl
theorem dX7_act_7 : decode cX7_act 7 = .ok (.iload 4, 2) := dchk_at dall_X7_act_40_pub00_0 (k := 18) rfl
theorem dX7_act_9 : decode cX7_act 9 = .ok (.invokevirtual 220, 3) := dchk_at dall_X7_act_40_pub00_0 (k := 19) rfl
theorem dX7_act_12 : decode cX7_act 12 = .ok (.istore 6, 2) := dchk_at dall_X7_act_40_pub00_0 (k := 20) rfl
theorem dX7_act_14 : decode cX7_act 14 = .ok (.iload 6, 2) := dchk_at dall_X7_act_40_pub00_0 (k := 21) rfl
theorem dX7_act_16 : decode cX7_act 16 = .ok (.iconst (-1), 1) := dchk_at dall_X7_act_40_pub00_0 (k := 22) rfl
theorem dX7_act_17 : decode cX7_act 17 = .ok (.if_icmp .eq 36, 3) := dchk_at dall_X7_act_40_pub00_0 (k := 23) rfl
theorem dX7_act_53 : decode cX7_act 53 = .ok (.aload_n 0, 1) := dchk_at dall_X7_act_40_pub00_0 (k := 24) rfl
theorem dX7_act_54 : decode cX7_act 54 = .ok (.getfield 58, 3) := dchk_at dall_X7_act_40_pub00_0 (k := 25) rfl
theorem dX7_act_57 : decode cX7_act 57 = .ok (.aload_n 0, 1) := dchk_at dall_X7_act_40_pub00_0 (k := 26) rfl
theorem dX7_act_58 : decode cX7_act 58 = .ok (.getfield 35, 3) := dchk_at dall_X7_act_40_pub00_0 (k := 27) rfl
theorem dX7_act_61 : decode cX7_act 61 = .ok (.invokevirtual 330, 3) := dchk_at dall_X7_act_40_pub00_0 (k := 28) rfl
theorem dX7_act_64 : decode cX7_act 64 = .ok (.aload_n 0, 1) := dchk_at dall_X7_act_40_pub00_0 (k := 29) rfl
theorem dX7_act_65 : decode cX7_act 65 = .ok (.getfield 35, 3) := dchk_at dall_X7_act_40_pub00_0 (k := 30) rfl
theorem dX7_act_68 : decode cX7_act 68 = .ok (.iload_n 1, 1) := dchk_at dall_X7_act_40_pub00_0 (k := 31) rfl
theorem dX7_act_69 : decode cX7_act 69 = .ok (.iload_n 2, 1) := dchk_at dall_X7_act_40_pub00_0 (k := 32) rfl
theorem dX7_act_70 : decode cX7_act 70 = .ok (.iload_n 3, 1) := dchk_at dall_X7_act_40_pub00_0 (k := 33) rfl
theorem dX7_act_71 : decode cX7_act 71 = .ok (.iload 4, 2) := dchk_at dall_X7_act_40_pub00_0 (k := 34) rfl
theorem dX7_act_73 : decode cX7_act 73 = .ok (.invokevirtual 241, 3) := dchk_at dall_X7_act_40_pub00_0 (k := 35) rfl
theorem dX7_act_76 : decode cX7_act 76 = .ok (.istore 7, 2) := dchk_at dall_X7_act_40_pub00_0 (k := 36) rfl
theorem dX7_act_78 : decode cX7_act 78 = .ok (.aload_n 0, 1) := dchk_at dall_X7_act_40_pub00_0 (k := 37) rfl
theorem dX7_act_79 : decode cX7_act 79 = .ok (.getfield 48, 3) := dchk_at dall_X7_act_40_pub00_0 (k := 38) rfl
theorem dX7_act_82 : decode cX7_act 82 = .ok (.aload_n 0, 1) := dchk_at dall_X7_act_40_pub00_0 (k := 39) rfl
theorem dX7_act_83 : decode cX7_act 83 = .ok (.getfield 35, 3) := dchk_at dall_X7_act_40_pub00_0 (k := 40) rfl
theorem dX7_act_86 : decode cX7_act 86 = .ok (.getfield 114, 3) := dchk_at dall_X7_act_40_pub00_0 (k := 41) rfl
theorem dX7_act_89 : decode cX7_act 89 = .ok (.bipush 16, 2) := dchk_at dall_X7_act_40_pub00_0 (k := 42) rfl
theorem dX7_act_91 : decode cX7_act 91 = .ok (.iaload, 1) := dchk_at dall_X7_act_40_pub00_0 (k := 43) rfl
theorem dX7_act_92 : decode cX7_act 92 = .ok (.iload_n 1, 1) := dchk_at dall_X7_act_40_pub00_0 (k := 44) rfl
theorem dX7_act_93 : decode cX7_act 93 = .ok (.iload_n 1, 1) := dchk_at dall_X7_act_40_pub00_0 (k := 45) rfl
theorem dX7_act_94 : decode cX7_act 94 = .ok (.iconst 1, 1) := dchk_at dall_X7_act_40_pub00_0 (k := 46) rfl
theorem dX7_act_95 : decode cX7_act 95 = .ok (.if_icmp .ne 7, 3) := dchk_at dall_X7_act_40_pub00_0 (k := 47) rfl
theorem dX7_act_102 : decode cX7_act 102 = .ok (.iload_n 2, 1) := dchk_at dall_X7_act_40_pub00_0 (k := 48) rfl
theorem dX7_act_98 : decode cX7_act 98 = .ok (.iconst (-1), 1) := dchk_at dall_X7_act_40_pub00_0 (k := 49) rfl
def dl_X7_act_40_pub00_1 : List (Nat × Instr × Nat) := [(99, .goto 4, 3), (20, .iload 5, 2), (22, .ifCond .eq 29, 3), (51, .iconst (-1), 1), (52, .ireturn, 1), (25, .iload 6, 2), (27, .ifCond .lt 24, 3), (30, .iload 6, 2), (32, .aload_n 0, 1), (33, .getfield 69, 3), (36, .arraylength, 1), (37, .if_icmp .ge 14, 3), (40, .aload_n 0, 1), (41, .getfield 69, 3), (44, .iload 6, 2), (46, .dup2, 1), (47, .iaload, 1), (48, .iconst 1, 1), (49, .iadd, 1), (50, .iastore, 1)]
set_option maxRecDepth 100000 in
theorem dall_X7_act_40_pub00_1 : dchk cX7_act dl_X7_act_40_pub00_1 = true := by decide +kernel
theorem dX7_act_99 : decode cX7_act 99 = .ok (.goto 4, 3) := dchk_at dall_X7_act_40_pub00_1 (k := 0) rfl
theorem dX7_act_20 : decode cX7_act 20 = .ok (.iload 5, 2) := dchk_at dall_X7_act_40_pub00_1 (k := 1) rfl
theorem dX7_act_22 : decode cX7_act 22 = .ok (.ifCond .eq 29, 3) := dchk_at dall_X7_act_40_pub00_1 (k := 2) rfl
theorem dX7_act_51 : decode cX7_act 51 = .ok (.iconst (-1), 1) := dchk_at dall_X7_act_40_pub00_1 (k := 3) rfl
theorem dX7_act_52 : decode cX7_act 52 = .ok (.ireturn, 1) := dchk_at dall_X7_act_40_pub00_1 (k := 4) rfl
theorem dX7_act_25 : decode cX7_act 25 = .ok (.iload 6, 2) := dchk_at dall_X7_act_40_pub00_1 (k := 5) rfl
theorem dX7_act_27 : decode cX7_act 27 = .ok (.ifCond .lt 24, 3) := dchk_at dall_X7_act_40_pub00_1 (k := 6) rfl
theorem dX7_act_30 : decode cX7_act 30 = .ok (.iload 6, 2) := dchk_at dall_X7_act_40_pub00_1 (k := 7) rfl
theorem dX7_act_32 : decode cX7_act 32 = .ok (.aload_n 0, 1) := dchk_at dall_X7_act_40_pub00_1 (k := 8) rfl
theorem dX7_act_33 : decode cX7_act 33 = .ok (.getfield 69, 3) := dchk_at dall_X7_act_40_pub00_1 (k := 9) rfl
theorem dX7_act_36 : decode cX7_act 36 = .ok (.arraylength, 1) := dchk_at dall_X7_act_40_pub00_1 (k := 10) rfl
theorem dX7_act_37 : decode cX7_act 37 = .ok (.if_icmp .ge 14, 3) := dchk_at dall_X7_act_40_pub00_1 (k := 11) rfl
theorem dX7_act_40 : decode cX7_act 40 = .ok (.aload_n 0, 1) := dchk_at dall_X7_act_40_pub00_1 (k := 12) rfl
theorem dX7_act_41 : decode cX7_act 41 = .ok (.getfield 69, 3) := dchk_at dall_X7_act_40_pub00_1 (k := 13) rfl
theorem dX7_act_44 : decode cX7_act 44 = .ok (.iload 6, 2) := dchk_at dall_X7_act_40_pub00_1 (k := 14) rfl
theorem dX7_act_46 : decode cX7_act 46 = .ok (.dup2, 1) := dchk_at dall_X7_act_40_pub00_1 (k := 15) rfl
theorem dX7_act_47 : decode cX7_act 47 = .ok (.iaload, 1) := dchk_at dall_X7_act_40_pub00_1 (k := 16) rfl
theorem dX7_act_48 : decode cX7_act 48 = .ok (.iconst 1, 1) := dchk_at dall_X7_act_40_pub00_1 (k := 17) rfl
theorem dX7_act_49 : decode cX7_act 49 = .ok (.iadd, 1) := dchk_at dall_X7_act_40_pub00_1 (k := 18) rfl
theorem dX7_act_50 : decode cX7_act 50 = .ok (.iastore, 1) := dchk_at dall_X7_act_40_pub00_1 (k := 19) rfl
def dl_X7_add_40_pub00_0 : List (Nat × Instr × Nat) := [(0, .aload_n 0, 1), (1, .iconst 4, 1), (2, .iload_n 1, 1), (3, .iload_n 2, 1), (4, .iconst 0, 1), (5, .iconst 1, 1), (6, .invokevirtual 163, 3), (9, .ireturn, 1)]
set_option maxRecDepth 100000 in
theorem dall_X7_add_40_pub00_0 : dchk cX7_add dl_X7_add_40_pub00_0 = true := by decide +kernel
theorem dX7_add_0 : decode cX7_add 0 = .ok (.aload_n 0, 1) := dchk_at dall_X7_add_40_pub00_0 (k := 0) rfl
theorem dX7_add_1 : decode cX7_add 1 = .ok (.iconst 4, 1) := dchk_at dall_X7_add_40_pub00_0 (k := 1) rfl
theorem dX7_add_2 : decode cX7_add 2 = .ok (.iload_n 1, 1) := dchk_at dall_X7_add_40_pub00_0 (k := 2) rfl
theorem dX7_add_3 : decode cX7_add 3 = .ok (.iload_n 2, 1) := dchk_at dall_X7_add_40_pub00_0 (k := 3) rfl
theorem dX7_add_4 : decode cX7_add 4 = .ok (.iconst 0, 1) := dchk_at dall_X7_add_40_pub00_0 (k := 4) rfl
theorem dX7_add_5 : decode cX7_add 5 = .ok (.iconst 1, 1) := dchk_at dall_X7_add_40_pub00_0 (k := 5) rfl
theorem dX7_add_6 : decode cX7_add 6 = .ok (.invokevirtual 163, 3) := dchk_at dall_X7_add_40_pub00_0 (k := 6) rfl
theorem dX7_add_9 : decode cX7_add 9 = .ok (.ireturn, 1) := dchk_at dall_X7_add_40_pub00_0 (k := 7) rfl
def dl_X7_all_40_pub00_0 : List (Nat × Instr × Nat) := [(0, .aload_n 0, 1), (1, .getfield 35, 3), (4, .invokevirtual 110, 3), (7, .ifCond .ne 7, 3), (14, .iload_n 1, 1), (15, .tableswitch 118 0 5 #[37, 37, 50, 50, 64, 92], 37), (52, .aload_n 0, 1), (53, .getfield 35, 3), (56, .getfield 114, 3), (59, .iconst 4, 1), (60, .iload_n 1, 1), (61, .iadd, 1), (62, .iaload, 1), (63, .i2l, 1), (64, .lreturn, 1), (65, .aload_n 0, 1), (66, .getfield 35, 3), (69, .iconst 0, 1), (70, .iload_n 1, 1), (71, .iadd, 1), (72, .iconst 2, 1), (73, .isub, 1), (74, .invokevirtual 160, 3), (77, .i2l, 1), (78, .lreturn, 1), (79, .aload_n 0, 1), (80, .getfield 35, 3), (83, .aload_n 0, 1), (84, .getfield 35, 3), (87, .getfield 114, 3), (90, .iconst 4, 1), (91, .iaload, 1), (92, .i2l, 1), (93, .aload_n 0, 1), (94, .getfield 35, 3), (97, .getfield 114, 3), (100, .iconst 5, 1), (101, .iaload, 1), (102, .i2l, 1), (103, .invokevirtual 150, 3), (106, .lreturn, 1), (107, .aload_n 0, 1), (108, .getfield 35, 3), (111, .aload_n 0, 1), (112, .getfield 35, 3), (115, .iconst 0, 1), (116, .invokevirtual 160, 3), (119, .i2l, 1), (120, .aload_n 0, 1), (121, .getfield 35, 3)]
set_option maxRecDepth 100000 in
theorem dall_X7_all_40_pub00_0 : dchk cX7_all dl_X7_all_40_pub00_0 = true := by decide +kernel
theorem dX7_all_0 : decode cX7_all 0 = .ok (.aload_n 0, 1) := dchk_at dall_X7_all_40_pub00_0 (k := 0) rfl
theorem dX7_all_1 : decode cX7_all 1 = .ok (.getfield 35, 3) := dchk_at dall_X7_all_40_pub00_0 (k := 1) rfl
theorem dX7_all_4 : decode cX7_all 4 = .ok (.invokevirtual 110, 3) := dchk_at dall_X7_all_40_pub00_0 (k := 2) rfl
theorem dX7_all_7 : decode cX7_all 7 = .ok (.ifCond .ne 7, 3) := dchk_at dall_X7_all_40_pub00_0 (k := 3) rfl
theorem dX7_all_14 : decode cX7_all 14 = .ok (.iload_n 1, 1) := dchk_at dall_X7_all_40_pub00_0 (k := 4) rfl
theorem dX7_all_15 : decode cX7_all 15 = .ok (.tableswitch 118 0 5 #[37, 37, 50, 50, 64, 92], 37) := dchk_at dall_X7_all_40_pub00_0 (k := 5) rfl
theorem dX7_all_52 : decode cX7_all 52 = .ok (.aload_n 0, 1) := dchk_at dall_X7_all_40_pub00_0 (k := 6) rfl
theorem dX7_all_53 : decode cX7_all 53 = .ok (.getfield 35, 3) := dchk_at dall_X7_all_40_pub00_0 (k := 7) rfl
theorem dX7_all_56 : decode cX7_all 56 = .ok (.getfield 114, 3) := dchk_at dall_X7_all_40_pub00_0 (k := 8) rfl
theorem dX7_all_59 : decode cX7_all 59 = .ok (.iconst 4, 1) := dchk_at dall_X7_all_40_pub00_0 (k := 9) rfl
theorem dX7_all_60 : decode cX7_all 60 = .ok (.iload_n 1, 1) := dchk_at dall_X7_all_40_pub00_0 (k := 10) rfl
theorem dX7_all_61 : decode cX7_all 61 = .ok (.iadd, 1) := dchk_at dall_X7_all_40_pub00_0 (k := 11) rfl
theorem dX7_all_62 : decode cX7_all 62 = .ok (.iaload, 1) := dchk_at dall_X7_all_40_pub00_0 (k := 12) rfl
theorem dX7_all_63 : decode cX7_all 63 = .ok (.i2l, 1) := dchk_at dall_X7_all_40_pub00_0 (k := 13) rfl
theorem dX7_all_64 : decode cX7_all 64 = .ok (.lreturn, 1) := dchk_at dall_X7_all_40_pub00_0 (k := 14) rfl
theorem dX7_all_65 : decode cX7_all 65 = .ok (.aload_n 0, 1) := dchk_at dall_X7_all_40_pub00_0 (k := 15) rfl
theorem dX7_all_66 : decode cX7_all 66 = .ok (.getfield 35, 3) := dchk_at dall_X7_all_40_pub00_0 (k := 16) rfl
theorem dX7_all_69 : decode cX7_all 69 = .ok (.iconst 0, 1) := dchk_at dall_X7_all_40_pub00_0 (k := 17) rfl
theorem dX7_all_70 : decode cX7_all 70 = .ok (.iload_n 1, 1) := dchk_at dall_X7_all_40_pub00_0 (k := 18) rfl
theorem dX7_all_71 : decode cX7_all 71 = .ok (.iadd, 1) := dchk_at dall_X7_all_40_pub00_0 (k := 19) rfl
theorem dX7_all_72 : decode cX7_all 72 = .ok (.iconst 2, 1) := dchk_at dall_X7_all_40_pub00_0 (k := 20) rfl
theorem dX7_all_73 : decode cX7_all 73 = .ok (.isub, 1) := dchk_at dall_X7_all_40_pub00_0 (k := 21) rfl
theorem dX7_all_74 : decode cX7_all 74 = .ok (.invokevirtual 160, 3) := dchk_at dall_X7_all_40_pub00_0 (k := 22) rfl
theorem dX7_all_77 : decode cX7_all 77 = .ok (.i2l, 1) := dchk_at dall_X7_all_40_pub00_0 (k := 23) rfl
theorem dX7_all_78 : decode cX7_all 78 = .ok (.lreturn, 1) := dchk_at dall_X7_all_40_pub00_0 (k := 24) rfl
theorem dX7_all_79 : decode cX7_all 79 = .ok (.aload_n 0, 1) := dchk_at dall_X7_all_40_pub00_0 (k := 25) rfl
theorem dX7_all_80 : decode cX7_all 80 = .ok (.getfield 35, 3) := dchk_at dall_X7_all_40_pub00_0 (k := 26) rfl
theorem dX7_all_83 : decode cX7_all 83 = .ok (.aload_n 0, 1) := dchk_at dall_X7_all_40_pub00_0 (k := 27) rfl
theorem dX7_all_84 : decode cX7_all 84 = .ok (.getfield 35, 3) := dchk_at dall_X7_all_40_pub00_0 (k := 28) rfl
theorem dX7_all_87 : decode cX7_all 87 = .ok (.getfield 114, 3) := dchk_at dall_X7_all_40_pub00_0 (k := 29) rfl
theorem dX7_all_90 : decode cX7_all 90 = .ok (.iconst 4, 1) := dchk_at dall_X7_all_40_pub00_0 (k := 30) rfl
theorem dX7_all_91 : decode cX7_all 91 = .ok (.iaload, 1) := dchk_at dall_X7_all_40_pub00_0 (k := 31) rfl
theorem dX7_all_92 : decode cX7_all 92 = .ok (.i2l, 1) := dchk_at dall_X7_all_40_pub00_0 (k := 32) rfl
theorem dX7_all_93 : decode cX7_all 93 = .ok (.aload_n 0, 1) := dchk_at dall_X7_all_40_pub00_0 (k := 33) rfl
theorem dX7_all_94 : decode cX7_all 94 = .ok (.getfield 35, 3) := dchk_at dall_X7_all_40_pub00_0 (k := 34) rfl
theorem dX7_all_97 : decode cX7_all 97 = .ok (.getfield 114, 3) := dchk_at dall_X7_all_40_pub00_0 (k := 35) rfl
theorem dX7_all_100 : decode cX7_all 100 = .ok (.iconst 5, 1) := dchk_at dall_X7_all_40_pub00_0 (k := 36) rfl
theorem dX7_all_101 : decode cX7_all 101 = .ok (.iaload, 1) := dchk_at dall_X7_all_40_pub00_0 (k := 37) rfl
theorem dX7_all_102 : decode cX7_all 102 = .ok (.i2l, 1) := dchk_at dall_X7_all_40_pub00_0 (k := 38) rfl
theorem dX7_all_103 : decode cX7_all 103 = .ok (.invokevirtual 150, 3) := dchk_at dall_X7_all_40_pub00_0 (k := 39) rfl
theorem dX7_all_106 : decode cX7_all 106 = .ok (.lreturn, 1) := dchk_at dall_X7_all_40_pub00_0 (k := 40) rfl
theorem dX7_all_107 : decode cX7_all 107 = .ok (.aload_n 0, 1) := dchk_at dall_X7_all_40_pub00_0 (k := 41) rfl
theorem dX7_all_108 : decode cX7_all 108 = .ok (.getfield 35, 3) := dchk_at dall_X7_all_40_pub00_0 (k := 42) rfl
theorem dX7_all_111 : decode cX7_all 111 = .ok (.aload_n 0, 1) := dchk_at dall_X7_all_40_pub00_0 (k := 43) rfl
theorem dX7_all_112 : decode cX7_all 112 = .ok (.getfield 35, 3) := dchk_at dall_X7_all_40_pub00_0 (k := 44) rfl
theorem dX7_all_115 : decode cX7_all 115 = .ok (.iconst 0, 1) := dchk_at dall_X7_all_40_pub00_0 (k := 45) rfl
theorem dX7_all_116 : decode cX7_all 116 = .ok (.invokevirtual 160, 3) := dchk_at dall_X7_all_40_pub00_0 (k := 46) rfl
theorem dX7_all_119 : decode cX7_all 119 = .ok (.i2l, 1) := dchk_at dall_X7_all_40_pub00_0 (k := 47) rfl
theorem dX7_all_120 : decode cX7_all 120 = .ok (.aload_n 0, 1) := dchk_at dall_X7_all_40_pub00_0 (k := 48) rfl
theorem dX7_all_121 : decode cX7_all 121 = .ok (.getfield 35, 3) := dchk_at dall_X7_all_40_pub00_0 (k := 49) rfl
def dl_X7_all_40_pub00_1 : List (Nat × Instr × Nat) := [(124, .iconst 1, 1), (125, .invokevirtual 160, 3), (128, .i2l, 1), (129, .invokevirtual 150, 3), (132, .lreturn, 1), (133, .ldc2_w 154, 3), (136, .lreturn, 1), (10, .ldc2_w 154, 3), (13, .lreturn, 1)]
set_option maxRecDepth 100000 in
theorem dall_X7_all_40_pub00_1 : dchk cX7_all dl_X7_all_40_pub00_1 = true := by decide +kernel
theorem dX7_all_124 : decode cX7_all 124 = .ok (.iconst 1, 1) := dchk_at dall_X7_all_40_pub00_1 (k := 0) rfl
theorem dX7_all_125 : decode cX7_all 125 = .ok (.invokevirtual 160, 3) := dchk_at dall_X7_all_40_pub00_1 (k := 1) rfl
theorem dX7_all_128 : decode cX7_all 128 = .ok (.i2l, 1) := dchk_at dall_X7_all_40_pub00_1 (k := 2) rfl
theorem dX7_all_129 : decode cX7_all 129 = .ok (.invokevirtual 150, 3) := dchk_at dall_X7_all_40_pub00_1 (k := 3) rfl
theorem dX7_all_132 : decode cX7_all 132 = .ok (.lreturn, 1) := dchk_at dall_X7_all_40_pub00_1 (k := 4) rfl
theorem dX7_all_133 : decode cX7_all 133 = .ok (.ldc2_w 154, 3) := dchk_at dall_X7_all_40_pub00_1 (k := 5) rfl
theorem dX7_all_136 : decode cX7_all 136 = .ok (.lreturn, 1) := dchk_at dall_X7_all_40_pub00_1 (k := 6) rfl
theorem dX7_all_10 : decode cX7_all 10 = .ok (.ldc2_w 154, 3) := dchk_at dall_X7_all_40_pub00_1 (k := 7) rfl
theorem dX7_all_13 : decode cX7_all 13 = .ok (.lreturn, 1) := dchk_at dall_X7_all_40_pub00_1 (k := 8) rfl
def dl_X7_tryMove_40_pub00_0 : List (Nat × Instr × Nat) := [(0, .aload_n 0, 1), (1, .getfield 39, 3), (4, .aload_n 0, 1), (5, .getfield 35, 3), (8, .invokevirtual 237, 3), (11, .aload_n 0, 1), (12, .getfield 39, 3), (15, .iconst 0, 1), (16, .iload_n 1, 1), (17, .iload_n 2, 1), (18, .iload_n 3, 1), (19, .invokevirtual 241, 3), (22, .ireturn, 1)]
set_option maxRecDepth 100000 in
theorem dall_X7_tryMove_40_pub00_0 : dchk cX7_tryMove dl_X7_tryMove_40_pub00_0 = true := by decide +kernel
theorem dX7_tryMove_0 : decode cX7_tryMove 0 = .ok (.aload_n 0, 1) := dchk_at dall_X7_tryMove_40_pub00_0 (k := 0) rfl
theorem dX7_tryMove_1 : decode cX7_tryMove 1 = .ok (.getfield 39, 3) := dchk_at dall_X7_tryMove_40_pub00_0 (k := 1) rfl
theorem dX7_tryMove_4 : decode cX7_tryMove 4 = .ok (.aload_n 0, 1) := dchk_at dall_X7_tryMove_40_pub00_0 (k := 2) rfl
theorem dX7_tryMove_5 : decode cX7_tryMove 5 = .ok (.getfield 35, 3) := dchk_at dall_X7_tryMove_40_pub00_0 (k := 3) rfl
theorem dX7_tryMove_8 : decode cX7_tryMove 8 = .ok (.invokevirtual 237, 3) := dchk_at dall_X7_tryMove_40_pub00_0 (k := 4) rfl
theorem dX7_tryMove_11 : decode cX7_tryMove 11 = .ok (.aload_n 0, 1) := dchk_at dall_X7_tryMove_40_pub00_0 (k := 5) rfl
theorem dX7_tryMove_12 : decode cX7_tryMove 12 = .ok (.getfield 39, 3) := dchk_at dall_X7_tryMove_40_pub00_0 (k := 6) rfl
theorem dX7_tryMove_15 : decode cX7_tryMove 15 = .ok (.iconst 0, 1) := dchk_at dall_X7_tryMove_40_pub00_0 (k := 7) rfl
theorem dX7_tryMove_16 : decode cX7_tryMove 16 = .ok (.iload_n 1, 1) := dchk_at dall_X7_tryMove_40_pub00_0 (k := 8) rfl
theorem dX7_tryMove_17 : decode cX7_tryMove 17 = .ok (.iload_n 2, 1) := dchk_at dall_X7_tryMove_40_pub00_0 (k := 9) rfl
theorem dX7_tryMove_18 : decode cX7_tryMove 18 = .ok (.iload_n 3, 1) := dchk_at dall_X7_tryMove_40_pub00_0 (k := 10) rfl
theorem dX7_tryMove_19 : decode cX7_tryMove 19 = .ok (.invokevirtual 241, 3) := dchk_at dall_X7_tryMove_40_pub00_0 (k := 11) rfl
theorem dX7_tryMove_22 : decode cX7_tryMove 22 = .ok (.ireturn, 1) := dchk_at dall_X7_tryMove_40_pub00_0 (k := 12) rfl
def J_X7_act_103 (k0 : Int32) (k1 : Int32) (k2 : Int32) (x7 : Int32) (c_now_row : Nat → Int32) (c_now_partners : Nat → Int32) (c_now_askedCount : Int32) (c_now_outcome : Int32) (c_now_share : Nat → Int32) (c_now_leftOver : Nat → Int32) (c_book_lines : Nat → Int32) (c_history_rows : Nat → Int32) (c_history_next : Int32) (c_history_held : Int32) (c_refused : Nat → Int32) : Option (Int32 × (Nat → Int32) × (Nat → Int32) × Int32 × Int32 × (Nat → Int32) × (Nat → Int32) × (Nat → Int32) × (Nat → Int32) × Int32 × Int32 × (Nat → Int32)) :=
  bd1 (F_X0_write k2 k1 k0 x7 c_book_lines) (fun w_17 => nmF (upd c_now_row 16 ((c_now_row 16) + (1 : Int32))) (fun f_19 => some (x7, f_19, c_now_partners, c_now_askedCount, c_now_outcome, c_now_share, c_now_leftOver, w_17, c_history_rows, c_history_next, c_history_held, c_refused)))
def F_X7_act (K : Nat) (p1 : Int32) (p2 : Int32) (p3 : Int32) (p4 : Int32) (p5 : Int32) (c_now_row : Nat → Int32) (c_now_partners : Nat → Int32) (c_now_askedCount : Int32) (c_now_outcome : Int32) (c_now_share : Nat → Int32) (c_now_leftOver : Nat → Int32) (c_book_lines : Nat → Int32) (c_history_rows : Nat → Int32) (c_history_next : Int32) (c_history_held : Int32) (c_refused : Nat → Int32) : Option (Int32 × (Nat → Int32) × (Nat → Int32) × Int32 × Int32 × (Nat → Int32) × (Nat → Int32) × (Nat → Int32) × (Nat → Int32) × Int32 × Int32 × (Nat → Int32)) :=
  bd1 (F_X5_refusal p1 p2 p3 p4 c_now_row) (fun r_1 => if r_1 = (-1 : Int32) then bd3 (F_X2_keep c_history_rows c_history_next c_history_held c_now_row) (fun w_4 w_5 w_6 => bd7 (F_X5_doAct K p1 p2 p3 p4 c_now_row c_now_partners c_now_askedCount c_now_outcome c_now_share c_now_leftOver) (fun r_8 w_9 w_10 w_11 w_12 w_13 w_14 => if p1 = (1 : Int32) then J_X7_act_103 (-1 : Int32) p1 (w_9 16) r_8 w_9 w_10 w_11 w_12 w_13 w_14 c_book_lines w_4 w_5 w_6 c_refused else J_X7_act_103 p2 p1 (w_9 16) r_8 w_9 w_10 w_11 w_12 w_13 w_14 c_book_lines w_4 w_5 w_6 c_refused)) else if p5 = (0 : Int32) then some ((-1 : Int32), c_now_row, c_now_partners, c_now_askedCount, c_now_outcome, c_now_share, c_now_leftOver, c_book_lines, c_history_rows, c_history_next, c_history_held, c_refused) else if r_1 < (0 : Int32) then some ((-1 : Int32), c_now_row, c_now_partners, c_now_askedCount, c_now_outcome, c_now_share, c_now_leftOver, c_book_lines, c_history_rows, c_history_next, c_history_held, c_refused) else if (3 : Int32) ≤ r_1 then some ((-1 : Int32), c_now_row, c_now_partners, c_now_askedCount, c_now_outcome, c_now_share, c_now_leftOver, c_book_lines, c_history_rows, c_history_next, c_history_held, c_refused) else ixF r_1 3 (ixF r_1 3 (nmF (upd c_refused r_1.toNatClampNeg ((c_refused r_1.toNatClampNeg) + (1 : Int32))) (fun f_25 => some ((-1 : Int32), c_now_row, c_now_partners, c_now_askedCount, c_now_outcome, c_now_share, c_now_leftOver, c_book_lines, c_history_rows, c_history_next, c_history_held, f_25)))))
abbrev w_X7_act (E : EE) (a_ a_tape a_reader a_scripts a_now a_trial a_kept a_book a_keptBook a_history a_draws a_refused a_now_row a_now_partners a_now_share a_now_leftOver a_book_lines a_history_rows : Nat) (c_hasImage : Int32) (c_now_askedCount : Int32) (c_now_outcome : Int32) (c_now_row : Nat → Int32) (c_now_partners : Nat → Int32) (c_now_share : Nat → Int32) (c_now_leftOver : Nat → Int32) (c_book_lines : Nat → Int32) (c_history_next : Int32) (c_history_held : Int32) (c_history_rows : Nat → Int32) (c_refused : Nat → Int32) : va_W := [(a_, .inr (8, [.ref a_tape, .ref a_reader, .ref a_scripts, .ref a_now, .ref a_trial, .ref a_kept, .ref a_book, .ref a_keptBook, .ref a_history, .ref a_draws, .ref a_refused, .int c_hasImage])), (a_now, .inr (6, [.ref a_now_row, .ref a_now_partners, .int c_now_askedCount, .int c_now_outcome, .ref a_now_share, .ref a_now_leftOver])), (a_now_row, .inl (E.2.1, 81, .inl c_now_row)), (a_now_partners, .inl (E.2.1, 8, .inl c_now_partners)), (a_now_share, .inl (E.2.1, 2, .inl c_now_share)), (a_now_leftOver, .inl (E.2.1, 2, .inl c_now_leftOver)), (a_book, .inr (1, [.ref a_book_lines])), (a_book_lines, .inl (E.2.1, 300, .inl c_book_lines)), (a_history, .inr (3, [.ref a_history_rows, .int c_history_next, .int c_history_held])), (a_history_rows, .inl (E.2.1, 3240, .inl c_history_rows)), (a_refused, .inl (E.2.1, 3, .inl c_refused))]
def v_f_X7_act : List Cond := .code yX7_act cX7_act 8 (some .int) :: ([.fieldLink RX7 35 "HushWatch" "now" "LHushWatch$State;", .fieldLink RX7 58 "HushWatch" "history" "LHushWatch$History;", .fieldLink RX7 48 "HushWatch" "book" "LHushWatch$Book;", .fieldLink RX7 69 "HushWatch" "refused" "[I", .methodLink RX7 220 yX5_refusal, .instanceMethod yX5_refusal, .selects RX5 yX5_refusal yX5_refusal, .initialized RX5, .methodLink RX7 330 yX2_keep, .instanceMethod yX2_keep, .selects RX2 yX2_keep yX2_keep, .initialized RX2, .methodLink RX7 241 yX5_doAct, .instanceMethod yX5_doAct, .selects RX5 yX5_doAct yX5_doAct, .methodLink RX7 332 yX0_write, .instanceMethod yX0_write, .selects RX0 yX0_write yX0_write, .initialized RX0] ++ (wsX70 ++ (v_f_X5_refusal ++ (v_f_X2_keep ++ (v_f_X5_doAct ++ (wsX50 ++ (v_f_X0_write ++ ([]))))))))
theorem gw_f_X7_act : v_f_X7_act.all goodWord = true := by decide +kernel
theorem i_f_X7_act_X7 : ∀ w ∈ wsX70, w ∈ v_f_X7_act := fun _ h => List.mem_cons_of_mem _ (List.mem_append_right _ (List.mem_append_left _ h))
theorem i_f_X7_act_X5 : ∀ w ∈ wsX50, w ∈ v_f_X7_act := fun _ h => List.mem_cons_of_mem _ (List.mem_append_right _ (List.mem_append_right _ (List.mem_append_right _ (List.mem_append_right _ (List.mem_append_right _ (List.mem_append_left _ h))))))
theorem g_f_X7_act_f_X5_refusal_220 : GoodIn v_f_X7_act (wsV RX7 220 RX5 yX5_refusal v_f_X5_refusal) := goodIn_app (goodIn_of _ (by decide +kernel)) (goodIn_sub (fun _ h => List.mem_cons_of_mem _ (List.mem_append_right _ (List.mem_append_right _ (List.mem_append_left _ h)))) gw_f_X5_refusal)
theorem g_f_X7_act_f_X2_keep_330 : GoodIn v_f_X7_act (wsV RX7 330 RX2 yX2_keep v_f_X2_keep) := goodIn_app (goodIn_of _ (by decide +kernel)) (goodIn_sub (fun _ h => List.mem_cons_of_mem _ (List.mem_append_right _ (List.mem_append_right _ (List.mem_append_right _ (List.mem_append_left _ h))))) gw_f_X2_keep)
theorem g_f_X7_act_f_X5_doAct_241 : GoodIn v_f_X7_act (wsV RX7 241 RX5 yX5_doAct v_f_X5_doAct) := goodIn_app (goodIn_of _ (by decide +kernel)) (goodIn_sub (fun _ h => List.mem_cons_of_mem _ (List.mem_append_right _ (List.mem_append_right _ (List.mem_append_right _ (List.mem_append_right _ (List.mem_append_left _ h)))))) gw_f_X5_doAct)
theorem g_f_X7_act_f_X0_write_332 : GoodIn v_f_X7_act (wsV RX7 332 RX0 yX0_write v_f_X0_write) := goodIn_app (goodIn_of _ (by decide +kernel)) (goodIn_sub (fun _ h => List.mem_cons_of_mem _ (List.mem_append_right _ (List.mem_append_right _ (List.mem_append_right _ (List.mem_append_right _ (List.mem_append_right _ (List.mem_append_right _ (List.mem_append_left _ h)))))))) gw_f_X0_write)
theorem hd_X7_act : yX7_act.cls = RX7 ∧ yX7_act.cls ≠ "java/lang/invoke/MethodHandle" ∧ yX7_act.cls ≠ "java/lang/invoke/VarHandle" ∧ (parseMethodDescriptor yX7_act.desc).map (fun d => d.parameters.length) = some 5 := by decide +kernel
set_option maxHeartbeats 4000000 in
set_option maxRecDepth 100000 in
theorem j_X7_act_103 {p : Program} (l : Launch) {e : Env} {s : State} {m : MethodId} {below : List Frame} {meth : Method} {c : Code} {Q : State → Prop} (E : EE) (K : Nat) {a_ a_tape a_reader a_scripts a_now a_trial a_kept a_book a_keptBook a_history a_draws a_refused a_now_row a_now_partners a_now_share a_now_leftOver a_book_lines a_history_rows : Nat} {p1 : Int32} {p2 : Int32} {p3 : Int32} {p4 : Int32} {p5 : Int32} {c_hasImage : Int32} {k0 : Int32} {k1 : Int32} {k2 : Int32} {x7 : Int32} {c_now_row : Nat → Int32} {c_now_partners : Nat → Int32} {c_now_askedCount : Int32} {c_now_outcome : Int32} {c_now_share : Nat → Int32} {c_now_leftOver : Nat → Int32} {c_book_lines : Nat → Int32} {c_history_rows : Nat → Int32} {c_history_next : Int32} {c_history_held : Int32} {c_refused : Nat → Int32} (hx : p.tables.exec = Jvm.exec) (hb : c.code = cX7_act) (hml : c.maxLocals = 8) (hown : s.vm.findClass RX7 = some m.cls) (hts : ∀ w ∈ v_f_X7_act, w.before #[Value.ref a_, Value.int p1, Value.int p2, Value.int p3, Value.int p4, Value.int p5] s = true) (hK : va_K E.1 vwCl (TY E) s) (hN : NX s) {A : Nat → Prop} (hA : ∀ q : Nat, s.heap.size ≤ q → A q) {rr : Int32} {n_now_row : Nat → Int32} {n_now_partners : Nat → Int32} {n_now_askedCount : Int32} {n_now_outcome : Int32} {n_now_share : Nat → Int32} {n_now_leftOver : Nat → Int32} {n_book_lines : Nat → Int32} {n_history_rows : Nat → Int32} {n_history_next : Int32} {n_history_held : Int32} {n_refused : Nat → Int32} (hr : meth.sig.returnType = (some .int)) (hlocks : meth.locks = false) (hQ : Q = MQ below (va_Qi (fun (q : Int32) (_u : Unit) => q = rr) (fun (_u : Unit) tt => va_P E.1 vwCl (w_X7_act E a_ a_tape a_reader a_scripts a_now a_trial a_kept a_book a_keptBook a_history a_draws a_refused a_now_row a_now_partners a_now_share a_now_leftOver a_book_lines a_history_rows c_hasImage n_now_askedCount n_now_outcome n_now_row n_now_partners n_now_share n_now_leftOver n_book_lines n_history_next n_history_held n_history_rows n_refused) tt.heap ∧ va_D A (w_X7_act E a_ a_tape a_reader a_scripts a_now a_trial a_kept a_book a_keptBook a_history a_draws a_refused a_now_row a_now_partners a_now_share a_now_leftOver a_book_lines a_history_rows c_hasImage n_now_askedCount n_now_outcome n_now_row n_now_partners n_now_share n_now_leftOver n_book_lines n_history_next n_history_held n_history_rows n_refused)) A) #[Value.ref a_, Value.int p1, Value.int p2, Value.int p3, Value.int p4, Value.int p5] s 0 0 A) (hF : J_X7_act_103 k0 k1 k2 x7 c_now_row c_now_partners c_now_askedCount c_now_outcome c_now_share c_now_leftOver c_book_lines c_history_rows c_history_next c_history_held c_refused = some (rr, n_now_row, n_now_partners, n_now_askedCount, n_now_outcome, n_now_share, n_now_leftOver, n_book_lines, n_history_rows, n_history_next, n_history_held, n_refused)) : ∀ (H : Heap) (locs : List Loc) (ls : Array Slot), va_P E.1 vwCl (w_X7_act E a_ a_tape a_reader a_scripts a_now a_trial a_kept a_book a_keptBook a_history a_draws a_refused a_now_row a_now_partners a_now_share a_now_leftOver a_book_lines a_history_rows c_hasImage c_now_askedCount c_now_outcome c_now_row c_now_partners c_now_share c_now_leftOver c_book_lines c_history_next c_history_held c_history_rows c_refused) H → va_D A (w_X7_act E a_ a_tape a_reader a_scripts a_now a_trial a_kept a_book a_keptBook a_history a_draws a_refused a_now_row a_now_partners a_now_share a_now_leftOver a_book_lines a_history_rows c_hasImage c_now_askedCount c_now_outcome c_now_row c_now_partners c_now_share c_now_leftOver c_book_lines c_history_next c_history_held c_history_rows c_refused) → va_S A s.heap H locs → lv_has ls 8 [(0, .ref a_), (7, .int x7)] → W p l e ({ frames := 5, cells := 0, slots := 0, locals := 124 } : Room) s m #[Value.ref a_, Value.int p1, Value.int p2, Value.int p3, Value.int p4, Value.int p5] below meth c H locs 0 0 Q (F0 m 103 ls [.int k0, .int k1, .int k2, .ref a_book]) := by
  unfold J_X7_act_103 at hF
  intro H locs ls hP hD hS hl
  replace hP : va_P E.1 vwCl [(a_, .inr (8, [.ref a_tape, .ref a_reader, .ref a_scripts, .ref a_now, .ref a_trial, .ref a_kept, .ref a_book, .ref a_keptBook, .ref a_history, .ref a_draws, .ref a_refused, .int c_hasImage])), (a_now, .inr (6, [.ref a_now_row, .ref a_now_partners, .int c_now_askedCount, .int c_now_outcome, .ref a_now_share, .ref a_now_leftOver])), (a_now_row, .inl (E.2.1, 81, .inl c_now_row)), (a_now_partners, .inl (E.2.1, 8, .inl c_now_partners)), (a_now_share, .inl (E.2.1, 2, .inl c_now_share)), (a_now_leftOver, .inl (E.2.1, 2, .inl c_now_leftOver)), (a_book, .inr (1, [.ref a_book_lines])), (a_book_lines, .inl (E.2.1, 300, .inl c_book_lines)), (a_history, .inr (3, [.ref a_history_rows, .int c_history_next, .int c_history_held])), (a_history_rows, .inl (E.2.1, 3240, .inl c_history_rows)), (a_refused, .inl (E.2.1, 3, .inl c_refused))] H := hP
  replace hD : va_D A [(a_, .inr (8, [.ref a_tape, .ref a_reader, .ref a_scripts, .ref a_now, .ref a_trial, .ref a_kept, .ref a_book, .ref a_keptBook, .ref a_history, .ref a_draws, .ref a_refused, .int c_hasImage])), (a_now, .inr (6, [.ref a_now_row, .ref a_now_partners, .int c_now_askedCount, .int c_now_outcome, .ref a_now_share, .ref a_now_leftOver])), (a_now_row, .inl (E.2.1, 81, .inl c_now_row)), (a_now_partners, .inl (E.2.1, 8, .inl c_now_partners)), (a_now_share, .inl (E.2.1, 2, .inl c_now_share)), (a_now_leftOver, .inl (E.2.1, 2, .inl c_now_leftOver)), (a_book, .inr (1, [.ref a_book_lines])), (a_book_lines, .inl (E.2.1, 300, .inl c_book_lines)), (a_history, .inr (3, [.ref a_history_rows, .int c_history_next, .int c_history_held])), (a_history_rows, .inl (E.2.1, 3240, .inl c_history_rows)), (a_refused, .inl (E.2.1, 3, .inl c_refused))] := hD
  refine lv_iload hx hb dX7_act_103 (lv_at hl 1 rfl) ?_
  replace hF := bd1_s hF
  obtain ⟨w_17, hc_18, hF⟩ := hF
  obtain ⟨hPc, hDc, hFc⟩ := wcut (wc := (w_X0_write E a_book a_book_lines c_book_lines)) hP hD hS hA [6, 7] (by decide) rfl
  have hrc := va_recv hK hPc (ci := 1) (q0 := 0) rfl rfl
  refine cE_v (wc := (w_X0_write E a_book a_book_lines c_book_lines)) (wr := [(a_, .inr (8, [.ref a_tape, .ref a_reader, .ref a_scripts, .ref a_now, .ref a_trial, .ref a_kept, .ref a_book, .ref a_keptBook, .ref a_history, .ref a_draws, .ref a_refused, .int c_hasImage])), (a_now, .inr (6, [.ref a_now_row, .ref a_now_partners, .int c_now_askedCount, .int c_now_outcome, .ref a_now_share, .ref a_now_leftOver])), (a_now_row, .inl (E.2.1, 81, .inl c_now_row)), (a_now_partners, .inl (E.2.1, 8, .inl c_now_partners)), (a_now_share, .inl (E.2.1, 2, .inl c_now_share)), (a_now_leftOver, .inl (E.2.1, 2, .inl c_now_leftOver)), (a_history, .inr (3, [.ref a_history_rows, .int c_history_next, .int c_history_held])), (a_history_rows, .inl (E.2.1, 3240, .inl c_history_rows)), (a_refused, .inl (E.2.1, 3, .inl c_refused))]) (w1 := (w_X0_write E a_book a_book_lines w_17)) (va_runV (As := [.int k2, .int k1, .int k0, .int x7]) (rest := [])  ⟨hx, hb, hml, hown, hts⟩ (f_X0_write l E H.size (a_ := a_book) (a_lines := a_book_lines) (p1 := k2) (p2 := k1) (p3 := k0) (p4 := x7) (c_lines := c_book_lines) hc_18) (cwV 4 hts g_f_X7_act_f_X0_write_332 rfl rfl rfl hd_X0_write ⟨Nat.le_of_ble_eq_true rfl, Nat.le_of_ble_eq_true rfl⟩) ⟨pW.blind, hrc, (pW.pre ⟨hK, hN⟩ hPc hDc)⟩ rfl rfl hl.1 rfl (lv_room (Nat.le_of_ble_eq_true rfl)) dX7_act_105 ⟨Nat.le_of_ble_eq_true rfl, Nat.le_of_ble_eq_true rfl⟩) hS hFc hP hD [6, 7] [0, 1, 2, 3, 4, 5, 8, 9, 10] rfl rfl (by decide) (by decide) (fun H locs hP hD hS => ?_)
  replace hP : va_P E.1 vwCl [(a_, .inr (8, [.ref a_tape, .ref a_reader, .ref a_scripts, .ref a_now, .ref a_trial, .ref a_kept, .ref a_book, .ref a_keptBook, .ref a_history, .ref a_draws, .ref a_refused, .int c_hasImage])), (a_now, .inr (6, [.ref a_now_row, .ref a_now_partners, .int c_now_askedCount, .int c_now_outcome, .ref a_now_share, .ref a_now_leftOver])), (a_now_row, .inl (E.2.1, 81, .inl c_now_row)), (a_now_partners, .inl (E.2.1, 8, .inl c_now_partners)), (a_now_share, .inl (E.2.1, 2, .inl c_now_share)), (a_now_leftOver, .inl (E.2.1, 2, .inl c_now_leftOver)), (a_history, .inr (3, [.ref a_history_rows, .int c_history_next, .int c_history_held])), (a_history_rows, .inl (E.2.1, 3240, .inl c_history_rows)), (a_refused, .inl (E.2.1, 3, .inl c_refused)), (a_book, .inr (1, [.ref a_book_lines])), (a_book_lines, .inl (E.2.1, 300, .inl w_17))] H := hP
  replace hD : va_D A [(a_, .inr (8, [.ref a_tape, .ref a_reader, .ref a_scripts, .ref a_now, .ref a_trial, .ref a_kept, .ref a_book, .ref a_keptBook, .ref a_history, .ref a_draws, .ref a_refused, .int c_hasImage])), (a_now, .inr (6, [.ref a_now_row, .ref a_now_partners, .int c_now_askedCount, .int c_now_outcome, .ref a_now_share, .ref a_now_leftOver])), (a_now_row, .inl (E.2.1, 81, .inl c_now_row)), (a_now_partners, .inl (E.2.1, 8, .inl c_now_partners)), (a_now_share, .inl (E.2.1, 2, .inl c_now_share)), (a_now_leftOver, .inl (E.2.1, 2, .inl c_now_leftOver)), (a_history, .inr (3, [.ref a_history_rows, .int c_history_next, .int c_history_held])), (a_history_rows, .inl (E.2.1, 3240, .inl c_history_rows)), (a_refused, .inl (E.2.1, 3, .inl c_refused)), (a_book, .inr (1, [.ref a_book_lines])), (a_book_lines, .inl (E.2.1, 300, .inl w_17))] := hD
  refine lv_aload_n hx hb dX7_act_108 rfl (lv_at hl 0 rfl) ?_
  refine gt_X7_3 (v := .ref a_now) hx hb hts i_f_X7_act_X7 hown hK hP 0 rfl (hts (.fieldLink RX7 35 "HushWatch" "now" "LHushWatch$State;") (List.mem_of_getElem? (i := 1) rfl)) rfl dX7_act_109 ?_
  refine va_getN (D := E.1) (ci := 6) (v := .ref a_now_row) (C := RX5) (T := TX5) (N := 6) hx hb hts i_f_X7_act_X5 hown hK hP 1 rfl rfl 0 (by decide) (nx hN 12 rfl) (fun _ h9 => h9) rfl dX7_act_112 ?_
  refine lv_bipush (v := 16) hx hb dX7_act_115 (by decide) ?_
  refine lv_dup2_11 hx hb dX7_act_117 rfl rfl ?_
  refine va_iald hx hb hK hP 2 0 rfl rfl (vin rfl) dX7_act_118 ?_
  refine W.eq (g2 := F0 m 119 ls [.int (c_now_row 16), .int (16 : Int32), .ref a_now_row]) rfl ?_
  refine lv_iconst (v := 1) hx hb dX7_act_119 (by decide) ?_
  refine lv_iadd hx hb dX7_act_120 ?_
  refine va_iast hx hb hK hP hD hS 2 0 rfl rfl (vin rfl) dX7_act_121 (fun H locs hP hD hS => ?_)
  replace hP : va_P E.1 vwCl [(a_, .inr (8, [.ref a_tape, .ref a_reader, .ref a_scripts, .ref a_now, .ref a_trial, .ref a_kept, .ref a_book, .ref a_keptBook, .ref a_history, .ref a_draws, .ref a_refused, .int c_hasImage])), (a_now, .inr (6, [.ref a_now_row, .ref a_now_partners, .int c_now_askedCount, .int c_now_outcome, .ref a_now_share, .ref a_now_leftOver])), (a_now_row, .inl (E.2.1, 81, .inl (upd c_now_row 16 ((c_now_row 16) + (1 : Int32))))), (a_now_partners, .inl (E.2.1, 8, .inl c_now_partners)), (a_now_share, .inl (E.2.1, 2, .inl c_now_share)), (a_now_leftOver, .inl (E.2.1, 2, .inl c_now_leftOver)), (a_history, .inr (3, [.ref a_history_rows, .int c_history_next, .int c_history_held])), (a_history_rows, .inl (E.2.1, 3240, .inl c_history_rows)), (a_refused, .inl (E.2.1, 3, .inl c_refused)), (a_book, .inr (1, [.ref a_book_lines])), (a_book_lines, .inl (E.2.1, 300, .inl w_17))] H := hP
  replace hD : va_D A [(a_, .inr (8, [.ref a_tape, .ref a_reader, .ref a_scripts, .ref a_now, .ref a_trial, .ref a_kept, .ref a_book, .ref a_keptBook, .ref a_history, .ref a_draws, .ref a_refused, .int c_hasImage])), (a_now, .inr (6, [.ref a_now_row, .ref a_now_partners, .int c_now_askedCount, .int c_now_outcome, .ref a_now_share, .ref a_now_leftOver])), (a_now_row, .inl (E.2.1, 81, .inl (upd c_now_row 16 ((c_now_row 16) + (1 : Int32))))), (a_now_partners, .inl (E.2.1, 8, .inl c_now_partners)), (a_now_share, .inl (E.2.1, 2, .inl c_now_share)), (a_now_leftOver, .inl (E.2.1, 2, .inl c_now_leftOver)), (a_history, .inr (3, [.ref a_history_rows, .int c_history_next, .int c_history_held])), (a_history_rows, .inl (E.2.1, 3240, .inl c_history_rows)), (a_refused, .inl (E.2.1, 3, .inl c_refused)), (a_book, .inr (1, [.ref a_book_lines])), (a_book_lines, .inl (E.2.1, 300, .inl w_17))] := hD
  replace hF := nm_s hF
  obtain ⟨f_19, hf_19, hF⟩ := hF
  rw [← hf_19] at hP hD
  refine lv_iload hx hb dX7_act_122 (lv_at hl 1 rfl) ?_
  rw [hQ]
  have h9 := fin9 (P := fun u9 : Int32 × (Nat → Int32) × (Nat → Int32) × Int32 × Int32 × (Nat → Int32) × (Nat → Int32) × (Nat → Int32) × (Nat → Int32) × Int32 × Int32 × (Nat → Int32) => x7 = u9.1 ∧ va_P E.1 vwCl (w_X7_act E a_ a_tape a_reader a_scripts a_now a_trial a_kept a_book a_keptBook a_history a_draws a_refused a_now_row a_now_partners a_now_share a_now_leftOver a_book_lines a_history_rows c_hasImage u9.2.2.2.1 u9.2.2.2.2.1 u9.2.1 u9.2.2.1 u9.2.2.2.2.2.1 u9.2.2.2.2.2.2.1 u9.2.2.2.2.2.2.2.1 u9.2.2.2.2.2.2.2.2.2.1 u9.2.2.2.2.2.2.2.2.2.2.1 u9.2.2.2.2.2.2.2.2.1 u9.2.2.2.2.2.2.2.2.2.2.2) H ∧ va_D A (w_X7_act E a_ a_tape a_reader a_scripts a_now a_trial a_kept a_book a_keptBook a_history a_draws a_refused a_now_row a_now_partners a_now_share a_now_leftOver a_book_lines a_history_rows c_hasImage u9.2.2.2.1 u9.2.2.2.2.1 u9.2.1 u9.2.2.1 u9.2.2.2.2.2.1 u9.2.2.2.2.2.2.1 u9.2.2.2.2.2.2.2.1 u9.2.2.2.2.2.2.2.2.2.1 u9.2.2.2.2.2.2.2.2.2.2.1 u9.2.2.2.2.2.2.2.2.1 u9.2.2.2.2.2.2.2.2.2.2.2)) hF ⟨rfl, hP.sub [0, 1, 2, 3, 4, 5, 9, 10, 6, 7, 8] rfl, hD.sub [0, 1, 2, 3, 4, 5, 9, 10, 6, 7, 8] (by decide) rfl⟩
  obtain ⟨e9_0, hP9, hD9⟩ := h9
  exact W.iret (v := x7) hx hb hr (fun tt ht hW => ⟨⟨_, (), rfl, e9_0, ht ▸ hP9, hD9⟩, hS.F ht⟩) hS.2.2 dX7_act_124

set_option maxHeartbeats 4000000 in
set_option maxRecDepth 100000 in
theorem f_X7_act (l : Launch) (E : EE) (sz : Nat) (K : Nat) {a_ a_tape a_reader a_scripts a_now a_trial a_kept a_book a_keptBook a_history a_draws a_refused a_now_row a_now_partners a_now_share a_now_leftOver a_book_lines a_history_rows : Nat} {p1 : Int32} {p2 : Int32} {p3 : Int32} {p4 : Int32} {p5 : Int32} {c_hasImage : Int32} {c_now_askedCount : Int32} {c_now_outcome : Int32} {c_now_row : Nat → Int32} {c_now_partners : Nat → Int32} {c_now_share : Nat → Int32} {c_now_leftOver : Nat → Int32} {c_book_lines : Nat → Int32} {c_history_next : Int32} {c_history_held : Int32} {c_history_rows : Nat → Int32} {c_refused : Nat → Int32} {rr : Int32} {n_now_row : Nat → Int32} {n_now_partners : Nat → Int32} {n_now_askedCount : Int32} {n_now_outcome : Int32} {n_now_share : Nat → Int32} {n_now_leftOver : Nat → Int32} {n_book_lines : Nat → Int32} {n_history_rows : Nat → Int32} {n_history_next : Int32} {n_history_held : Int32} {n_refused : Nat → Int32} (hF : F_X7_act K p1 p2 p3 p4 p5 c_now_row c_now_partners c_now_askedCount c_now_outcome c_now_share c_now_leftOver c_book_lines c_history_rows c_history_next c_history_held c_refused = some (rr, n_now_row, n_now_partners, n_now_askedCount, n_now_outcome, n_now_share, n_now_leftOver, n_book_lines, n_history_rows, n_history_next, n_history_held, n_refused)) : Met l yX7_act v_f_X7_act (({ frames := 5, cells := 0, slots := 0, locals := 124 } : Room)) (va_Pc [.ref a_, .int p1, .int p2, .int p3, .int p4, .int p5] (pW E sz (w_X7_act E a_ a_tape a_reader a_scripts a_now a_trial a_kept a_book a_keptBook a_history a_draws a_refused a_now_row a_now_partners a_now_share a_now_leftOver a_book_lines a_history_rows c_hasImage c_now_askedCount c_now_outcome c_now_row c_now_partners c_now_share c_now_leftOver c_book_lines c_history_next c_history_held c_history_rows c_refused))) (va_Qi (fun (q : Int32) (_u : Unit) => q = rr) (fun (_u : Unit) tt => va_P E.1 vwCl (w_X7_act E a_ a_tape a_reader a_scripts a_now a_trial a_kept a_book a_keptBook a_history a_draws a_refused a_now_row a_now_partners a_now_share a_now_leftOver a_book_lines a_history_rows c_hasImage n_now_askedCount n_now_outcome n_now_row n_now_partners n_now_share n_now_leftOver n_book_lines n_history_next n_history_held n_history_rows n_refused) tt.heap ∧ va_D (va_A (w_X7_act E a_ a_tape a_reader a_scripts a_now a_trial a_kept a_book a_keptBook a_history a_draws a_refused a_now_row a_now_partners a_now_share a_now_leftOver a_book_lines a_history_rows c_hasImage c_now_askedCount c_now_outcome c_now_row c_now_partners c_now_share c_now_leftOver c_book_lines c_history_next c_history_held c_history_rows c_refused) sz) (w_X7_act E a_ a_tape a_reader a_scripts a_now a_trial a_kept a_book a_keptBook a_history a_draws a_refused a_now_row a_now_partners a_now_share a_now_leftOver a_book_lines a_history_rows c_hasImage n_now_askedCount n_now_outcome n_now_row n_now_partners n_now_share n_now_leftOver n_book_lines n_history_next n_history_held n_history_rows n_refused)) (va_A (w_X7_act E a_ a_tape a_reader a_scripts a_now a_trial a_kept a_book a_keptBook a_history a_draws a_refused a_now_row a_now_partners a_now_share a_now_leftOver a_book_lines a_history_rows c_hasImage c_now_askedCount c_now_outcome c_now_row c_now_partners c_now_share c_now_leftOver c_book_lines c_history_next c_history_held c_history_rows c_refused) sz)) 0 0 (va_A (w_X7_act E a_ a_tape a_reader a_scripts a_now a_trial a_kept a_book a_keptBook a_history a_draws a_refused a_now_row a_now_partners a_now_share a_now_leftOver a_book_lines a_history_rows c_hasImage c_now_askedCount c_now_outcome c_now_row c_now_partners c_now_share c_now_leftOver c_book_lines c_history_next c_history_held c_history_rows c_refused) sz) := by
  refine Met.ofW (cc := cX7_act) (maxL := 8) (ret := (some .int)) (by decide) rfl ?_
  intro p e s m args below meth c s₁ B hml hv
  obtain ⟨rfl, hsz, ⟨hK, hN⟩, hP, hD0⟩ := hv
  have hx := B.exec
  have hb := B.bytes
  have hr := B.returns
  have hts := atoms_spec (ws := v_f_X7_act) B.pre
  have hown : s.vm.findClass RX7 = some m.cls := own_of hd_X7_act.1 (findClass_of_methodNamed B.named)
  have hlocks : meth.locks = false := B.notSynchronized
  subst hsz
  have hD := hD0.self (sz := s.heap.size)
  generalize hAe : va_A (w_X7_act E a_ a_tape a_reader a_scripts a_now a_trial a_kept a_book a_keptBook a_history a_draws a_refused a_now_row a_now_partners a_now_share a_now_leftOver a_book_lines a_history_rows c_hasImage c_now_askedCount c_now_outcome c_now_row c_now_partners c_now_share c_now_leftOver c_book_lines c_history_next c_history_held c_history_rows c_refused) s.heap.size = A at hD ⊢
  have hA : ∀ q : Nat, s.heap.size ≤ q → A q := fun q h => by rw [← hAe]; exact Or.inr h
  have hS : va_S A s.heap s.heap [] := va_S.rf
  have hl := lv_entry ([.ref a_, .int p1, .int p2, .int p3, .int p4, .int p5]) (n := 8) (Nat.le_of_ble_eq_true rfl)
  rw [lg_entry_eq]
  generalize (lg_sl ([.ref a_, .int p1, .int p2, .int p3, .int p4, .int p5]) ++ List.replicate (8 - (lg_sl ([.ref a_, .int p1, .int p2, .int p3, .int p4, .int p5])).length) Slot.unset).toArray = ls at hl ⊢
  have hl : lv_has ls 8 [(0, .ref a_), (1, .int p1), (2, .int p2), (3, .int p3), (4, .int p4), (5, .int p5)] := hl
  obtain ⟨Q, hQ⟩ : ∃ Q : State → Prop, Q = MQ below (va_Qi (fun (q : Int32) (_u : Unit) => q = rr) (fun (_u : Unit) tt => va_P E.1 vwCl (w_X7_act E a_ a_tape a_reader a_scripts a_now a_trial a_kept a_book a_keptBook a_history a_draws a_refused a_now_row a_now_partners a_now_share a_now_leftOver a_book_lines a_history_rows c_hasImage n_now_askedCount n_now_outcome n_now_row n_now_partners n_now_share n_now_leftOver n_book_lines n_history_next n_history_held n_history_rows n_refused) tt.heap ∧ va_D A (w_X7_act E a_ a_tape a_reader a_scripts a_now a_trial a_kept a_book a_keptBook a_history a_draws a_refused a_now_row a_now_partners a_now_share a_now_leftOver a_book_lines a_history_rows c_hasImage n_now_askedCount n_now_outcome n_now_row n_now_partners n_now_share n_now_leftOver n_book_lines n_history_next n_history_held n_history_rows n_refused)) A) #[Value.ref a_, Value.int p1, Value.int p2, Value.int p3, Value.int p4, Value.int p5] s 0 0 A := ⟨_, rfl⟩
  rw [← hQ]
  change W p l e ({ frames := 5, cells := 0, slots := 0, locals := 124 } : Room) s m #[Value.ref a_, Value.int p1, Value.int p2, Value.int p3, Value.int p4, Value.int p5] below meth c s.heap [] 0 0 Q (F0 m 0 ls [])
  suffices hh9 : ∀ (H : Heap) (locs : List Loc), va_P E.1 vwCl (w_X7_act E a_ a_tape a_reader a_scripts a_now a_trial a_kept a_book a_keptBook a_history a_draws a_refused a_now_row a_now_partners a_now_share a_now_leftOver a_book_lines a_history_rows c_hasImage c_now_askedCount c_now_outcome c_now_row c_now_partners c_now_share c_now_leftOver c_book_lines c_history_next c_history_held c_history_rows c_refused) H → va_D A (w_X7_act E a_ a_tape a_reader a_scripts a_now a_trial a_kept a_book a_keptBook a_history a_draws a_refused a_now_row a_now_partners a_now_share a_now_leftOver a_book_lines a_history_rows c_hasImage c_now_askedCount c_now_outcome c_now_row c_now_partners c_now_share c_now_leftOver c_book_lines c_history_next c_history_held c_history_rows c_refused) → va_S A s.heap H locs → W p l e ({ frames := 5, cells := 0, slots := 0, locals := 124 } : Room) s m #[Value.ref a_, Value.int p1, Value.int p2, Value.int p3, Value.int p4, Value.int p5] below meth c H locs 0 0 Q (F0 m 0 ls []) from hh9 s.heap [] hP hD hS
  clear hP hD hS
  intro H locs hP hD hS
  replace hP : va_P E.1 vwCl [(a_, .inr (8, [.ref a_tape, .ref a_reader, .ref a_scripts, .ref a_now, .ref a_trial, .ref a_kept, .ref a_book, .ref a_keptBook, .ref a_history, .ref a_draws, .ref a_refused, .int c_hasImage])), (a_now, .inr (6, [.ref a_now_row, .ref a_now_partners, .int c_now_askedCount, .int c_now_outcome, .ref a_now_share, .ref a_now_leftOver])), (a_now_row, .inl (E.2.1, 81, .inl c_now_row)), (a_now_partners, .inl (E.2.1, 8, .inl c_now_partners)), (a_now_share, .inl (E.2.1, 2, .inl c_now_share)), (a_now_leftOver, .inl (E.2.1, 2, .inl c_now_leftOver)), (a_book, .inr (1, [.ref a_book_lines])), (a_book_lines, .inl (E.2.1, 300, .inl c_book_lines)), (a_history, .inr (3, [.ref a_history_rows, .int c_history_next, .int c_history_held])), (a_history_rows, .inl (E.2.1, 3240, .inl c_history_rows)), (a_refused, .inl (E.2.1, 3, .inl c_refused))] H := hP
  replace hD : va_D A [(a_, .inr (8, [.ref a_tape, .ref a_reader, .ref a_scripts, .ref a_now, .ref a_trial, .ref a_kept, .ref a_book, .ref a_keptBook, .ref a_history, .ref a_draws, .ref a_refused, .int c_hasImage])), (a_now, .inr (6, [.ref a_now_row, .ref a_now_partners, .int c_now_askedCount, .int c_now_outcome, .ref a_now_share, .ref a_now_leftOver])), (a_now_row, .inl (E.2.1, 81, .inl c_now_row)), (a_now_partners, .inl (E.2.1, 8, .inl c_now_partners)), (a_now_share, .inl (E.2.1, 2, .inl c_now_share)), (a_now_leftOver, .inl (E.2.1, 2, .inl c_now_leftOver)), (a_book, .inr (1, [.ref a_book_lines])), (a_book_lines, .inl (E.2.1, 300, .inl c_book_lines)), (a_history, .inr (3, [.ref a_history_rows, .int c_history_next, .int c_history_held])), (a_history_rows, .inl (E.2.1, 3240, .inl c_history_rows)), (a_refused, .inl (E.2.1, 3, .inl c_refused))] := hD
  unfold F_X7_act at hF
  refine lv_aload_n hx hb dX7_act_0 rfl (lv_at hl 0 rfl) ?_
  refine gt_X7_3 (v := .ref a_now) hx hb hts i_f_X7_act_X7 hown hK hP 0 rfl (hts (.fieldLink RX7 35 "HushWatch" "now" "LHushWatch$State;") (List.mem_of_getElem? (i := 1) rfl)) rfl dX7_act_1 ?_
  refine lv_iload_n hx hb dX7_act_4 rfl (lv_at hl 1 rfl) ?_
  refine lv_iload_n hx hb dX7_act_5 rfl (lv_at hl 2 rfl) ?_
  refine lv_iload_n hx hb dX7_act_6 rfl (lv_at hl 3 rfl) ?_
  refine lv_iload hx hb dX7_act_7 (lv_at hl 4 rfl) ?_
  replace hF := bd1_s hF
  obtain ⟨r_1, hc_2, hF⟩ := hF
  have hPc : va_P E.1 vwCl (w_X5_refusal E a_now a_now_row a_now_partners a_now_share a_now_leftOver c_now_askedCount c_now_outcome c_now_row) H := hP.sub (ws' := [(a_now, .inr (6, [.ref a_now_row, .ref a_now_partners, .int c_now_askedCount, .int c_now_outcome, .ref a_now_share, .ref a_now_leftOver])), (a_now_row, .inl (E.2.1, 81, .inl c_now_row))]) [1, 2] rfl
  have hrc := va_recv hK hPc (ci := 6) (q0 := 0) rfl rfl
  refine pE_i (va_runV (As := [.int p1, .int p2, .int p3, .int p4]) (rest := [])  ⟨hx, hb, hml, hown, hts⟩ (f_X5_refusal l E (a_ := a_now) (a_row := a_now_row) (a_partners := a_now_partners) (a_share := a_now_share) (a_leftOver := a_now_leftOver) (p1 := p1) (p2 := p2) (p3 := p3) (p4 := p4) (c_askedCount := c_now_askedCount) (c_outcome := c_now_outcome) (c_row := c_now_row) hc_2) (cwV 4 hts g_f_X7_act_f_X5_refusal_220 rfl rfl rfl hd_X5_refusal ⟨Nat.le_of_ble_eq_true rfl, Nat.le_of_ble_eq_true rfl⟩) ⟨pP.blind, hrc, (pP.pre ⟨hK, hN⟩ hPc)⟩ rfl rfl hl.1 rfl (lv_room (Nat.le_of_ble_eq_true rfl)) dX7_act_9 ⟨Nat.le_of_ble_eq_true rfl, Nat.le_of_ble_eq_true rfl⟩) ?_
  refine lv_istore (lv' := [(6, .int r_1), (0, .ref a_), (1, .int p1), (2, .int p2), (3, .int p3), (4, .int p4), (5, .int p5)]) hx hb dX7_act_12 hl (by decide) rfl (fun ls hl => ?_)
  refine lv_iload hx hb dX7_act_14 (lv_at hl 0 rfl) ?_
  refine lv_iconst (v := -1) hx hb dX7_act_16 (by decide) ?_
  refine lv_icmp_eq (tgt := 53) hx hb dX7_act_17 (by decide) (fun c_3 => ?_) (fun c_3 => ?_)
  ·
    replace hF := ip c_3 hF
    refine lv_aload_n hx hb dX7_act_53 rfl (lv_at hl 1 rfl) ?_
    refine gt_X7_8 (v := .ref a_history) hx hb hts i_f_X7_act_X7 hown hK hP 0 rfl (hts (.fieldLink RX7 58 "HushWatch" "history" "LHushWatch$History;") (List.mem_of_getElem? (i := 2) rfl)) rfl dX7_act_54 ?_
    refine lv_aload_n hx hb dX7_act_57 rfl (lv_at hl 1 rfl) ?_
    refine gt_X7_3 (v := .ref a_now) hx hb hts i_f_X7_act_X7 hown hK hP 0 rfl (hts (.fieldLink RX7 35 "HushWatch" "now" "LHushWatch$State;") (List.mem_of_getElem? (i := 1) rfl)) rfl dX7_act_58 ?_
    replace hF := bd3_s hF
    obtain ⟨w_4, w_5, w_6, hc_7, hF⟩ := hF
    obtain ⟨hPc, hDc, hFc⟩ := wcut (wc := (w_X2_keep E a_history a_history_rows a_now a_now_row a_now_partners a_now_share a_now_leftOver c_history_next c_history_held c_history_rows c_now_askedCount c_now_outcome c_now_row)) hP hD hS hA [8, 9, 1, 2] (by decide) rfl
    have hrc := va_recv hK hPc (ci := 3) (q0 := 0) rfl rfl
    refine cE_v (wc := (w_X2_keep E a_history a_history_rows a_now a_now_row a_now_partners a_now_share a_now_leftOver c_history_next c_history_held c_history_rows c_now_askedCount c_now_outcome c_now_row)) (wr := [(a_, .inr (8, [.ref a_tape, .ref a_reader, .ref a_scripts, .ref a_now, .ref a_trial, .ref a_kept, .ref a_book, .ref a_keptBook, .ref a_history, .ref a_draws, .ref a_refused, .int c_hasImage])), (a_now_partners, .inl (E.2.1, 8, .inl c_now_partners)), (a_now_share, .inl (E.2.1, 2, .inl c_now_share)), (a_now_leftOver, .inl (E.2.1, 2, .inl c_now_leftOver)), (a_book, .inr (1, [.ref a_book_lines])), (a_book_lines, .inl (E.2.1, 300, .inl c_book_lines)), (a_refused, .inl (E.2.1, 3, .inl c_refused))]) (w1 := (w_X2_keep E a_history a_history_rows a_now a_now_row a_now_partners a_now_share a_now_leftOver w_5 w_6 w_4 c_now_askedCount c_now_outcome c_now_row)) (va_runV (As := [.ref a_now]) (rest := [])  ⟨hx, hb, hml, hown, hts⟩ (f_X2_keep l E H.size (a_ := a_history) (a_rows := a_history_rows) (a_o1 := a_now) (a_o1_row := a_now_row) (a_o1_partners := a_now_partners) (a_o1_share := a_now_share) (a_o1_leftOver := a_now_leftOver) (c_next := c_history_next) (c_held := c_history_held) (c_rows := c_history_rows) (c_o1_askedCount := c_now_askedCount) (c_o1_outcome := c_now_outcome) (c_o1_row := c_now_row) hc_7) (cwV 1 hts g_f_X7_act_f_X2_keep_330 rfl rfl rfl hd_X2_keep ⟨Nat.le_of_ble_eq_true rfl, Nat.le_of_ble_eq_true rfl⟩) ⟨pW.blind, hrc, (pW.pre ⟨hK, hN⟩ hPc hDc)⟩ rfl rfl hl.1 rfl (lv_room (Nat.le_of_ble_eq_true rfl)) dX7_act_61 ⟨Nat.le_of_ble_eq_true rfl, Nat.le_of_ble_eq_true rfl⟩) hS hFc hP hD [8, 9, 1, 2] [0, 3, 4, 5, 6, 7, 10] rfl rfl (by decide) (by decide) (fun H locs hP hD hS => ?_)
    replace hP : va_P E.1 vwCl [(a_, .inr (8, [.ref a_tape, .ref a_reader, .ref a_scripts, .ref a_now, .ref a_trial, .ref a_kept, .ref a_book, .ref a_keptBook, .ref a_history, .ref a_draws, .ref a_refused, .int c_hasImage])), (a_now_partners, .inl (E.2.1, 8, .inl c_now_partners)), (a_now_share, .inl (E.2.1, 2, .inl c_now_share)), (a_now_leftOver, .inl (E.2.1, 2, .inl c_now_leftOver)), (a_book, .inr (1, [.ref a_book_lines])), (a_book_lines, .inl (E.2.1, 300, .inl c_book_lines)), (a_refused, .inl (E.2.1, 3, .inl c_refused)), (a_history, .inr (3, [.ref a_history_rows, .int w_5, .int w_6])), (a_history_rows, .inl (E.2.1, 3240, .inl w_4)), (a_now, .inr (6, [.ref a_now_row, .ref a_now_partners, .int c_now_askedCount, .int c_now_outcome, .ref a_now_share, .ref a_now_leftOver])), (a_now_row, .inl (E.2.1, 81, .inl c_now_row))] H := hP
    replace hD : va_D A [(a_, .inr (8, [.ref a_tape, .ref a_reader, .ref a_scripts, .ref a_now, .ref a_trial, .ref a_kept, .ref a_book, .ref a_keptBook, .ref a_history, .ref a_draws, .ref a_refused, .int c_hasImage])), (a_now_partners, .inl (E.2.1, 8, .inl c_now_partners)), (a_now_share, .inl (E.2.1, 2, .inl c_now_share)), (a_now_leftOver, .inl (E.2.1, 2, .inl c_now_leftOver)), (a_book, .inr (1, [.ref a_book_lines])), (a_book_lines, .inl (E.2.1, 300, .inl c_book_lines)), (a_refused, .inl (E.2.1, 3, .inl c_refused)), (a_history, .inr (3, [.ref a_history_rows, .int w_5, .int w_6])), (a_history_rows, .inl (E.2.1, 3240, .inl w_4)), (a_now, .inr (6, [.ref a_now_row, .ref a_now_partners, .int c_now_askedCount, .int c_now_outcome, .ref a_now_share, .ref a_now_leftOver])), (a_now_row, .inl (E.2.1, 81, .inl c_now_row))] := hD
    refine lv_aload_n hx hb dX7_act_64 rfl (lv_at hl 1 rfl) ?_
    refine gt_X7_3 (v := .ref a_now) hx hb hts i_f_X7_act_X7 hown hK hP 0 rfl (hts (.fieldLink RX7 35 "HushWatch" "now" "LHushWatch$State;") (List.mem_of_getElem? (i := 1) rfl)) rfl dX7_act_65 ?_
    refine lv_iload_n hx hb dX7_act_68 rfl (lv_at hl 2 rfl) ?_
    refine lv_iload_n hx hb dX7_act_69 rfl (lv_at hl 3 rfl) ?_
    refine lv_iload_n hx hb dX7_act_70 rfl (lv_at hl 4 rfl) ?_
    refine lv_iload hx hb dX7_act_71 (lv_at hl 5 rfl) ?_
    replace hF := bd7_s hF
    obtain ⟨r_8, w_9, w_10, w_11, w_12, w_13, w_14, hc_15, hF⟩ := hF
    obtain ⟨hPc, hDc, hFc⟩ := wcut (wc := (w_X5_doAct E a_now a_now_row a_now_partners a_now_share a_now_leftOver c_now_askedCount c_now_outcome c_now_row c_now_partners c_now_share c_now_leftOver)) hP hD hS hA [9, 10, 1, 2, 3] (by decide) rfl
    have hrc := va_recv hK hPc (ci := 6) (q0 := 0) rfl rfl
    refine cE_i (wc := (w_X5_doAct E a_now a_now_row a_now_partners a_now_share a_now_leftOver c_now_askedCount c_now_outcome c_now_row c_now_partners c_now_share c_now_leftOver)) (wr := [(a_, .inr (8, [.ref a_tape, .ref a_reader, .ref a_scripts, .ref a_now, .ref a_trial, .ref a_kept, .ref a_book, .ref a_keptBook, .ref a_history, .ref a_draws, .ref a_refused, .int c_hasImage])), (a_book, .inr (1, [.ref a_book_lines])), (a_book_lines, .inl (E.2.1, 300, .inl c_book_lines)), (a_refused, .inl (E.2.1, 3, .inl c_refused)), (a_history, .inr (3, [.ref a_history_rows, .int w_5, .int w_6])), (a_history_rows, .inl (E.2.1, 3240, .inl w_4))]) (w1 := (w_X5_doAct E a_now a_now_row a_now_partners a_now_share a_now_leftOver w_11 w_12 w_9 w_10 w_13 w_14)) (va_runV (As := [.int p1, .int p2, .int p3, .int p4]) (rest := [])  ⟨hx, hb, hml, hown, hts⟩ (f_X5_doAct l E H.size K (a_ := a_now) (a_row := a_now_row) (a_partners := a_now_partners) (a_share := a_now_share) (a_leftOver := a_now_leftOver) (p1 := p1) (p2 := p2) (p3 := p3) (p4 := p4) (c_askedCount := c_now_askedCount) (c_outcome := c_now_outcome) (c_row := c_now_row) (c_partners := c_now_partners) (c_share := c_now_share) (c_leftOver := c_now_leftOver) hc_15) (cwV 4 hts g_f_X7_act_f_X5_doAct_241 rfl rfl rfl hd_X5_doAct ⟨Nat.le_of_ble_eq_true rfl, Nat.le_of_ble_eq_true rfl⟩) ⟨pW.blind, hrc, (pW.pre ⟨hK, hN⟩ hPc hDc)⟩ rfl rfl hl.1 rfl (lv_room (Nat.le_of_ble_eq_true rfl)) dX7_act_73 ⟨Nat.le_of_ble_eq_true rfl, Nat.le_of_ble_eq_true rfl⟩) hS hFc hP hD [9, 10, 1, 2, 3] [0, 4, 5, 6, 7, 8] rfl rfl (by decide) (by decide) (fun H locs hP hD hS => ?_)
    replace hP : va_P E.1 vwCl [(a_, .inr (8, [.ref a_tape, .ref a_reader, .ref a_scripts, .ref a_now, .ref a_trial, .ref a_kept, .ref a_book, .ref a_keptBook, .ref a_history, .ref a_draws, .ref a_refused, .int c_hasImage])), (a_book, .inr (1, [.ref a_book_lines])), (a_book_lines, .inl (E.2.1, 300, .inl c_book_lines)), (a_refused, .inl (E.2.1, 3, .inl c_refused)), (a_history, .inr (3, [.ref a_history_rows, .int w_5, .int w_6])), (a_history_rows, .inl (E.2.1, 3240, .inl w_4)), (a_now, .inr (6, [.ref a_now_row, .ref a_now_partners, .int w_11, .int w_12, .ref a_now_share, .ref a_now_leftOver])), (a_now_row, .inl (E.2.1, 81, .inl w_9)), (a_now_partners, .inl (E.2.1, 8, .inl w_10)), (a_now_share, .inl (E.2.1, 2, .inl w_13)), (a_now_leftOver, .inl (E.2.1, 2, .inl w_14))] H := hP
    replace hD : va_D A [(a_, .inr (8, [.ref a_tape, .ref a_reader, .ref a_scripts, .ref a_now, .ref a_trial, .ref a_kept, .ref a_book, .ref a_keptBook, .ref a_history, .ref a_draws, .ref a_refused, .int c_hasImage])), (a_book, .inr (1, [.ref a_book_lines])), (a_book_lines, .inl (E.2.1, 300, .inl c_book_lines)), (a_refused, .inl (E.2.1, 3, .inl c_refused)), (a_history, .inr (3, [.ref a_history_rows, .int w_5, .int w_6])), (a_history_rows, .inl (E.2.1, 3240, .inl w_4)), (a_now, .inr (6, [.ref a_now_row, .ref a_now_partners, .int w_11, .int w_12, .ref a_now_share, .ref a_now_leftOver])), (a_now_row, .inl (E.2.1, 81, .inl w_9)), (a_now_partners, .inl (E.2.1, 8, .inl w_10)), (a_now_share, .inl (E.2.1, 2, .inl w_13)), (a_now_leftOver, .inl (E.2.1, 2, .inl w_14))] := hD
    refine lv_istore (lv' := [(7, .int r_8), (6, .int r_1), (0, .ref a_), (1, .int p1), (2, .int p2), (3, .int p3), (4, .int p4), (5, .int p5)]) hx hb dX7_act_76 hl (by decide) rfl (fun ls hl => ?_)
    refine lv_aload_n hx hb dX7_act_78 rfl (lv_at hl 2 rfl) ?_
    refine gt_X7_6 (v := .ref a_book) hx hb hts i_f_X7_act_X7 hown hK hP 0 rfl (hts (.fieldLink RX7 48 "HushWatch" "book" "LHushWatch$Book;") (List.mem_of_getElem? (i := 3) rfl)) rfl dX7_act_79 ?_
    refine lv_aload_n hx hb dX7_act_82 rfl (lv_at hl 2 rfl) ?_
    refine gt_X7_3 (v := .ref a_now) hx hb hts i_f_X7_act_X7 hown hK hP 0 rfl (hts (.fieldLink RX7 35 "HushWatch" "now" "LHushWatch$State;") (List.mem_of_getElem? (i := 1) rfl)) rfl dX7_act_83 ?_
    refine va_getN (D := E.1) (ci := 6) (v := .ref a_now_row) (C := RX5) (T := TX5) (N := 6) hx hb hts i_f_X7_act_X5 hown hK hP 6 rfl rfl 0 (by decide) (nx hN 12 rfl) (fun _ h9 => h9) rfl dX7_act_86 ?_
    refine lv_bipush (v := 16) hx hb dX7_act_89 (by decide) ?_
    refine va_iald hx hb hK hP 7 0 rfl rfl (vin rfl) dX7_act_91 ?_
    refine W.eq (g2 := F0 m 92 ls [.int (w_9 16), .ref a_book]) rfl ?_
    refine lv_iload_n hx hb dX7_act_92 rfl (lv_at hl 3 rfl) ?_
    refine lv_iload_n hx hb dX7_act_93 rfl (lv_at hl 3 rfl) ?_
    refine lv_iconst (v := 1) hx hb dX7_act_94 (by decide) ?_
    refine lv_icmp_ne (tgt := 102) hx hb dX7_act_95 (by decide) (fun c_16 => ?_) (fun c_16 => ?_)
    ·
      replace hF := inn c_16 hF
      refine lv_iload_n hx hb dX7_act_102 rfl (lv_at hl 4 rfl) ?_
      exact j_X7_act_103 l E K (p1 := p1) (p2 := p2) (p3 := p3) (p4 := p4) (p5 := p5) (c_hasImage := c_hasImage) (k0 := p2) (k1 := p1) (k2 := w_9 16) (x7 := r_8) (c_now_row := w_9) (c_now_partners := w_10) (c_now_askedCount := w_11) (c_now_outcome := w_12) (c_now_share := w_13) (c_now_leftOver := w_14) (c_book_lines := c_book_lines) (c_history_rows := w_4) (c_history_next := w_5) (c_history_held := w_6) (c_refused := c_refused) hx hb hml hown hts hK hN hA hr hlocks hQ hF H locs ls (hP.sub [0, 6, 7, 8, 9, 10, 1, 2, 4, 5, 3] rfl) (hD.sub [0, 6, 7, 8, 9, 10, 1, 2, 4, 5, 3] (by decide) rfl) hS (lv_sub hl [2, 0] rfl)
    ·
      replace hF := ip c_16 hF
      refine lv_iconst (v := -1) hx hb dX7_act_98 (by decide) ?_
      refine lv_goto (tgt := 103) hx hb dX7_act_99 (by decide) ?_
      exact j_X7_act_103 l E K (p1 := p1) (p2 := p2) (p3 := p3) (p4 := p4) (p5 := p5) (c_hasImage := c_hasImage) (k0 := (-1 : Int32)) (k1 := p1) (k2 := w_9 16) (x7 := r_8) (c_now_row := w_9) (c_now_partners := w_10) (c_now_askedCount := w_11) (c_now_outcome := w_12) (c_now_share := w_13) (c_now_leftOver := w_14) (c_book_lines := c_book_lines) (c_history_rows := w_4) (c_history_next := w_5) (c_history_held := w_6) (c_refused := c_refused) hx hb hml hown hts hK hN hA hr hlocks hQ hF H locs ls (hP.sub [0, 6, 7, 8, 9, 10, 1, 2, 4, 5, 3] rfl) (hD.sub [0, 6, 7, 8, 9, 10, 1, 2, 4, 5, 3] (by decide) rfl) hS (lv_sub hl [2, 0] rfl)
  ·
    replace hF := inn c_3 hF
    refine lv_iload hx hb dX7_act_20 (lv_at hl 6 rfl) ?_
    refine lv_if_eq (tgt := 51) hx hb dX7_act_22 (by decide) (fun c_20 => ?_) (fun c_20 => ?_)
    ·
      replace hF := ip c_20 hF
      refine lv_iconst (v := -1) hx hb dX7_act_51 (by decide) ?_
      rw [hQ]
      have h9 := fin9 (P := fun u9 : Int32 × (Nat → Int32) × (Nat → Int32) × Int32 × Int32 × (Nat → Int32) × (Nat → Int32) × (Nat → Int32) × (Nat → Int32) × Int32 × Int32 × (Nat → Int32) => (-1 : Int32) = u9.1 ∧ va_P E.1 vwCl (w_X7_act E a_ a_tape a_reader a_scripts a_now a_trial a_kept a_book a_keptBook a_history a_draws a_refused a_now_row a_now_partners a_now_share a_now_leftOver a_book_lines a_history_rows c_hasImage u9.2.2.2.1 u9.2.2.2.2.1 u9.2.1 u9.2.2.1 u9.2.2.2.2.2.1 u9.2.2.2.2.2.2.1 u9.2.2.2.2.2.2.2.1 u9.2.2.2.2.2.2.2.2.2.1 u9.2.2.2.2.2.2.2.2.2.2.1 u9.2.2.2.2.2.2.2.2.1 u9.2.2.2.2.2.2.2.2.2.2.2) H ∧ va_D A (w_X7_act E a_ a_tape a_reader a_scripts a_now a_trial a_kept a_book a_keptBook a_history a_draws a_refused a_now_row a_now_partners a_now_share a_now_leftOver a_book_lines a_history_rows c_hasImage u9.2.2.2.1 u9.2.2.2.2.1 u9.2.1 u9.2.2.1 u9.2.2.2.2.2.1 u9.2.2.2.2.2.2.1 u9.2.2.2.2.2.2.2.1 u9.2.2.2.2.2.2.2.2.2.1 u9.2.2.2.2.2.2.2.2.2.2.1 u9.2.2.2.2.2.2.2.2.1 u9.2.2.2.2.2.2.2.2.2.2.2)) hF ⟨rfl, hP, hD⟩
      obtain ⟨e9_0, hP9, hD9⟩ := h9
      exact W.iret (v := (-1 : Int32)) hx hb hr (fun tt ht hW => ⟨⟨_, (), rfl, e9_0, ht ▸ hP9, hD9⟩, hS.F ht⟩) hS.2.2 dX7_act_52
    ·
      replace hF := inn c_20 hF
      refine lv_iload hx hb dX7_act_25 (lv_at hl 0 rfl) ?_
      refine lv_if_lt (tgt := 51) hx hb dX7_act_27 (by decide) (fun c_21 => ?_) (fun c_21 => ?_)
      ·
        replace hF := ip c_21 hF
        refine lv_iconst (v := -1) hx hb dX7_act_51 (by decide) ?_
        rw [hQ]
        have h9 := fin9 (P := fun u9 : Int32 × (Nat → Int32) × (Nat → Int32) × Int32 × Int32 × (Nat → Int32) × (Nat → Int32) × (Nat → Int32) × (Nat → Int32) × Int32 × Int32 × (Nat → Int32) => (-1 : Int32) = u9.1 ∧ va_P E.1 vwCl (w_X7_act E a_ a_tape a_reader a_scripts a_now a_trial a_kept a_book a_keptBook a_history a_draws a_refused a_now_row a_now_partners a_now_share a_now_leftOver a_book_lines a_history_rows c_hasImage u9.2.2.2.1 u9.2.2.2.2.1 u9.2.1 u9.2.2.1 u9.2.2.2.2.2.1 u9.2.2.2.2.2.2.1 u9.2.2.2.2.2.2.2.1 u9.2.2.2.2.2.2.2.2.2.1 u9.2.2.2.2.2.2.2.2.2.2.1 u9.2.2.2.2.2.2.2.2.1 u9.2.2.2.2.2.2.2.2.2.2.2) H ∧ va_D A (w_X7_act E a_ a_tape a_reader a_scripts a_now a_trial a_kept a_book a_keptBook a_history a_draws a_refused a_now_row a_now_partners a_now_share a_now_leftOver a_book_lines a_history_rows c_hasImage u9.2.2.2.1 u9.2.2.2.2.1 u9.2.1 u9.2.2.1 u9.2.2.2.2.2.1 u9.2.2.2.2.2.2.1 u9.2.2.2.2.2.2.2.1 u9.2.2.2.2.2.2.2.2.2.1 u9.2.2.2.2.2.2.2.2.2.2.1 u9.2.2.2.2.2.2.2.2.1 u9.2.2.2.2.2.2.2.2.2.2.2)) hF ⟨rfl, hP, hD⟩
        obtain ⟨e9_0, hP9, hD9⟩ := h9
        exact W.iret (v := (-1 : Int32)) hx hb hr (fun tt ht hW => ⟨⟨_, (), rfl, e9_0, ht ▸ hP9, hD9⟩, hS.F ht⟩) hS.2.2 dX7_act_52
      ·
        replace hF := inn c_21 hF
        refine lv_iload hx hb dX7_act_30 (lv_at hl 0 rfl) ?_
        refine lv_aload_n hx hb dX7_act_32 rfl (lv_at hl 1 rfl) ?_
        refine gt_X7_10 (v := .ref a_refused) hx hb hts i_f_X7_act_X7 hown hK hP 0 rfl (hts (.fieldLink RX7 69 "HushWatch" "refused" "[I") (List.mem_of_getElem? (i := 4) rfl)) rfl dX7_act_33 ?_
        refine va_alen (v := 3) hx hb hK hP 10 0 rfl rfl rfl dX7_act_36 ?_
        refine lv_icmp_ge (tgt := 51) hx hb dX7_act_37 (by decide) (fun c_22 => ?_) (fun c_22 => ?_)
        ·
          replace hF := ip c_22 hF
          refine lv_iconst (v := -1) hx hb dX7_act_51 (by decide) ?_
          rw [hQ]
          have h9 := fin9 (P := fun u9 : Int32 × (Nat → Int32) × (Nat → Int32) × Int32 × Int32 × (Nat → Int32) × (Nat → Int32) × (Nat → Int32) × (Nat → Int32) × Int32 × Int32 × (Nat → Int32) => (-1 : Int32) = u9.1 ∧ va_P E.1 vwCl (w_X7_act E a_ a_tape a_reader a_scripts a_now a_trial a_kept a_book a_keptBook a_history a_draws a_refused a_now_row a_now_partners a_now_share a_now_leftOver a_book_lines a_history_rows c_hasImage u9.2.2.2.1 u9.2.2.2.2.1 u9.2.1 u9.2.2.1 u9.2.2.2.2.2.1 u9.2.2.2.2.2.2.1 u9.2.2.2.2.2.2.2.1 u9.2.2.2.2.2.2.2.2.2.1 u9.2.2.2.2.2.2.2.2.2.2.1 u9.2.2.2.2.2.2.2.2.1 u9.2.2.2.2.2.2.2.2.2.2.2) H ∧ va_D A (w_X7_act E a_ a_tape a_reader a_scripts a_now a_trial a_kept a_book a_keptBook a_history a_draws a_refused a_now_row a_now_partners a_now_share a_now_leftOver a_book_lines a_history_rows c_hasImage u9.2.2.2.1 u9.2.2.2.2.1 u9.2.1 u9.2.2.1 u9.2.2.2.2.2.1 u9.2.2.2.2.2.2.1 u9.2.2.2.2.2.2.2.1 u9.2.2.2.2.2.2.2.2.2.1 u9.2.2.2.2.2.2.2.2.2.2.1 u9.2.2.2.2.2.2.2.2.1 u9.2.2.2.2.2.2.2.2.2.2.2)) hF ⟨rfl, hP, hD⟩
          obtain ⟨e9_0, hP9, hD9⟩ := h9
          exact W.iret (v := (-1 : Int32)) hx hb hr (fun tt ht hW => ⟨⟨_, (), rfl, e9_0, ht ▸ hP9, hD9⟩, hS.F ht⟩) hS.2.2 dX7_act_52
        ·
          replace hF := inn c_22 hF
          refine lv_aload_n hx hb dX7_act_40 rfl (lv_at hl 1 rfl) ?_
          refine gt_X7_10 (v := .ref a_refused) hx hb hts i_f_X7_act_X7 hown hK hP 0 rfl (hts (.fieldLink RX7 69 "HushWatch" "refused" "[I") (List.mem_of_getElem? (i := 4) rfl)) rfl dX7_act_41 ?_
          refine lv_iload hx hb dX7_act_44 (lv_at hl 0 rfl) ?_
          refine lv_dup2_11 hx hb dX7_act_46 rfl rfl ?_
          replace hF := ix_s hF
          obtain ⟨hi_23, hF⟩ := hF
          refine va_iald hx hb hK hP 10 0 rfl rfl hi_23 dX7_act_47 ?_
          refine lv_iconst (v := 1) hx hb dX7_act_48 (by decide) ?_
          refine lv_iadd hx hb dX7_act_49 ?_
          replace hF := ix_s hF
          obtain ⟨hi_24, hF⟩ := hF
          refine va_iast hx hb hK hP hD hS 10 0 rfl rfl hi_24 dX7_act_50 (fun H locs hP hD hS => ?_)
          replace hP : va_P E.1 vwCl [(a_, .inr (8, [.ref a_tape, .ref a_reader, .ref a_scripts, .ref a_now, .ref a_trial, .ref a_kept, .ref a_book, .ref a_keptBook, .ref a_history, .ref a_draws, .ref a_refused, .int c_hasImage])), (a_now, .inr (6, [.ref a_now_row, .ref a_now_partners, .int c_now_askedCount, .int c_now_outcome, .ref a_now_share, .ref a_now_leftOver])), (a_now_row, .inl (E.2.1, 81, .inl c_now_row)), (a_now_partners, .inl (E.2.1, 8, .inl c_now_partners)), (a_now_share, .inl (E.2.1, 2, .inl c_now_share)), (a_now_leftOver, .inl (E.2.1, 2, .inl c_now_leftOver)), (a_book, .inr (1, [.ref a_book_lines])), (a_book_lines, .inl (E.2.1, 300, .inl c_book_lines)), (a_history, .inr (3, [.ref a_history_rows, .int c_history_next, .int c_history_held])), (a_history_rows, .inl (E.2.1, 3240, .inl c_history_rows)), (a_refused, .inl (E.2.1, 3, .inl (upd c_refused r_1.toNatClampNeg ((c_refused r_1.toNatClampNeg) + (1 : Int32)))))] H := hP
          replace hD : va_D A [(a_, .inr (8, [.ref a_tape, .ref a_reader, .ref a_scripts, .ref a_now, .ref a_trial, .ref a_kept, .ref a_book, .ref a_keptBook, .ref a_history, .ref a_draws, .ref a_refused, .int c_hasImage])), (a_now, .inr (6, [.ref a_now_row, .ref a_now_partners, .int c_now_askedCount, .int c_now_outcome, .ref a_now_share, .ref a_now_leftOver])), (a_now_row, .inl (E.2.1, 81, .inl c_now_row)), (a_now_partners, .inl (E.2.1, 8, .inl c_now_partners)), (a_now_share, .inl (E.2.1, 2, .inl c_now_share)), (a_now_leftOver, .inl (E.2.1, 2, .inl c_now_leftOver)), (a_book, .inr (1, [.ref a_book_lines])), (a_book_lines, .inl (E.2.1, 300, .inl c_book_lines)), (a_history, .inr (3, [.ref a_history_rows, .int c_history_next, .int c_history_held])), (a_history_rows, .inl (E.2.1, 3240, .inl c_history_rows)), (a_refused, .inl (E.2.1, 3, .inl (upd c_refused r_1.toNatClampNeg ((c_refused r_1.toNatClampNeg) + (1 : Int32)))))] := hD
          replace hF := nm_s hF
          obtain ⟨f_25, hf_25, hF⟩ := hF
          rw [← hf_25] at hP hD
          refine lv_iconst (v := -1) hx hb dX7_act_51 (by decide) ?_
          rw [hQ]
          have h9 := fin9 (P := fun u9 : Int32 × (Nat → Int32) × (Nat → Int32) × Int32 × Int32 × (Nat → Int32) × (Nat → Int32) × (Nat → Int32) × (Nat → Int32) × Int32 × Int32 × (Nat → Int32) => (-1 : Int32) = u9.1 ∧ va_P E.1 vwCl (w_X7_act E a_ a_tape a_reader a_scripts a_now a_trial a_kept a_book a_keptBook a_history a_draws a_refused a_now_row a_now_partners a_now_share a_now_leftOver a_book_lines a_history_rows c_hasImage u9.2.2.2.1 u9.2.2.2.2.1 u9.2.1 u9.2.2.1 u9.2.2.2.2.2.1 u9.2.2.2.2.2.2.1 u9.2.2.2.2.2.2.2.1 u9.2.2.2.2.2.2.2.2.2.1 u9.2.2.2.2.2.2.2.2.2.2.1 u9.2.2.2.2.2.2.2.2.1 u9.2.2.2.2.2.2.2.2.2.2.2) H ∧ va_D A (w_X7_act E a_ a_tape a_reader a_scripts a_now a_trial a_kept a_book a_keptBook a_history a_draws a_refused a_now_row a_now_partners a_now_share a_now_leftOver a_book_lines a_history_rows c_hasImage u9.2.2.2.1 u9.2.2.2.2.1 u9.2.1 u9.2.2.1 u9.2.2.2.2.2.1 u9.2.2.2.2.2.2.1 u9.2.2.2.2.2.2.2.1 u9.2.2.2.2.2.2.2.2.2.1 u9.2.2.2.2.2.2.2.2.2.2.1 u9.2.2.2.2.2.2.2.2.1 u9.2.2.2.2.2.2.2.2.2.2.2)) hF ⟨rfl, hP, hD⟩
          obtain ⟨e9_0, hP9, hD9⟩ := h9
          exact W.iret (v := (-1 : Int32)) hx hb hr (fun tt ht hW => ⟨⟨_, (), rfl, e9_0, ht ▸ hP9, hD9⟩, hS.F ht⟩) hS.2.2 dX7_act_52

def F_X7_add (K : Nat) (p1 : Int32) (p2 : Int32) (c_now_row : Nat → Int32) (c_now_partners : Nat → Int32) (c_now_askedCount : Int32) (c_now_outcome : Int32) (c_now_share : Nat → Int32) (c_now_leftOver : Nat → Int32) (c_book_lines : Nat → Int32) (c_history_rows : Nat → Int32) (c_history_next : Int32) (c_history_held : Int32) (c_refused : Nat → Int32) : Option (Int32 × (Nat → Int32) × (Nat → Int32) × Int32 × Int32 × (Nat → Int32) × (Nat → Int32) × (Nat → Int32) × (Nat → Int32) × Int32 × Int32 × (Nat → Int32)) :=
  bd12 (F_X7_act K (4 : Int32) p1 p2 (0 : Int32) (1 : Int32) c_now_row c_now_partners c_now_askedCount c_now_outcome c_now_share c_now_leftOver c_book_lines c_history_rows c_history_next c_history_held c_refused) (fun r_1 w_2 w_3 w_4 w_5 w_6 w_7 w_8 w_9 w_10 w_11 w_12 => some (r_1, w_2, w_3, w_4, w_5, w_6, w_7, w_8, w_9, w_10, w_11, w_12))
abbrev w_X7_add (E : EE) (a_ a_tape a_reader a_scripts a_now a_trial a_kept a_book a_keptBook a_history a_draws a_refused a_now_row a_now_partners a_now_share a_now_leftOver a_book_lines a_history_rows : Nat) (c_hasImage : Int32) (c_now_askedCount : Int32) (c_now_outcome : Int32) (c_now_row : Nat → Int32) (c_now_partners : Nat → Int32) (c_now_share : Nat → Int32) (c_now_leftOver : Nat → Int32) (c_book_lines : Nat → Int32) (c_history_next : Int32) (c_history_held : Int32) (c_history_rows : Nat → Int32) (c_refused : Nat → Int32) : va_W := [(a_, .inr (8, [.ref a_tape, .ref a_reader, .ref a_scripts, .ref a_now, .ref a_trial, .ref a_kept, .ref a_book, .ref a_keptBook, .ref a_history, .ref a_draws, .ref a_refused, .int c_hasImage])), (a_now, .inr (6, [.ref a_now_row, .ref a_now_partners, .int c_now_askedCount, .int c_now_outcome, .ref a_now_share, .ref a_now_leftOver])), (a_now_row, .inl (E.2.1, 81, .inl c_now_row)), (a_now_partners, .inl (E.2.1, 8, .inl c_now_partners)), (a_now_share, .inl (E.2.1, 2, .inl c_now_share)), (a_now_leftOver, .inl (E.2.1, 2, .inl c_now_leftOver)), (a_book, .inr (1, [.ref a_book_lines])), (a_book_lines, .inl (E.2.1, 300, .inl c_book_lines)), (a_history, .inr (3, [.ref a_history_rows, .int c_history_next, .int c_history_held])), (a_history_rows, .inl (E.2.1, 3240, .inl c_history_rows)), (a_refused, .inl (E.2.1, 3, .inl c_refused))]
def v_f_X7_add : List Cond := .code yX7_add cX7_add 3 (some .int) :: ([.methodLink RX7 163 yX7_act, .instanceMethod yX7_act, .selects RX7 yX7_act yX7_act, .initialized RX7] ++ (v_f_X7_act ++ ([])))
theorem gw_f_X7_add : v_f_X7_add.all goodWord = true := by decide +kernel
theorem g_f_X7_add_f_X7_act_163 : GoodIn v_f_X7_add (wsV RX7 163 RX7 yX7_act v_f_X7_act) := goodIn_app (goodIn_of _ (by decide +kernel)) (goodIn_sub (fun _ h => List.mem_cons_of_mem _ (List.mem_append_right _ (List.mem_append_left _ h))) gw_f_X7_act)
theorem hd_X7_add : yX7_add.cls = RX7 ∧ yX7_add.cls ≠ "java/lang/invoke/MethodHandle" ∧ yX7_add.cls ≠ "java/lang/invoke/VarHandle" ∧ (parseMethodDescriptor yX7_add.desc).map (fun d => d.parameters.length) = some 2 := by decide +kernel
set_option maxHeartbeats 4000000 in
set_option maxRecDepth 100000 in
theorem f_X7_add (l : Launch) (E : EE) (sz : Nat) (K : Nat) {a_ a_tape a_reader a_scripts a_now a_trial a_kept a_book a_keptBook a_history a_draws a_refused a_now_row a_now_partners a_now_share a_now_leftOver a_book_lines a_history_rows : Nat} {p1 : Int32} {p2 : Int32} {c_hasImage : Int32} {c_now_askedCount : Int32} {c_now_outcome : Int32} {c_now_row : Nat → Int32} {c_now_partners : Nat → Int32} {c_now_share : Nat → Int32} {c_now_leftOver : Nat → Int32} {c_book_lines : Nat → Int32} {c_history_next : Int32} {c_history_held : Int32} {c_history_rows : Nat → Int32} {c_refused : Nat → Int32} {rr : Int32} {n_now_row : Nat → Int32} {n_now_partners : Nat → Int32} {n_now_askedCount : Int32} {n_now_outcome : Int32} {n_now_share : Nat → Int32} {n_now_leftOver : Nat → Int32} {n_book_lines : Nat → Int32} {n_history_rows : Nat → Int32} {n_history_next : Int32} {n_history_held : Int32} {n_refused : Nat → Int32} (hF : F_X7_add K p1 p2 c_now_row c_now_partners c_now_askedCount c_now_outcome c_now_share c_now_leftOver c_book_lines c_history_rows c_history_next c_history_held c_refused = some (rr, n_now_row, n_now_partners, n_now_askedCount, n_now_outcome, n_now_share, n_now_leftOver, n_book_lines, n_history_rows, n_history_next, n_history_held, n_refused)) : Met l yX7_add v_f_X7_add (({ frames := 6, cells := 0, slots := 0, locals := 151 } : Room)) (va_Pc [.ref a_, .int p1, .int p2] (pW E sz (w_X7_add E a_ a_tape a_reader a_scripts a_now a_trial a_kept a_book a_keptBook a_history a_draws a_refused a_now_row a_now_partners a_now_share a_now_leftOver a_book_lines a_history_rows c_hasImage c_now_askedCount c_now_outcome c_now_row c_now_partners c_now_share c_now_leftOver c_book_lines c_history_next c_history_held c_history_rows c_refused))) (va_Qi (fun (q : Int32) (_u : Unit) => q = rr) (fun (_u : Unit) tt => va_P E.1 vwCl (w_X7_add E a_ a_tape a_reader a_scripts a_now a_trial a_kept a_book a_keptBook a_history a_draws a_refused a_now_row a_now_partners a_now_share a_now_leftOver a_book_lines a_history_rows c_hasImage n_now_askedCount n_now_outcome n_now_row n_now_partners n_now_share n_now_leftOver n_book_lines n_history_next n_history_held n_history_rows n_refused) tt.heap ∧ va_D (va_A (w_X7_add E a_ a_tape a_reader a_scripts a_now a_trial a_kept a_book a_keptBook a_history a_draws a_refused a_now_row a_now_partners a_now_share a_now_leftOver a_book_lines a_history_rows c_hasImage c_now_askedCount c_now_outcome c_now_row c_now_partners c_now_share c_now_leftOver c_book_lines c_history_next c_history_held c_history_rows c_refused) sz) (w_X7_add E a_ a_tape a_reader a_scripts a_now a_trial a_kept a_book a_keptBook a_history a_draws a_refused a_now_row a_now_partners a_now_share a_now_leftOver a_book_lines a_history_rows c_hasImage n_now_askedCount n_now_outcome n_now_row n_now_partners n_now_share n_now_leftOver n_book_lines n_history_next n_history_held n_history_rows n_refused)) (va_A (w_X7_add E a_ a_tape a_reader a_scripts a_now a_trial a_kept a_book a_keptBook a_history a_draws a_refused a_now_row a_now_partners a_now_share a_now_leftOver a_book_lines a_history_rows c_hasImage c_now_askedCount c_now_outcome c_now_row c_now_partners c_now_share c_now_leftOver c_book_lines c_history_next c_history_held c_history_rows c_refused) sz)) 0 0 (va_A (w_X7_add E a_ a_tape a_reader a_scripts a_now a_trial a_kept a_book a_keptBook a_history a_draws a_refused a_now_row a_now_partners a_now_share a_now_leftOver a_book_lines a_history_rows c_hasImage c_now_askedCount c_now_outcome c_now_row c_now_partners c_now_share c_now_leftOver c_book_lines c_history_next c_history_held c_history_rows c_refused) sz) := by
  refine Met.ofW (cc := cX7_add) (maxL := 3) (ret := (some .int)) (by decide) rfl ?_
  intro p e s m args below meth c s₁ B hml hv
  obtain ⟨rfl, hsz, ⟨hK, hN⟩, hP, hD0⟩ := hv
  have hx := B.exec
  have hb := B.bytes
  have hr := B.returns
  have hts := atoms_spec (ws := v_f_X7_add) B.pre
  have hown : s.vm.findClass RX7 = some m.cls := own_of hd_X7_add.1 (findClass_of_methodNamed B.named)
  have hlocks : meth.locks = false := B.notSynchronized
  subst hsz
  have hD := hD0.self (sz := s.heap.size)
  generalize hAe : va_A (w_X7_add E a_ a_tape a_reader a_scripts a_now a_trial a_kept a_book a_keptBook a_history a_draws a_refused a_now_row a_now_partners a_now_share a_now_leftOver a_book_lines a_history_rows c_hasImage c_now_askedCount c_now_outcome c_now_row c_now_partners c_now_share c_now_leftOver c_book_lines c_history_next c_history_held c_history_rows c_refused) s.heap.size = A at hD ⊢
  have hA : ∀ q : Nat, s.heap.size ≤ q → A q := fun q h => by rw [← hAe]; exact Or.inr h
  have hS : va_S A s.heap s.heap [] := va_S.rf
  have hl := lv_entry ([.ref a_, .int p1, .int p2]) (n := 3) (Nat.le_of_ble_eq_true rfl)
  rw [lg_entry_eq]
  generalize (lg_sl ([.ref a_, .int p1, .int p2]) ++ List.replicate (3 - (lg_sl ([.ref a_, .int p1, .int p2])).length) Slot.unset).toArray = ls at hl ⊢
  have hl : lv_has ls 3 [(0, .ref a_), (1, .int p1), (2, .int p2)] := hl
  obtain ⟨Q, hQ⟩ : ∃ Q : State → Prop, Q = MQ below (va_Qi (fun (q : Int32) (_u : Unit) => q = rr) (fun (_u : Unit) tt => va_P E.1 vwCl (w_X7_add E a_ a_tape a_reader a_scripts a_now a_trial a_kept a_book a_keptBook a_history a_draws a_refused a_now_row a_now_partners a_now_share a_now_leftOver a_book_lines a_history_rows c_hasImage n_now_askedCount n_now_outcome n_now_row n_now_partners n_now_share n_now_leftOver n_book_lines n_history_next n_history_held n_history_rows n_refused) tt.heap ∧ va_D A (w_X7_add E a_ a_tape a_reader a_scripts a_now a_trial a_kept a_book a_keptBook a_history a_draws a_refused a_now_row a_now_partners a_now_share a_now_leftOver a_book_lines a_history_rows c_hasImage n_now_askedCount n_now_outcome n_now_row n_now_partners n_now_share n_now_leftOver n_book_lines n_history_next n_history_held n_history_rows n_refused)) A) #[Value.ref a_, Value.int p1, Value.int p2] s 0 0 A := ⟨_, rfl⟩
  rw [← hQ]
  change W p l e ({ frames := 6, cells := 0, slots := 0, locals := 151 } : Room) s m #[Value.ref a_, Value.int p1, Value.int p2] below meth c s.heap [] 0 0 Q (F0 m 0 ls [])
  suffices hh9 : ∀ (H : Heap) (locs : List Loc), va_P E.1 vwCl (w_X7_add E a_ a_tape a_reader a_scripts a_now a_trial a_kept a_book a_keptBook a_history a_draws a_refused a_now_row a_now_partners a_now_share a_now_leftOver a_book_lines a_history_rows c_hasImage c_now_askedCount c_now_outcome c_now_row c_now_partners c_now_share c_now_leftOver c_book_lines c_history_next c_history_held c_history_rows c_refused) H → va_D A (w_X7_add E a_ a_tape a_reader a_scripts a_now a_trial a_kept a_book a_keptBook a_history a_draws a_refused a_now_row a_now_partners a_now_share a_now_leftOver a_book_lines a_history_rows c_hasImage c_now_askedCount c_now_outcome c_now_row c_now_partners c_now_share c_now_leftOver c_book_lines c_history_next c_history_held c_history_rows c_refused) → va_S A s.heap H locs → W p l e ({ frames := 6, cells := 0, slots := 0, locals := 151 } : Room) s m #[Value.ref a_, Value.int p1, Value.int p2] below meth c H locs 0 0 Q (F0 m 0 ls []) from hh9 s.heap [] hP hD hS
  clear hP hD hS
  intro H locs hP hD hS
  replace hP : va_P E.1 vwCl [(a_, .inr (8, [.ref a_tape, .ref a_reader, .ref a_scripts, .ref a_now, .ref a_trial, .ref a_kept, .ref a_book, .ref a_keptBook, .ref a_history, .ref a_draws, .ref a_refused, .int c_hasImage])), (a_now, .inr (6, [.ref a_now_row, .ref a_now_partners, .int c_now_askedCount, .int c_now_outcome, .ref a_now_share, .ref a_now_leftOver])), (a_now_row, .inl (E.2.1, 81, .inl c_now_row)), (a_now_partners, .inl (E.2.1, 8, .inl c_now_partners)), (a_now_share, .inl (E.2.1, 2, .inl c_now_share)), (a_now_leftOver, .inl (E.2.1, 2, .inl c_now_leftOver)), (a_book, .inr (1, [.ref a_book_lines])), (a_book_lines, .inl (E.2.1, 300, .inl c_book_lines)), (a_history, .inr (3, [.ref a_history_rows, .int c_history_next, .int c_history_held])), (a_history_rows, .inl (E.2.1, 3240, .inl c_history_rows)), (a_refused, .inl (E.2.1, 3, .inl c_refused))] H := hP
  replace hD : va_D A [(a_, .inr (8, [.ref a_tape, .ref a_reader, .ref a_scripts, .ref a_now, .ref a_trial, .ref a_kept, .ref a_book, .ref a_keptBook, .ref a_history, .ref a_draws, .ref a_refused, .int c_hasImage])), (a_now, .inr (6, [.ref a_now_row, .ref a_now_partners, .int c_now_askedCount, .int c_now_outcome, .ref a_now_share, .ref a_now_leftOver])), (a_now_row, .inl (E.2.1, 81, .inl c_now_row)), (a_now_partners, .inl (E.2.1, 8, .inl c_now_partners)), (a_now_share, .inl (E.2.1, 2, .inl c_now_share)), (a_now_leftOver, .inl (E.2.1, 2, .inl c_now_leftOver)), (a_book, .inr (1, [.ref a_book_lines])), (a_book_lines, .inl (E.2.1, 300, .inl c_book_lines)), (a_history, .inr (3, [.ref a_history_rows, .int c_history_next, .int c_history_held])), (a_history_rows, .inl (E.2.1, 3240, .inl c_history_rows)), (a_refused, .inl (E.2.1, 3, .inl c_refused))] := hD
  unfold F_X7_add at hF
  refine lv_aload_n hx hb dX7_add_0 rfl (lv_at hl 0 rfl) ?_
  refine lv_iconst (v := 4) hx hb dX7_add_1 (by decide) ?_
  refine lv_iload_n hx hb dX7_add_2 rfl (lv_at hl 1 rfl) ?_
  refine lv_iload_n hx hb dX7_add_3 rfl (lv_at hl 2 rfl) ?_
  refine lv_iconst (v := 0) hx hb dX7_add_4 (by decide) ?_
  refine lv_iconst (v := 1) hx hb dX7_add_5 (by decide) ?_
  replace hF := bd12_s hF
  obtain ⟨r_1, w_2, w_3, w_4, w_5, w_6, w_7, w_8, w_9, w_10, w_11, w_12, hc_13, hF⟩ := hF
  obtain ⟨hPc, hDc, hFc⟩ := wcut (wc := (w_X7_act E a_ a_tape a_reader a_scripts a_now a_trial a_kept a_book a_keptBook a_history a_draws a_refused a_now_row a_now_partners a_now_share a_now_leftOver a_book_lines a_history_rows c_hasImage c_now_askedCount c_now_outcome c_now_row c_now_partners c_now_share c_now_leftOver c_book_lines c_history_next c_history_held c_history_rows c_refused)) hP hD hS hA [0, 1, 2, 3, 4, 5, 6, 7, 8, 9, 10] (by decide) rfl
  have hrc := va_recv hK hPc (ci := 8) (q0 := 0) rfl rfl
  refine cE_i (wc := (w_X7_act E a_ a_tape a_reader a_scripts a_now a_trial a_kept a_book a_keptBook a_history a_draws a_refused a_now_row a_now_partners a_now_share a_now_leftOver a_book_lines a_history_rows c_hasImage c_now_askedCount c_now_outcome c_now_row c_now_partners c_now_share c_now_leftOver c_book_lines c_history_next c_history_held c_history_rows c_refused)) (wr := []) (w1 := (w_X7_act E a_ a_tape a_reader a_scripts a_now a_trial a_kept a_book a_keptBook a_history a_draws a_refused a_now_row a_now_partners a_now_share a_now_leftOver a_book_lines a_history_rows c_hasImage w_4 w_5 w_2 w_3 w_6 w_7 w_8 w_10 w_11 w_9 w_12)) (va_runV (As := [.int (4 : Int32), .int p1, .int p2, .int (0 : Int32), .int (1 : Int32)]) (rest := [])  ⟨hx, hb, hml, hown, hts⟩ (f_X7_act l E H.size K (a_ := a_) (a_tape := a_tape) (a_reader := a_reader) (a_scripts := a_scripts) (a_now := a_now) (a_trial := a_trial) (a_kept := a_kept) (a_book := a_book) (a_keptBook := a_keptBook) (a_history := a_history) (a_draws := a_draws) (a_refused := a_refused) (a_now_row := a_now_row) (a_now_partners := a_now_partners) (a_now_share := a_now_share) (a_now_leftOver := a_now_leftOver) (a_book_lines := a_book_lines) (a_history_rows := a_history_rows) (p1 := (4 : Int32)) (p2 := p1) (p3 := p2) (p4 := (0 : Int32)) (p5 := (1 : Int32)) (c_hasImage := c_hasImage) (c_now_askedCount := c_now_askedCount) (c_now_outcome := c_now_outcome) (c_now_row := c_now_row) (c_now_partners := c_now_partners) (c_now_share := c_now_share) (c_now_leftOver := c_now_leftOver) (c_book_lines := c_book_lines) (c_history_next := c_history_next) (c_history_held := c_history_held) (c_history_rows := c_history_rows) (c_refused := c_refused) hc_13) (cwV 5 hts g_f_X7_add_f_X7_act_163 rfl rfl rfl hd_X7_act ⟨Nat.le_of_ble_eq_true rfl, Nat.le_of_ble_eq_true rfl⟩) ⟨pW.blind, hrc, (pW.pre ⟨hK, hN⟩ hPc hDc)⟩ rfl rfl hl.1 rfl (lv_room (Nat.le_of_ble_eq_true rfl)) dX7_add_6 ⟨Nat.le_of_ble_eq_true rfl, Nat.le_of_ble_eq_true rfl⟩) hS hFc hP hD [0, 1, 2, 3, 4, 5, 6, 7, 8, 9, 10] [] rfl rfl (by decide) (by decide) (fun H locs hP hD hS => ?_)
  replace hP : va_P E.1 vwCl [(a_, .inr (8, [.ref a_tape, .ref a_reader, .ref a_scripts, .ref a_now, .ref a_trial, .ref a_kept, .ref a_book, .ref a_keptBook, .ref a_history, .ref a_draws, .ref a_refused, .int c_hasImage])), (a_now, .inr (6, [.ref a_now_row, .ref a_now_partners, .int w_4, .int w_5, .ref a_now_share, .ref a_now_leftOver])), (a_now_row, .inl (E.2.1, 81, .inl w_2)), (a_now_partners, .inl (E.2.1, 8, .inl w_3)), (a_now_share, .inl (E.2.1, 2, .inl w_6)), (a_now_leftOver, .inl (E.2.1, 2, .inl w_7)), (a_book, .inr (1, [.ref a_book_lines])), (a_book_lines, .inl (E.2.1, 300, .inl w_8)), (a_history, .inr (3, [.ref a_history_rows, .int w_10, .int w_11])), (a_history_rows, .inl (E.2.1, 3240, .inl w_9)), (a_refused, .inl (E.2.1, 3, .inl w_12))] H := hP
  replace hD : va_D A [(a_, .inr (8, [.ref a_tape, .ref a_reader, .ref a_scripts, .ref a_now, .ref a_trial, .ref a_kept, .ref a_book, .ref a_keptBook, .ref a_history, .ref a_draws, .ref a_refused, .int c_hasImage])), (a_now, .inr (6, [.ref a_now_row, .ref a_now_partners, .int w_4, .int w_5, .ref a_now_share, .ref a_now_leftOver])), (a_now_row, .inl (E.2.1, 81, .inl w_2)), (a_now_partners, .inl (E.2.1, 8, .inl w_3)), (a_now_share, .inl (E.2.1, 2, .inl w_6)), (a_now_leftOver, .inl (E.2.1, 2, .inl w_7)), (a_book, .inr (1, [.ref a_book_lines])), (a_book_lines, .inl (E.2.1, 300, .inl w_8)), (a_history, .inr (3, [.ref a_history_rows, .int w_10, .int w_11])), (a_history_rows, .inl (E.2.1, 3240, .inl w_9)), (a_refused, .inl (E.2.1, 3, .inl w_12))] := hD
  rw [hQ]
  have h9 := fin9 (P := fun u9 : Int32 × (Nat → Int32) × (Nat → Int32) × Int32 × Int32 × (Nat → Int32) × (Nat → Int32) × (Nat → Int32) × (Nat → Int32) × Int32 × Int32 × (Nat → Int32) => r_1 = u9.1 ∧ va_P E.1 vwCl (w_X7_add E a_ a_tape a_reader a_scripts a_now a_trial a_kept a_book a_keptBook a_history a_draws a_refused a_now_row a_now_partners a_now_share a_now_leftOver a_book_lines a_history_rows c_hasImage u9.2.2.2.1 u9.2.2.2.2.1 u9.2.1 u9.2.2.1 u9.2.2.2.2.2.1 u9.2.2.2.2.2.2.1 u9.2.2.2.2.2.2.2.1 u9.2.2.2.2.2.2.2.2.2.1 u9.2.2.2.2.2.2.2.2.2.2.1 u9.2.2.2.2.2.2.2.2.1 u9.2.2.2.2.2.2.2.2.2.2.2) H ∧ va_D A (w_X7_add E a_ a_tape a_reader a_scripts a_now a_trial a_kept a_book a_keptBook a_history a_draws a_refused a_now_row a_now_partners a_now_share a_now_leftOver a_book_lines a_history_rows c_hasImage u9.2.2.2.1 u9.2.2.2.2.1 u9.2.1 u9.2.2.1 u9.2.2.2.2.2.1 u9.2.2.2.2.2.2.1 u9.2.2.2.2.2.2.2.1 u9.2.2.2.2.2.2.2.2.2.1 u9.2.2.2.2.2.2.2.2.2.2.1 u9.2.2.2.2.2.2.2.2.1 u9.2.2.2.2.2.2.2.2.2.2.2)) hF ⟨rfl, hP, hD⟩
  obtain ⟨e9_0, hP9, hD9⟩ := h9
  exact W.iret (v := r_1) hx hb hr (fun tt ht hW => ⟨⟨_, (), rfl, e9_0, ht ▸ hP9, hD9⟩, hS.F ht⟩) hS.2.2 dX7_add_9

def F_X7_all (K : Nat) (p1 : Int32) (c_now_row : Nat → Int32) : Option (Int64) :=
  bd1 (F_X5_stands c_now_row) (fun r_1 => if r_1 = (0 : Int32) then some (-100000000 : Int64) else if p1 = (0 : Int32) then ixF ((4 : Int32) + p1) 81 (some ((c_now_row ((4 : Int32) + p1).toNatClampNeg).toInt64)) else if p1 = (1 : Int32) then ixF ((4 : Int32) + p1) 81 (some ((c_now_row ((4 : Int32) + p1).toNatClampNeg).toInt64)) else if p1 = (2 : Int32) then bd1 (F_X5_total K (((0 : Int32) + p1) - (2 : Int32)) c_now_row) (fun r_8 => some r_8.toInt64) else if p1 = (3 : Int32) then bd1 (F_X5_total K (((0 : Int32) + p1) - (2 : Int32)) c_now_row) (fun r_10 => some r_10.toInt64) else if p1 = (4 : Int32) then bd1 (F_X5_valueOf ((c_now_row 4).toInt64) ((c_now_row 5).toInt64) c_now_row) (fun r_12 => some r_12) else if p1 = (5 : Int32) then bd1 (F_X5_total K (0 : Int32) c_now_row) (fun r_14 => bd1 (F_X5_total K (1 : Int32) c_now_row) (fun r_16 => bd1 (F_X5_valueOf r_14.toInt64 r_16.toInt64 c_now_row) (fun r_18 => some r_18))) else some (-100000000 : Int64))
abbrev w_X7_all (E : EE) (a_ a_tape a_reader a_scripts a_now a_trial a_kept a_book a_keptBook a_history a_draws a_refused a_now_row a_now_partners a_now_share a_now_leftOver : Nat) (c_hasImage : Int32) (c_now_askedCount : Int32) (c_now_outcome : Int32) (c_now_row : Nat → Int32) : va_W := [(a_, .inr (8, [.ref a_tape, .ref a_reader, .ref a_scripts, .ref a_now, .ref a_trial, .ref a_kept, .ref a_book, .ref a_keptBook, .ref a_history, .ref a_draws, .ref a_refused, .int c_hasImage])), (a_now, .inr (6, [.ref a_now_row, .ref a_now_partners, .int c_now_askedCount, .int c_now_outcome, .ref a_now_share, .ref a_now_leftOver])), (a_now_row, .inl (E.2.1, 81, .inl c_now_row))]
def v_f_X7_all : List Cond := .code yX7_all cX7_all 2 (some .long) :: ([.fieldLink RX7 35 "HushWatch" "now" "LHushWatch$State;", .constantLong RX7 154 (-100000000), .methodLink RX7 110 yX5_stands, .instanceMethod yX5_stands, .selects RX5 yX5_stands yX5_stands, .initialized RX5, .methodLink RX7 160 yX5_total, .instanceMethod yX5_total, .selects RX5 yX5_total yX5_total, .methodLink RX7 150 yX5_valueOf, .instanceMethod yX5_valueOf, .selects RX5 yX5_valueOf yX5_valueOf] ++ (wsX70 ++ (v_f_X5_stands ++ (wsX50 ++ (v_f_X5_total ++ (v_f_X5_valueOf ++ ([])))))))
theorem gw_f_X7_all : v_f_X7_all.all goodWord = true := by decide +kernel
theorem i_f_X7_all_X7 : ∀ w ∈ wsX70, w ∈ v_f_X7_all := fun _ h => List.mem_cons_of_mem _ (List.mem_append_right _ (List.mem_append_left _ h))
theorem i_f_X7_all_X5 : ∀ w ∈ wsX50, w ∈ v_f_X7_all := fun _ h => List.mem_cons_of_mem _ (List.mem_append_right _ (List.mem_append_right _ (List.mem_append_right _ (List.mem_append_left _ h))))
theorem g_f_X7_all_f_X5_stands_110 : GoodIn v_f_X7_all (wsV RX7 110 RX5 yX5_stands v_f_X5_stands) := goodIn_app (goodIn_of _ (by decide +kernel)) (goodIn_sub (fun _ h => List.mem_cons_of_mem _ (List.mem_append_right _ (List.mem_append_right _ (List.mem_append_left _ h)))) gw_f_X5_stands)
theorem g_f_X7_all_f_X5_total_160 : GoodIn v_f_X7_all (wsV RX7 160 RX5 yX5_total v_f_X5_total) := goodIn_app (goodIn_of _ (by decide +kernel)) (goodIn_sub (fun _ h => List.mem_cons_of_mem _ (List.mem_append_right _ (List.mem_append_right _ (List.mem_append_right _ (List.mem_append_right _ (List.mem_append_left _ h)))))) gw_f_X5_total)
theorem g_f_X7_all_f_X5_valueOf_150 : GoodIn v_f_X7_all (wsV RX7 150 RX5 yX5_valueOf v_f_X5_valueOf) := goodIn_app (goodIn_of _ (by decide +kernel)) (goodIn_sub (fun _ h => List.mem_cons_of_mem _ (List.mem_append_right _ (List.mem_append_right _ (List.mem_append_right _ (List.mem_append_right _ (List.mem_append_right _ (List.mem_append_left _ h))))))) gw_f_X5_valueOf)
theorem hd_X7_all : yX7_all.cls = RX7 ∧ yX7_all.cls ≠ "java/lang/invoke/MethodHandle" ∧ yX7_all.cls ≠ "java/lang/invoke/VarHandle" ∧ (parseMethodDescriptor yX7_all.desc).map (fun d => d.parameters.length) = some 1 := by decide +kernel
set_option maxHeartbeats 4000000 in
set_option maxRecDepth 100000 in
theorem f_X7_all (l : Launch) (E : EE) (K : Nat) {a_ a_tape a_reader a_scripts a_now a_trial a_kept a_book a_keptBook a_history a_draws a_refused a_now_row a_now_partners a_now_share a_now_leftOver : Nat} {p1 : Int32} {c_hasImage : Int32} {c_now_askedCount : Int32} {c_now_outcome : Int32} {c_now_row : Nat → Int32} {rr : Int64} (hF : F_X7_all K p1 c_now_row = some rr) : Met l yX7_all v_f_X7_all (({ frames := 2, cells := 0, slots := 0, locals := 45 } : Room)) (va_Pc [.ref a_, .int p1] (pP E (w_X7_all E a_ a_tape a_reader a_scripts a_now a_trial a_kept a_book a_keptBook a_history a_draws a_refused a_now_row a_now_partners a_now_share a_now_leftOver c_hasImage c_now_askedCount c_now_outcome c_now_row))) (vp_Sl (fun q : Int64 => q = rr)) 0 0 (fun _ => False) := by
  refine Met.ofW (cc := cX7_all) (maxL := 2) (ret := (some .long)) (by decide) rfl ?_
  intro p e s m args below meth c s₁ B hml hv
  obtain ⟨rfl, ⟨hK, hN⟩, hP⟩ := hv
  have hx := B.exec
  have hb := B.bytes
  have hr := B.returns
  have hts := atoms_spec (ws := v_f_X7_all) B.pre
  have hown : s.vm.findClass RX7 = some m.cls := own_of hd_X7_all.1 (findClass_of_methodNamed B.named)
  have hlocks : meth.locks = false := B.notSynchronized
  replace hP : va_P E.1 vwCl [(a_, .inr (8, [.ref a_tape, .ref a_reader, .ref a_scripts, .ref a_now, .ref a_trial, .ref a_kept, .ref a_book, .ref a_keptBook, .ref a_history, .ref a_draws, .ref a_refused, .int c_hasImage])), (a_now, .inr (6, [.ref a_now_row, .ref a_now_partners, .int c_now_askedCount, .int c_now_outcome, .ref a_now_share, .ref a_now_leftOver])), (a_now_row, .inl (E.2.1, 81, .inl c_now_row))] s.heap := hP
  have hl := lv_entry ([.ref a_, .int p1]) (n := 2) (Nat.le_of_ble_eq_true rfl)
  rw [lg_entry_eq]
  generalize (lg_sl ([.ref a_, .int p1]) ++ List.replicate (2 - (lg_sl ([.ref a_, .int p1])).length) Slot.unset).toArray = ls at hl ⊢
  have hl : lv_has ls 2 [(0, .ref a_), (1, .int p1)] := hl
  obtain ⟨Q, hQ⟩ : ∃ Q : State → Prop, Q = MQ below (vp_Sl (fun q : Int64 => q = rr)) #[Value.ref a_, Value.int p1] s 0 0 (fun _ => False) := ⟨_, rfl⟩
  rw [← hQ]
  change W p l e ({ frames := 2, cells := 0, slots := 0, locals := 45 } : Room) s m #[Value.ref a_, Value.int p1] below meth c s.heap [] 0 0 Q (F0 m 0 ls [])
  unfold F_X7_all at hF
  refine lv_aload_n hx hb dX7_all_0 rfl (lv_at hl 0 rfl) ?_
  refine gt_X7_3 (v := .ref a_now) hx hb hts i_f_X7_all_X7 hown hK hP 0 rfl (hts (.fieldLink RX7 35 "HushWatch" "now" "LHushWatch$State;") (List.mem_of_getElem? (i := 1) rfl)) rfl dX7_all_1 ?_
  replace hF := bd1_s hF
  obtain ⟨r_1, hc_2, hF⟩ := hF
  have hPc : va_P E.1 vwCl (w_X5_stands E a_now a_now_row a_now_partners a_now_share a_now_leftOver c_now_askedCount c_now_outcome c_now_row) s.heap := hP.sub (ws' := [(a_now, .inr (6, [.ref a_now_row, .ref a_now_partners, .int c_now_askedCount, .int c_now_outcome, .ref a_now_share, .ref a_now_leftOver])), (a_now_row, .inl (E.2.1, 81, .inl c_now_row))]) [1, 2] rfl
  have hrc := va_recv hK hPc (ci := 6) (q0 := 0) rfl rfl
  refine pE_z (va_runV (As := []) (rest := [])  ⟨hx, hb, hml, hown, hts⟩ (f_X5_stands l E (a_ := a_now) (a_row := a_now_row) (a_partners := a_now_partners) (a_share := a_now_share) (a_leftOver := a_now_leftOver) (c_askedCount := c_now_askedCount) (c_outcome := c_now_outcome) (c_row := c_now_row) hc_2) (cwV 0 hts g_f_X7_all_f_X5_stands_110 rfl rfl rfl hd_X5_stands ⟨Nat.le_of_ble_eq_true rfl, Nat.le_of_ble_eq_true rfl⟩) ⟨pP.blind, hrc, (pP.pre ⟨hK, hN⟩ hPc)⟩ rfl rfl hl.1 rfl (lv_room (Nat.le_of_ble_eq_true rfl)) dX7_all_4 ⟨Nat.le_of_ble_eq_true rfl, Nat.le_of_ble_eq_true rfl⟩) (fun hb_3 => ?_)
  refine lv_if_ne (tgt := 14) hx hb dX7_all_7 (by decide) (fun c_4 => ?_) (fun c_4 => ?_)
  ·
    replace hF := inn c_4 hF
    refine lv_iload_n hx hb dX7_all_14 rfl (lv_at hl 1 rfl) ?_
    rcases Classical.em (p1 = (0 : Int32)) with c_5_0 | c_5_0
    ·
      replace hF := ip c_5_0 hF
      refine lv_tableIn (off := 37) (tgt := 52) hx hb dX7_all_15 (by rw [c_5_0]; decide) (by rw [c_5_0]; decide) (by rw [c_5_0]; decide) (by decide) ?_
      refine lv_aload_n hx hb dX7_all_52 rfl (lv_at hl 0 rfl) ?_
      refine gt_X7_3 (v := .ref a_now) hx hb hts i_f_X7_all_X7 hown hK hP 0 rfl (hts (.fieldLink RX7 35 "HushWatch" "now" "LHushWatch$State;") (List.mem_of_getElem? (i := 1) rfl)) rfl dX7_all_53 ?_
      refine va_getN (D := E.1) (ci := 6) (v := .ref a_now_row) (C := RX5) (T := TX5) (N := 6) hx hb hts i_f_X7_all_X5 hown hK hP 1 rfl rfl 0 (by decide) (nx hN 12 rfl) (fun _ h9 => h9) rfl dX7_all_56 ?_
      refine lv_iconst (v := 4) hx hb dX7_all_59 (by decide) ?_
      refine lv_iload_n hx hb dX7_all_60 rfl (lv_at hl 1 rfl) ?_
      refine lv_iadd hx hb dX7_all_61 ?_
      replace hF := ix_s hF
      obtain ⟨hi_6, hF⟩ := hF
      refine va_iald hx hb hK hP 2 0 rfl rfl hi_6 dX7_all_62 ?_
      refine lv_i2l (v := (c_now_row ((4 : Int32) + p1).toNatClampNeg).toInt64) hx hb dX7_all_63 rfl ?_
      rw [hQ]
      obtain e9_0 := inj1 hF
      exact W.lret (v := (c_now_row ((4 : Int32) + p1).toNatClampNeg).toInt64) hx hb hr (fun tt ht hW => ⟨_, rfl, e9_0, ht⟩) (fun _ h => by cases h) dX7_all_64
    replace hF := inn c_5_0 hF
    rcases Classical.em (p1 = (1 : Int32)) with c_5_1 | c_5_1
    ·
      replace hF := ip c_5_1 hF
      refine lv_tableIn (off := 37) (tgt := 52) hx hb dX7_all_15 (by rw [c_5_1]; decide) (by rw [c_5_1]; decide) (by rw [c_5_1]; decide) (by decide) ?_
      refine lv_aload_n hx hb dX7_all_52 rfl (lv_at hl 0 rfl) ?_
      refine gt_X7_3 (v := .ref a_now) hx hb hts i_f_X7_all_X7 hown hK hP 0 rfl (hts (.fieldLink RX7 35 "HushWatch" "now" "LHushWatch$State;") (List.mem_of_getElem? (i := 1) rfl)) rfl dX7_all_53 ?_
      refine va_getN (D := E.1) (ci := 6) (v := .ref a_now_row) (C := RX5) (T := TX5) (N := 6) hx hb hts i_f_X7_all_X5 hown hK hP 1 rfl rfl 0 (by decide) (nx hN 12 rfl) (fun _ h9 => h9) rfl dX7_all_56 ?_
      refine lv_iconst (v := 4) hx hb dX7_all_59 (by decide) ?_
      refine lv_iload_n hx hb dX7_all_60 rfl (lv_at hl 1 rfl) ?_
      refine lv_iadd hx hb dX7_all_61 ?_
      replace hF := ix_s hF
      obtain ⟨hi_7, hF⟩ := hF
      refine va_iald hx hb hK hP 2 0 rfl rfl hi_7 dX7_all_62 ?_
      refine lv_i2l (v := (c_now_row ((4 : Int32) + p1).toNatClampNeg).toInt64) hx hb dX7_all_63 rfl ?_
      rw [hQ]
      obtain e9_0 := inj1 hF
      exact W.lret (v := (c_now_row ((4 : Int32) + p1).toNatClampNeg).toInt64) hx hb hr (fun tt ht hW => ⟨_, rfl, e9_0, ht⟩) (fun _ h => by cases h) dX7_all_64
    replace hF := inn c_5_1 hF
    rcases Classical.em (p1 = (2 : Int32)) with c_5_2 | c_5_2
    ·
      replace hF := ip c_5_2 hF
      refine lv_tableIn (off := 50) (tgt := 65) hx hb dX7_all_15 (by rw [c_5_2]; decide) (by rw [c_5_2]; decide) (by rw [c_5_2]; decide) (by decide) ?_
      refine lv_aload_n hx hb dX7_all_65 rfl (lv_at hl 0 rfl) ?_
      refine gt_X7_3 (v := .ref a_now) hx hb hts i_f_X7_all_X7 hown hK hP 0 rfl (hts (.fieldLink RX7 35 "HushWatch" "now" "LHushWatch$State;") (List.mem_of_getElem? (i := 1) rfl)) rfl dX7_all_66 ?_
      refine lv_iconst (v := 0) hx hb dX7_all_69 (by decide) ?_
      refine lv_iload_n hx hb dX7_all_70 rfl (lv_at hl 1 rfl) ?_
      refine lv_iadd hx hb dX7_all_71 ?_
      refine lv_iconst (v := 2) hx hb dX7_all_72 (by decide) ?_
      refine lv_isub hx hb dX7_all_73 ?_
      replace hF := bd1_s hF
      obtain ⟨r_8, hc_9, hF⟩ := hF
      have hPc : va_P E.1 vwCl (w_X5_total E a_now a_now_row a_now_partners a_now_share a_now_leftOver c_now_askedCount c_now_outcome c_now_row) s.heap := hP.sub (ws' := [(a_now, .inr (6, [.ref a_now_row, .ref a_now_partners, .int c_now_askedCount, .int c_now_outcome, .ref a_now_share, .ref a_now_leftOver])), (a_now_row, .inl (E.2.1, 81, .inl c_now_row))]) [1, 2] rfl
      have hrc := va_recv hK hPc (ci := 6) (q0 := 0) rfl rfl
      refine pE_i (va_runV (As := [.int (((0 : Int32) + p1) - (2 : Int32))]) (rest := [])  ⟨hx, hb, hml, hown, hts⟩ (f_X5_total l E K (a_ := a_now) (a_row := a_now_row) (a_partners := a_now_partners) (a_share := a_now_share) (a_leftOver := a_now_leftOver) (p1 := ((0 : Int32) + p1) - (2 : Int32)) (c_askedCount := c_now_askedCount) (c_outcome := c_now_outcome) (c_row := c_now_row) hc_9) (cwV 1 hts g_f_X7_all_f_X5_total_160 rfl rfl rfl hd_X5_total ⟨Nat.le_of_ble_eq_true rfl, Nat.le_of_ble_eq_true rfl⟩) ⟨pP.blind, hrc, (pP.pre ⟨hK, hN⟩ hPc)⟩ rfl rfl hl.1 rfl (lv_room (Nat.le_of_ble_eq_true rfl)) dX7_all_74 ⟨Nat.le_of_ble_eq_true rfl, Nat.le_of_ble_eq_true rfl⟩) ?_
      refine lv_i2l (v := r_8.toInt64) hx hb dX7_all_77 rfl ?_
      rw [hQ]
      obtain e9_0 := inj1 hF
      exact W.lret (v := r_8.toInt64) hx hb hr (fun tt ht hW => ⟨_, rfl, e9_0, ht⟩) (fun _ h => by cases h) dX7_all_78
    replace hF := inn c_5_2 hF
    rcases Classical.em (p1 = (3 : Int32)) with c_5_3 | c_5_3
    ·
      replace hF := ip c_5_3 hF
      refine lv_tableIn (off := 50) (tgt := 65) hx hb dX7_all_15 (by rw [c_5_3]; decide) (by rw [c_5_3]; decide) (by rw [c_5_3]; decide) (by decide) ?_
      refine lv_aload_n hx hb dX7_all_65 rfl (lv_at hl 0 rfl) ?_
      refine gt_X7_3 (v := .ref a_now) hx hb hts i_f_X7_all_X7 hown hK hP 0 rfl (hts (.fieldLink RX7 35 "HushWatch" "now" "LHushWatch$State;") (List.mem_of_getElem? (i := 1) rfl)) rfl dX7_all_66 ?_
      refine lv_iconst (v := 0) hx hb dX7_all_69 (by decide) ?_
      refine lv_iload_n hx hb dX7_all_70 rfl (lv_at hl 1 rfl) ?_
      refine lv_iadd hx hb dX7_all_71 ?_
      refine lv_iconst (v := 2) hx hb dX7_all_72 (by decide) ?_
      refine lv_isub hx hb dX7_all_73 ?_
      replace hF := bd1_s hF
      obtain ⟨r_10, hc_11, hF⟩ := hF
      have hPc : va_P E.1 vwCl (w_X5_total E a_now a_now_row a_now_partners a_now_share a_now_leftOver c_now_askedCount c_now_outcome c_now_row) s.heap := hP.sub (ws' := [(a_now, .inr (6, [.ref a_now_row, .ref a_now_partners, .int c_now_askedCount, .int c_now_outcome, .ref a_now_share, .ref a_now_leftOver])), (a_now_row, .inl (E.2.1, 81, .inl c_now_row))]) [1, 2] rfl
      have hrc := va_recv hK hPc (ci := 6) (q0 := 0) rfl rfl
      refine pE_i (va_runV (As := [.int (((0 : Int32) + p1) - (2 : Int32))]) (rest := [])  ⟨hx, hb, hml, hown, hts⟩ (f_X5_total l E K (a_ := a_now) (a_row := a_now_row) (a_partners := a_now_partners) (a_share := a_now_share) (a_leftOver := a_now_leftOver) (p1 := ((0 : Int32) + p1) - (2 : Int32)) (c_askedCount := c_now_askedCount) (c_outcome := c_now_outcome) (c_row := c_now_row) hc_11) (cwV 1 hts g_f_X7_all_f_X5_total_160 rfl rfl rfl hd_X5_total ⟨Nat.le_of_ble_eq_true rfl, Nat.le_of_ble_eq_true rfl⟩) ⟨pP.blind, hrc, (pP.pre ⟨hK, hN⟩ hPc)⟩ rfl rfl hl.1 rfl (lv_room (Nat.le_of_ble_eq_true rfl)) dX7_all_74 ⟨Nat.le_of_ble_eq_true rfl, Nat.le_of_ble_eq_true rfl⟩) ?_
      refine lv_i2l (v := r_10.toInt64) hx hb dX7_all_77 rfl ?_
      rw [hQ]
      obtain e9_0 := inj1 hF
      exact W.lret (v := r_10.toInt64) hx hb hr (fun tt ht hW => ⟨_, rfl, e9_0, ht⟩) (fun _ h => by cases h) dX7_all_78
    replace hF := inn c_5_3 hF
    rcases Classical.em (p1 = (4 : Int32)) with c_5_4 | c_5_4
    ·
      replace hF := ip c_5_4 hF
      refine lv_tableIn (off := 64) (tgt := 79) hx hb dX7_all_15 (by rw [c_5_4]; decide) (by rw [c_5_4]; decide) (by rw [c_5_4]; decide) (by decide) ?_
      refine lv_aload_n hx hb dX7_all_79 rfl (lv_at hl 0 rfl) ?_
      refine gt_X7_3 (v := .ref a_now) hx hb hts i_f_X7_all_X7 hown hK hP 0 rfl (hts (.fieldLink RX7 35 "HushWatch" "now" "LHushWatch$State;") (List.mem_of_getElem? (i := 1) rfl)) rfl dX7_all_80 ?_
      refine lv_aload_n hx hb dX7_all_83 rfl (lv_at hl 0 rfl) ?_
      refine gt_X7_3 (v := .ref a_now) hx hb hts i_f_X7_all_X7 hown hK hP 0 rfl (hts (.fieldLink RX7 35 "HushWatch" "now" "LHushWatch$State;") (List.mem_of_getElem? (i := 1) rfl)) rfl dX7_all_84 ?_
      refine va_getN (D := E.1) (ci := 6) (v := .ref a_now_row) (C := RX5) (T := TX5) (N := 6) hx hb hts i_f_X7_all_X5 hown hK hP 1 rfl rfl 0 (by decide) (nx hN 12 rfl) (fun _ h9 => h9) rfl dX7_all_87 ?_
      refine lv_iconst (v := 4) hx hb dX7_all_90 (by decide) ?_
      refine va_iald hx hb hK hP 2 0 rfl rfl (vin rfl) dX7_all_91 ?_
      refine W.eq (g2 := F0 m 92 ls [.int (c_now_row 4), .ref a_now]) rfl ?_
      refine lv_i2l (v := (c_now_row 4).toInt64) hx hb dX7_all_92 rfl ?_
      refine lv_aload_n hx hb dX7_all_93 rfl (lv_at hl 0 rfl) ?_
      refine gt_X7_3 (v := .ref a_now) hx hb hts i_f_X7_all_X7 hown hK hP 0 rfl (hts (.fieldLink RX7 35 "HushWatch" "now" "LHushWatch$State;") (List.mem_of_getElem? (i := 1) rfl)) rfl dX7_all_94 ?_
      refine va_getN (D := E.1) (ci := 6) (v := .ref a_now_row) (C := RX5) (T := TX5) (N := 6) hx hb hts i_f_X7_all_X5 hown hK hP 1 rfl rfl 0 (by decide) (nx hN 12 rfl) (fun _ h9 => h9) rfl dX7_all_97 ?_
      refine lv_iconst (v := 5) hx hb dX7_all_100 (by decide) ?_
      refine va_iald hx hb hK hP 2 0 rfl rfl (vin rfl) dX7_all_101 ?_
      refine W.eq (g2 := F0 m 102 ls [.int (c_now_row 5), .long ((c_now_row 4).toInt64), .ref a_now]) rfl ?_
      refine lv_i2l (v := (c_now_row 5).toInt64) hx hb dX7_all_102 rfl ?_
      replace hF := bd1_s hF
      obtain ⟨r_12, hc_13, hF⟩ := hF
      have hPc : va_P E.1 vwCl (w_X5_valueOf E a_now a_now_row a_now_partners a_now_share a_now_leftOver c_now_askedCount c_now_outcome c_now_row) s.heap := hP.sub (ws' := [(a_now, .inr (6, [.ref a_now_row, .ref a_now_partners, .int c_now_askedCount, .int c_now_outcome, .ref a_now_share, .ref a_now_leftOver])), (a_now_row, .inl (E.2.1, 81, .inl c_now_row))]) [1, 2] rfl
      have hrc := va_recv hK hPc (ci := 6) (q0 := 0) rfl rfl
      refine pE_l (va_runV (As := [.long ((c_now_row 4).toInt64), .long ((c_now_row 5).toInt64)]) (rest := [])  ⟨hx, hb, hml, hown, hts⟩ (f_X5_valueOf l E (a_ := a_now) (a_row := a_now_row) (a_partners := a_now_partners) (a_share := a_now_share) (a_leftOver := a_now_leftOver) (p1 := (c_now_row 4).toInt64) (p2 := (c_now_row 5).toInt64) (c_askedCount := c_now_askedCount) (c_outcome := c_now_outcome) (c_row := c_now_row) hc_13) (cwV 2 hts g_f_X7_all_f_X5_valueOf_150 rfl rfl rfl hd_X5_valueOf ⟨Nat.le_of_ble_eq_true rfl, Nat.le_of_ble_eq_true rfl⟩) ⟨pP.blind, hrc, (pP.pre ⟨hK, hN⟩ hPc)⟩ rfl rfl hl.1 rfl (lv_room (Nat.le_of_ble_eq_true rfl)) dX7_all_103 ⟨Nat.le_of_ble_eq_true rfl, Nat.le_of_ble_eq_true rfl⟩) ?_
      rw [hQ]
      obtain e9_0 := inj1 hF
      exact W.lret (v := r_12) hx hb hr (fun tt ht hW => ⟨_, rfl, e9_0, ht⟩) (fun _ h => by cases h) dX7_all_106
    replace hF := inn c_5_4 hF
    rcases Classical.em (p1 = (5 : Int32)) with c_5_5 | c_5_5
    ·
      replace hF := ip c_5_5 hF
      refine lv_tableIn (off := 92) (tgt := 107) hx hb dX7_all_15 (by rw [c_5_5]; decide) (by rw [c_5_5]; decide) (by rw [c_5_5]; decide) (by decide) ?_
      refine lv_aload_n hx hb dX7_all_107 rfl (lv_at hl 0 rfl) ?_
      refine gt_X7_3 (v := .ref a_now) hx hb hts i_f_X7_all_X7 hown hK hP 0 rfl (hts (.fieldLink RX7 35 "HushWatch" "now" "LHushWatch$State;") (List.mem_of_getElem? (i := 1) rfl)) rfl dX7_all_108 ?_
      refine lv_aload_n hx hb dX7_all_111 rfl (lv_at hl 0 rfl) ?_
      refine gt_X7_3 (v := .ref a_now) hx hb hts i_f_X7_all_X7 hown hK hP 0 rfl (hts (.fieldLink RX7 35 "HushWatch" "now" "LHushWatch$State;") (List.mem_of_getElem? (i := 1) rfl)) rfl dX7_all_112 ?_
      refine lv_iconst (v := 0) hx hb dX7_all_115 (by decide) ?_
      replace hF := bd1_s hF
      obtain ⟨r_14, hc_15, hF⟩ := hF
      have hPc : va_P E.1 vwCl (w_X5_total E a_now a_now_row a_now_partners a_now_share a_now_leftOver c_now_askedCount c_now_outcome c_now_row) s.heap := hP.sub (ws' := [(a_now, .inr (6, [.ref a_now_row, .ref a_now_partners, .int c_now_askedCount, .int c_now_outcome, .ref a_now_share, .ref a_now_leftOver])), (a_now_row, .inl (E.2.1, 81, .inl c_now_row))]) [1, 2] rfl
      have hrc := va_recv hK hPc (ci := 6) (q0 := 0) rfl rfl
      refine pE_i (va_runV (As := [.int (0 : Int32)]) (rest := [.ref a_now])  ⟨hx, hb, hml, hown, hts⟩ (f_X5_total l E K (a_ := a_now) (a_row := a_now_row) (a_partners := a_now_partners) (a_share := a_now_share) (a_leftOver := a_now_leftOver) (p1 := (0 : Int32)) (c_askedCount := c_now_askedCount) (c_outcome := c_now_outcome) (c_row := c_now_row) hc_15) (cwV 1 hts g_f_X7_all_f_X5_total_160 rfl rfl rfl hd_X5_total ⟨Nat.le_of_ble_eq_true rfl, Nat.le_of_ble_eq_true rfl⟩) ⟨pP.blind, hrc, (pP.pre ⟨hK, hN⟩ hPc)⟩ rfl rfl hl.1 rfl (lv_room (Nat.le_of_ble_eq_true rfl)) dX7_all_116 ⟨Nat.le_of_ble_eq_true rfl, Nat.le_of_ble_eq_true rfl⟩) ?_
      refine lv_i2l (v := r_14.toInt64) hx hb dX7_all_119 rfl ?_
      refine lv_aload_n hx hb dX7_all_120 rfl (lv_at hl 0 rfl) ?_
      refine gt_X7_3 (v := .ref a_now) hx hb hts i_f_X7_all_X7 hown hK hP 0 rfl (hts (.fieldLink RX7 35 "HushWatch" "now" "LHushWatch$State;") (List.mem_of_getElem? (i := 1) rfl)) rfl dX7_all_121 ?_
      refine lv_iconst (v := 1) hx hb dX7_all_124 (by decide) ?_
      replace hF := bd1_s hF
      obtain ⟨r_16, hc_17, hF⟩ := hF
      have hPc : va_P E.1 vwCl (w_X5_total E a_now a_now_row a_now_partners a_now_share a_now_leftOver c_now_askedCount c_now_outcome c_now_row) s.heap := hP.sub (ws' := [(a_now, .inr (6, [.ref a_now_row, .ref a_now_partners, .int c_now_askedCount, .int c_now_outcome, .ref a_now_share, .ref a_now_leftOver])), (a_now_row, .inl (E.2.1, 81, .inl c_now_row))]) [1, 2] rfl
      have hrc := va_recv hK hPc (ci := 6) (q0 := 0) rfl rfl
      refine pE_i (va_runV (As := [.int (1 : Int32)]) (rest := [.long r_14.toInt64, .ref a_now])  ⟨hx, hb, hml, hown, hts⟩ (f_X5_total l E K (a_ := a_now) (a_row := a_now_row) (a_partners := a_now_partners) (a_share := a_now_share) (a_leftOver := a_now_leftOver) (p1 := (1 : Int32)) (c_askedCount := c_now_askedCount) (c_outcome := c_now_outcome) (c_row := c_now_row) hc_17) (cwV 1 hts g_f_X7_all_f_X5_total_160 rfl rfl rfl hd_X5_total ⟨Nat.le_of_ble_eq_true rfl, Nat.le_of_ble_eq_true rfl⟩) ⟨pP.blind, hrc, (pP.pre ⟨hK, hN⟩ hPc)⟩ rfl rfl hl.1 rfl (lv_room (Nat.le_of_ble_eq_true rfl)) dX7_all_125 ⟨Nat.le_of_ble_eq_true rfl, Nat.le_of_ble_eq_true rfl⟩) ?_
      refine lv_i2l (v := r_16.toInt64) hx hb dX7_all_128 rfl ?_
      replace hF := bd1_s hF
      obtain ⟨r_18, hc_19, hF⟩ := hF
      have hPc : va_P E.1 vwCl (w_X5_valueOf E a_now a_now_row a_now_partners a_now_share a_now_leftOver c_now_askedCount c_now_outcome c_now_row) s.heap := hP.sub (ws' := [(a_now, .inr (6, [.ref a_now_row, .ref a_now_partners, .int c_now_askedCount, .int c_now_outcome, .ref a_now_share, .ref a_now_leftOver])), (a_now_row, .inl (E.2.1, 81, .inl c_now_row))]) [1, 2] rfl
      have hrc := va_recv hK hPc (ci := 6) (q0 := 0) rfl rfl
      refine pE_l (va_runV (As := [.long r_14.toInt64, .long r_16.toInt64]) (rest := [])  ⟨hx, hb, hml, hown, hts⟩ (f_X5_valueOf l E (a_ := a_now) (a_row := a_now_row) (a_partners := a_now_partners) (a_share := a_now_share) (a_leftOver := a_now_leftOver) (p1 := r_14.toInt64) (p2 := r_16.toInt64) (c_askedCount := c_now_askedCount) (c_outcome := c_now_outcome) (c_row := c_now_row) hc_19) (cwV 2 hts g_f_X7_all_f_X5_valueOf_150 rfl rfl rfl hd_X5_valueOf ⟨Nat.le_of_ble_eq_true rfl, Nat.le_of_ble_eq_true rfl⟩) ⟨pP.blind, hrc, (pP.pre ⟨hK, hN⟩ hPc)⟩ rfl rfl hl.1 rfl (lv_room (Nat.le_of_ble_eq_true rfl)) dX7_all_129 ⟨Nat.le_of_ble_eq_true rfl, Nat.le_of_ble_eq_true rfl⟩) ?_
      rw [hQ]
      obtain e9_0 := inj1 hF
      exact W.lret (v := r_18) hx hb hr (fun tt ht hW => ⟨_, rfl, e9_0, ht⟩) (fun _ h => by cases h) dX7_all_132
    replace hF := inn c_5_5 hF
    refine lv_tableOut (tgt := 133) hx hb dX7_all_15 (by have t0 : (0 : Int32).toInt = 0 := (by decide); have t1 : (1 : Int32).toInt = 1 := (by decide); have t2 : (2 : Int32).toInt = 2 := (by decide); have t3 : (3 : Int32).toInt = 3 := (by decide); have t4 : (4 : Int32).toInt = 4 := (by decide); have t5 : (5 : Int32).toInt = 5 := (by decide); simp only [← Int32.toInt_inj, t0, t1, t2, t3, t4, t5] at c_5_0 c_5_1 c_5_2 c_5_3 c_5_4 c_5_5; omega) (by decide) ?_
    refine lv_ldc2 (v := -100000000) hx hb hown (hts (.constantLong RX7 154 (-100000000)) (List.mem_of_getElem? (i := 2) rfl)) dX7_all_133 ?_
    rw [hQ]
    obtain e9_0 := inj1 hF
    exact W.lret (v := (-100000000 : Int64)) hx hb hr (fun tt ht hW => ⟨_, rfl, e9_0, ht⟩) (fun _ h => by cases h) dX7_all_136
  ·
    replace hF := ip c_4 hF
    refine lv_ldc2 (v := -100000000) hx hb hown (hts (.constantLong RX7 154 (-100000000)) (List.mem_of_getElem? (i := 2) rfl)) dX7_all_10 ?_
    rw [hQ]
    obtain e9_0 := inj1 hF
    exact W.lret (v := (-100000000 : Int64)) hx hb hr (fun tt ht hW => ⟨_, rfl, e9_0, ht⟩) (fun _ h => by cases h) dX7_all_13

def F_X7_tryMove (K : Nat) (p1 : Int32) (p2 : Int32) (p3 : Int32) (c_now_row : Nat → Int32) (c_trial_row : Nat → Int32) (c_trial_partners : Nat → Int32) (c_trial_askedCount : Int32) (c_trial_outcome : Int32) (c_trial_share : Nat → Int32) (c_trial_leftOver : Nat → Int32) : Option (Int32 × (Nat → Int32) × (Nat → Int32) × Int32 × Int32 × (Nat → Int32) × (Nat → Int32)) :=
  bd1 (F_X5_copyFrom c_trial_row c_now_row) (fun w_1 => bd7 (F_X5_doAct K (0 : Int32) p1 p2 p3 w_1 c_trial_partners c_trial_askedCount c_trial_outcome c_trial_share c_trial_leftOver) (fun r_3 w_4 w_5 w_6 w_7 w_8 w_9 => some (r_3, w_4, w_5, w_6, w_7, w_8, w_9)))
abbrev w_X7_tryMove (E : EE) (a_ a_tape a_reader a_scripts a_now a_trial a_kept a_book a_keptBook a_history a_draws a_refused a_now_row a_now_partners a_now_share a_now_leftOver a_trial_row a_trial_partners a_trial_share a_trial_leftOver : Nat) (c_hasImage : Int32) (c_now_askedCount : Int32) (c_now_outcome : Int32) (c_now_row : Nat → Int32) (c_trial_askedCount : Int32) (c_trial_outcome : Int32) (c_trial_row : Nat → Int32) (c_trial_partners : Nat → Int32) (c_trial_share : Nat → Int32) (c_trial_leftOver : Nat → Int32) : va_W := [(a_, .inr (8, [.ref a_tape, .ref a_reader, .ref a_scripts, .ref a_now, .ref a_trial, .ref a_kept, .ref a_book, .ref a_keptBook, .ref a_history, .ref a_draws, .ref a_refused, .int c_hasImage])), (a_now, .inr (6, [.ref a_now_row, .ref a_now_partners, .int c_now_askedCount, .int c_now_outcome, .ref a_now_share, .ref a_now_leftOver])), (a_now_row, .inl (E.2.1, 81, .inl c_now_row)), (a_trial, .inr (6, [.ref a_trial_row, .ref a_trial_partners, .int c_trial_askedCount, .int c_trial_outcome, .ref a_trial_share, .ref a_trial_leftOver])), (a_trial_row, .inl (E.2.1, 81, .inl c_trial_row)), (a_trial_partners, .inl (E.2.1, 8, .inl c_trial_partners)), (a_trial_share, .inl (E.2.1, 2, .inl c_trial_share)), (a_trial_leftOver, .inl (E.2.1, 2, .inl c_trial_leftOver))]
def v_f_X7_tryMove : List Cond := .code yX7_tryMove cX7_tryMove 4 (some .int) :: ([.fieldLink RX7 39 "HushWatch" "trial" "LHushWatch$State;", .fieldLink RX7 35 "HushWatch" "now" "LHushWatch$State;", .methodLink RX7 237 yX5_copyFrom, .instanceMethod yX5_copyFrom, .selects RX5 yX5_copyFrom yX5_copyFrom, .initialized RX5, .methodLink RX7 241 yX5_doAct, .instanceMethod yX5_doAct, .selects RX5 yX5_doAct yX5_doAct] ++ (wsX70 ++ (v_f_X5_copyFrom ++ (v_f_X5_doAct ++ ([])))))
theorem gw_f_X7_tryMove : v_f_X7_tryMove.all goodWord = true := by decide +kernel
theorem i_f_X7_tryMove_X7 : ∀ w ∈ wsX70, w ∈ v_f_X7_tryMove := fun _ h => List.mem_cons_of_mem _ (List.mem_append_right _ (List.mem_append_left _ h))
theorem g_f_X7_tryMove_f_X5_copyFrom_237 : GoodIn v_f_X7_tryMove (wsV RX7 237 RX5 yX5_copyFrom v_f_X5_copyFrom) := goodIn_app (goodIn_of _ (by decide +kernel)) (goodIn_sub (fun _ h => List.mem_cons_of_mem _ (List.mem_append_right _ (List.mem_append_right _ (List.mem_append_left _ h)))) gw_f_X5_copyFrom)
theorem g_f_X7_tryMove_f_X5_doAct_241 : GoodIn v_f_X7_tryMove (wsV RX7 241 RX5 yX5_doAct v_f_X5_doAct) := goodIn_app (goodIn_of _ (by decide +kernel)) (goodIn_sub (fun _ h => List.mem_cons_of_mem _ (List.mem_append_right _ (List.mem_append_right _ (List.mem_append_right _ (List.mem_append_left _ h))))) gw_f_X5_doAct)
theorem hd_X7_tryMove : yX7_tryMove.cls = RX7 ∧ yX7_tryMove.cls ≠ "java/lang/invoke/MethodHandle" ∧ yX7_tryMove.cls ≠ "java/lang/invoke/VarHandle" ∧ (parseMethodDescriptor yX7_tryMove.desc).map (fun d => d.parameters.length) = some 3 := by decide +kernel
set_option maxHeartbeats 4000000 in
set_option maxRecDepth 100000 in
theorem f_X7_tryMove (l : Launch) (E : EE) (sz : Nat) (K : Nat) {a_ a_tape a_reader a_scripts a_now a_trial a_kept a_book a_keptBook a_history a_draws a_refused a_now_row a_now_partners a_now_share a_now_leftOver a_trial_row a_trial_partners a_trial_share a_trial_leftOver : Nat} {p1 : Int32} {p2 : Int32} {p3 : Int32} {c_hasImage : Int32} {c_now_askedCount : Int32} {c_now_outcome : Int32} {c_now_row : Nat → Int32} {c_trial_askedCount : Int32} {c_trial_outcome : Int32} {c_trial_row : Nat → Int32} {c_trial_partners : Nat → Int32} {c_trial_share : Nat → Int32} {c_trial_leftOver : Nat → Int32} {rr : Int32} {n_trial_row : Nat → Int32} {n_trial_partners : Nat → Int32} {n_trial_askedCount : Int32} {n_trial_outcome : Int32} {n_trial_share : Nat → Int32} {n_trial_leftOver : Nat → Int32} (hF : F_X7_tryMove K p1 p2 p3 c_now_row c_trial_row c_trial_partners c_trial_askedCount c_trial_outcome c_trial_share c_trial_leftOver = some (rr, n_trial_row, n_trial_partners, n_trial_askedCount, n_trial_outcome, n_trial_share, n_trial_leftOver)) : Met l yX7_tryMove v_f_X7_tryMove (({ frames := 5, cells := 0, slots := 0, locals := 124 } : Room)) (va_Pc [.ref a_, .int p1, .int p2, .int p3] (pW E sz (w_X7_tryMove E a_ a_tape a_reader a_scripts a_now a_trial a_kept a_book a_keptBook a_history a_draws a_refused a_now_row a_now_partners a_now_share a_now_leftOver a_trial_row a_trial_partners a_trial_share a_trial_leftOver c_hasImage c_now_askedCount c_now_outcome c_now_row c_trial_askedCount c_trial_outcome c_trial_row c_trial_partners c_trial_share c_trial_leftOver))) (va_Qi (fun (q : Int32) (_u : Unit) => q = rr) (fun (_u : Unit) tt => va_P E.1 vwCl (w_X7_tryMove E a_ a_tape a_reader a_scripts a_now a_trial a_kept a_book a_keptBook a_history a_draws a_refused a_now_row a_now_partners a_now_share a_now_leftOver a_trial_row a_trial_partners a_trial_share a_trial_leftOver c_hasImage c_now_askedCount c_now_outcome c_now_row n_trial_askedCount n_trial_outcome n_trial_row n_trial_partners n_trial_share n_trial_leftOver) tt.heap ∧ va_D (va_A (w_X7_tryMove E a_ a_tape a_reader a_scripts a_now a_trial a_kept a_book a_keptBook a_history a_draws a_refused a_now_row a_now_partners a_now_share a_now_leftOver a_trial_row a_trial_partners a_trial_share a_trial_leftOver c_hasImage c_now_askedCount c_now_outcome c_now_row c_trial_askedCount c_trial_outcome c_trial_row c_trial_partners c_trial_share c_trial_leftOver) sz) (w_X7_tryMove E a_ a_tape a_reader a_scripts a_now a_trial a_kept a_book a_keptBook a_history a_draws a_refused a_now_row a_now_partners a_now_share a_now_leftOver a_trial_row a_trial_partners a_trial_share a_trial_leftOver c_hasImage c_now_askedCount c_now_outcome c_now_row n_trial_askedCount n_trial_outcome n_trial_row n_trial_partners n_trial_share n_trial_leftOver)) (va_A (w_X7_tryMove E a_ a_tape a_reader a_scripts a_now a_trial a_kept a_book a_keptBook a_history a_draws a_refused a_now_row a_now_partners a_now_share a_now_leftOver a_trial_row a_trial_partners a_trial_share a_trial_leftOver c_hasImage c_now_askedCount c_now_outcome c_now_row c_trial_askedCount c_trial_outcome c_trial_row c_trial_partners c_trial_share c_trial_leftOver) sz)) 0 0 (va_A (w_X7_tryMove E a_ a_tape a_reader a_scripts a_now a_trial a_kept a_book a_keptBook a_history a_draws a_refused a_now_row a_now_partners a_now_share a_now_leftOver a_trial_row a_trial_partners a_trial_share a_trial_leftOver c_hasImage c_now_askedCount c_now_outcome c_now_row c_trial_askedCount c_trial_outcome c_trial_row c_trial_partners c_trial_share c_trial_leftOver) sz) := by
  refine Met.ofW (cc := cX7_tryMove) (maxL := 4) (ret := (some .int)) (by decide) rfl ?_
  intro p e s m args below meth c s₁ B hml hv
  obtain ⟨rfl, hsz, ⟨hK, hN⟩, hP, hD0⟩ := hv
  have hx := B.exec
  have hb := B.bytes
  have hr := B.returns
  have hts := atoms_spec (ws := v_f_X7_tryMove) B.pre
  have hown : s.vm.findClass RX7 = some m.cls := own_of hd_X7_tryMove.1 (findClass_of_methodNamed B.named)
  have hlocks : meth.locks = false := B.notSynchronized
  subst hsz
  have hD := hD0.self (sz := s.heap.size)
  generalize hAe : va_A (w_X7_tryMove E a_ a_tape a_reader a_scripts a_now a_trial a_kept a_book a_keptBook a_history a_draws a_refused a_now_row a_now_partners a_now_share a_now_leftOver a_trial_row a_trial_partners a_trial_share a_trial_leftOver c_hasImage c_now_askedCount c_now_outcome c_now_row c_trial_askedCount c_trial_outcome c_trial_row c_trial_partners c_trial_share c_trial_leftOver) s.heap.size = A at hD ⊢
  have hA : ∀ q : Nat, s.heap.size ≤ q → A q := fun q h => by rw [← hAe]; exact Or.inr h
  have hS : va_S A s.heap s.heap [] := va_S.rf
  have hl := lv_entry ([.ref a_, .int p1, .int p2, .int p3]) (n := 4) (Nat.le_of_ble_eq_true rfl)
  rw [lg_entry_eq]
  generalize (lg_sl ([.ref a_, .int p1, .int p2, .int p3]) ++ List.replicate (4 - (lg_sl ([.ref a_, .int p1, .int p2, .int p3])).length) Slot.unset).toArray = ls at hl ⊢
  have hl : lv_has ls 4 [(0, .ref a_), (1, .int p1), (2, .int p2), (3, .int p3)] := hl
  obtain ⟨Q, hQ⟩ : ∃ Q : State → Prop, Q = MQ below (va_Qi (fun (q : Int32) (_u : Unit) => q = rr) (fun (_u : Unit) tt => va_P E.1 vwCl (w_X7_tryMove E a_ a_tape a_reader a_scripts a_now a_trial a_kept a_book a_keptBook a_history a_draws a_refused a_now_row a_now_partners a_now_share a_now_leftOver a_trial_row a_trial_partners a_trial_share a_trial_leftOver c_hasImage c_now_askedCount c_now_outcome c_now_row n_trial_askedCount n_trial_outcome n_trial_row n_trial_partners n_trial_share n_trial_leftOver) tt.heap ∧ va_D A (w_X7_tryMove E a_ a_tape a_reader a_scripts a_now a_trial a_kept a_book a_keptBook a_history a_draws a_refused a_now_row a_now_partners a_now_share a_now_leftOver a_trial_row a_trial_partners a_trial_share a_trial_leftOver c_hasImage c_now_askedCount c_now_outcome c_now_row n_trial_askedCount n_trial_outcome n_trial_row n_trial_partners n_trial_share n_trial_leftOver)) A) #[Value.ref a_, Value.int p1, Value.int p2, Value.int p3] s 0 0 A := ⟨_, rfl⟩
  rw [← hQ]
  change W p l e ({ frames := 5, cells := 0, slots := 0, locals := 124 } : Room) s m #[Value.ref a_, Value.int p1, Value.int p2, Value.int p3] below meth c s.heap [] 0 0 Q (F0 m 0 ls [])
  suffices hh9 : ∀ (H : Heap) (locs : List Loc), va_P E.1 vwCl (w_X7_tryMove E a_ a_tape a_reader a_scripts a_now a_trial a_kept a_book a_keptBook a_history a_draws a_refused a_now_row a_now_partners a_now_share a_now_leftOver a_trial_row a_trial_partners a_trial_share a_trial_leftOver c_hasImage c_now_askedCount c_now_outcome c_now_row c_trial_askedCount c_trial_outcome c_trial_row c_trial_partners c_trial_share c_trial_leftOver) H → va_D A (w_X7_tryMove E a_ a_tape a_reader a_scripts a_now a_trial a_kept a_book a_keptBook a_history a_draws a_refused a_now_row a_now_partners a_now_share a_now_leftOver a_trial_row a_trial_partners a_trial_share a_trial_leftOver c_hasImage c_now_askedCount c_now_outcome c_now_row c_trial_askedCount c_trial_outcome c_trial_row c_trial_partners c_trial_share c_trial_leftOver) → va_S A s.heap H locs → W p l e ({ frames := 5, cells := 0, slots := 0, locals := 124 } : Room) s m #[Value.ref a_, Value.int p1, Value.int p2, Value.int p3] below meth c H locs 0 0 Q (F0 m 0 ls []) from hh9 s.heap [] hP hD hS
  clear hP hD hS
  intro H locs hP hD hS
  replace hP : va_P E.1 vwCl [(a_, .inr (8, [.ref a_tape, .ref a_reader, .ref a_scripts, .ref a_now, .ref a_trial, .ref a_kept, .ref a_book, .ref a_keptBook, .ref a_history, .ref a_draws, .ref a_refused, .int c_hasImage])), (a_now, .inr (6, [.ref a_now_row, .ref a_now_partners, .int c_now_askedCount, .int c_now_outcome, .ref a_now_share, .ref a_now_leftOver])), (a_now_row, .inl (E.2.1, 81, .inl c_now_row)), (a_trial, .inr (6, [.ref a_trial_row, .ref a_trial_partners, .int c_trial_askedCount, .int c_trial_outcome, .ref a_trial_share, .ref a_trial_leftOver])), (a_trial_row, .inl (E.2.1, 81, .inl c_trial_row)), (a_trial_partners, .inl (E.2.1, 8, .inl c_trial_partners)), (a_trial_share, .inl (E.2.1, 2, .inl c_trial_share)), (a_trial_leftOver, .inl (E.2.1, 2, .inl c_trial_leftOver))] H := hP
  replace hD : va_D A [(a_, .inr (8, [.ref a_tape, .ref a_reader, .ref a_scripts, .ref a_now, .ref a_trial, .ref a_kept, .ref a_book, .ref a_keptBook, .ref a_history, .ref a_draws, .ref a_refused, .int c_hasImage])), (a_now, .inr (6, [.ref a_now_row, .ref a_now_partners, .int c_now_askedCount, .int c_now_outcome, .ref a_now_share, .ref a_now_leftOver])), (a_now_row, .inl (E.2.1, 81, .inl c_now_row)), (a_trial, .inr (6, [.ref a_trial_row, .ref a_trial_partners, .int c_trial_askedCount, .int c_trial_outcome, .ref a_trial_share, .ref a_trial_leftOver])), (a_trial_row, .inl (E.2.1, 81, .inl c_trial_row)), (a_trial_partners, .inl (E.2.1, 8, .inl c_trial_partners)), (a_trial_share, .inl (E.2.1, 2, .inl c_trial_share)), (a_trial_leftOver, .inl (E.2.1, 2, .inl c_trial_leftOver))] := hD
  unfold F_X7_tryMove at hF
  refine lv_aload_n hx hb dX7_tryMove_0 rfl (lv_at hl 0 rfl) ?_
  refine gt_X7_4 (v := .ref a_trial) hx hb hts i_f_X7_tryMove_X7 hown hK hP 0 rfl (hts (.fieldLink RX7 39 "HushWatch" "trial" "LHushWatch$State;") (List.mem_of_getElem? (i := 1) rfl)) rfl dX7_tryMove_1 ?_
  refine lv_aload_n hx hb dX7_tryMove_4 rfl (lv_at hl 0 rfl) ?_
  refine gt_X7_3 (v := .ref a_now) hx hb hts i_f_X7_tryMove_X7 hown hK hP 0 rfl (hts (.fieldLink RX7 35 "HushWatch" "now" "LHushWatch$State;") (List.mem_of_getElem? (i := 2) rfl)) rfl dX7_tryMove_5 ?_
  replace hF := bd1_s hF
  obtain ⟨w_1, hc_2, hF⟩ := hF
  obtain ⟨hPc, hDc, hFc⟩ := wcut (wc := (w_X5_copyFrom E a_trial a_trial_row a_trial_partners a_trial_share a_trial_leftOver a_now a_now_row a_now_partners a_now_share a_now_leftOver c_trial_askedCount c_trial_outcome c_trial_row c_now_askedCount c_now_outcome c_now_row)) hP hD hS hA [3, 4, 1, 2] (by decide) rfl
  have hrc := va_recv hK hPc (ci := 6) (q0 := 0) rfl rfl
  refine cE_v (wc := (w_X5_copyFrom E a_trial a_trial_row a_trial_partners a_trial_share a_trial_leftOver a_now a_now_row a_now_partners a_now_share a_now_leftOver c_trial_askedCount c_trial_outcome c_trial_row c_now_askedCount c_now_outcome c_now_row)) (wr := [(a_, .inr (8, [.ref a_tape, .ref a_reader, .ref a_scripts, .ref a_now, .ref a_trial, .ref a_kept, .ref a_book, .ref a_keptBook, .ref a_history, .ref a_draws, .ref a_refused, .int c_hasImage])), (a_trial_partners, .inl (E.2.1, 8, .inl c_trial_partners)), (a_trial_share, .inl (E.2.1, 2, .inl c_trial_share)), (a_trial_leftOver, .inl (E.2.1, 2, .inl c_trial_leftOver))]) (w1 := (w_X5_copyFrom E a_trial a_trial_row a_trial_partners a_trial_share a_trial_leftOver a_now a_now_row a_now_partners a_now_share a_now_leftOver c_trial_askedCount c_trial_outcome w_1 c_now_askedCount c_now_outcome c_now_row)) (va_runV (As := [.ref a_now]) (rest := [])  ⟨hx, hb, hml, hown, hts⟩ (f_X5_copyFrom l E H.size (a_ := a_trial) (a_row := a_trial_row) (a_partners := a_trial_partners) (a_share := a_trial_share) (a_leftOver := a_trial_leftOver) (a_o1 := a_now) (a_o1_row := a_now_row) (a_o1_partners := a_now_partners) (a_o1_share := a_now_share) (a_o1_leftOver := a_now_leftOver) (c_askedCount := c_trial_askedCount) (c_outcome := c_trial_outcome) (c_row := c_trial_row) (c_o1_askedCount := c_now_askedCount) (c_o1_outcome := c_now_outcome) (c_o1_row := c_now_row) hc_2) (cwV 1 hts g_f_X7_tryMove_f_X5_copyFrom_237 rfl rfl rfl hd_X5_copyFrom ⟨Nat.le_of_ble_eq_true rfl, Nat.le_of_ble_eq_true rfl⟩) ⟨pW.blind, hrc, (pW.pre ⟨hK, hN⟩ hPc hDc)⟩ rfl rfl hl.1 rfl (lv_room (Nat.le_of_ble_eq_true rfl)) dX7_tryMove_8 ⟨Nat.le_of_ble_eq_true rfl, Nat.le_of_ble_eq_true rfl⟩) hS hFc hP hD [3, 4, 1, 2] [0, 5, 6, 7] rfl rfl (by decide) (by decide) (fun H locs hP hD hS => ?_)
  replace hP : va_P E.1 vwCl [(a_, .inr (8, [.ref a_tape, .ref a_reader, .ref a_scripts, .ref a_now, .ref a_trial, .ref a_kept, .ref a_book, .ref a_keptBook, .ref a_history, .ref a_draws, .ref a_refused, .int c_hasImage])), (a_trial_partners, .inl (E.2.1, 8, .inl c_trial_partners)), (a_trial_share, .inl (E.2.1, 2, .inl c_trial_share)), (a_trial_leftOver, .inl (E.2.1, 2, .inl c_trial_leftOver)), (a_trial, .inr (6, [.ref a_trial_row, .ref a_trial_partners, .int c_trial_askedCount, .int c_trial_outcome, .ref a_trial_share, .ref a_trial_leftOver])), (a_trial_row, .inl (E.2.1, 81, .inl w_1)), (a_now, .inr (6, [.ref a_now_row, .ref a_now_partners, .int c_now_askedCount, .int c_now_outcome, .ref a_now_share, .ref a_now_leftOver])), (a_now_row, .inl (E.2.1, 81, .inl c_now_row))] H := hP
  replace hD : va_D A [(a_, .inr (8, [.ref a_tape, .ref a_reader, .ref a_scripts, .ref a_now, .ref a_trial, .ref a_kept, .ref a_book, .ref a_keptBook, .ref a_history, .ref a_draws, .ref a_refused, .int c_hasImage])), (a_trial_partners, .inl (E.2.1, 8, .inl c_trial_partners)), (a_trial_share, .inl (E.2.1, 2, .inl c_trial_share)), (a_trial_leftOver, .inl (E.2.1, 2, .inl c_trial_leftOver)), (a_trial, .inr (6, [.ref a_trial_row, .ref a_trial_partners, .int c_trial_askedCount, .int c_trial_outcome, .ref a_trial_share, .ref a_trial_leftOver])), (a_trial_row, .inl (E.2.1, 81, .inl w_1)), (a_now, .inr (6, [.ref a_now_row, .ref a_now_partners, .int c_now_askedCount, .int c_now_outcome, .ref a_now_share, .ref a_now_leftOver])), (a_now_row, .inl (E.2.1, 81, .inl c_now_row))] := hD
  refine lv_aload_n hx hb dX7_tryMove_11 rfl (lv_at hl 0 rfl) ?_
  refine gt_X7_4 (v := .ref a_trial) hx hb hts i_f_X7_tryMove_X7 hown hK hP 0 rfl (hts (.fieldLink RX7 39 "HushWatch" "trial" "LHushWatch$State;") (List.mem_of_getElem? (i := 1) rfl)) rfl dX7_tryMove_12 ?_
  refine lv_iconst (v := 0) hx hb dX7_tryMove_15 (by decide) ?_
  refine lv_iload_n hx hb dX7_tryMove_16 rfl (lv_at hl 1 rfl) ?_
  refine lv_iload_n hx hb dX7_tryMove_17 rfl (lv_at hl 2 rfl) ?_
  refine lv_iload_n hx hb dX7_tryMove_18 rfl (lv_at hl 3 rfl) ?_
  replace hF := bd7_s hF
  obtain ⟨r_3, w_4, w_5, w_6, w_7, w_8, w_9, hc_10, hF⟩ := hF
  obtain ⟨hPc, hDc, hFc⟩ := wcut (wc := (w_X5_doAct E a_trial a_trial_row a_trial_partners a_trial_share a_trial_leftOver c_trial_askedCount c_trial_outcome w_1 c_trial_partners c_trial_share c_trial_leftOver)) hP hD hS hA [4, 5, 1, 2, 3] (by decide) rfl
  have hrc := va_recv hK hPc (ci := 6) (q0 := 0) rfl rfl
  refine cE_i (wc := (w_X5_doAct E a_trial a_trial_row a_trial_partners a_trial_share a_trial_leftOver c_trial_askedCount c_trial_outcome w_1 c_trial_partners c_trial_share c_trial_leftOver)) (wr := [(a_, .inr (8, [.ref a_tape, .ref a_reader, .ref a_scripts, .ref a_now, .ref a_trial, .ref a_kept, .ref a_book, .ref a_keptBook, .ref a_history, .ref a_draws, .ref a_refused, .int c_hasImage])), (a_now, .inr (6, [.ref a_now_row, .ref a_now_partners, .int c_now_askedCount, .int c_now_outcome, .ref a_now_share, .ref a_now_leftOver])), (a_now_row, .inl (E.2.1, 81, .inl c_now_row))]) (w1 := (w_X5_doAct E a_trial a_trial_row a_trial_partners a_trial_share a_trial_leftOver w_6 w_7 w_4 w_5 w_8 w_9)) (va_runV (As := [.int (0 : Int32), .int p1, .int p2, .int p3]) (rest := [])  ⟨hx, hb, hml, hown, hts⟩ (f_X5_doAct l E H.size K (a_ := a_trial) (a_row := a_trial_row) (a_partners := a_trial_partners) (a_share := a_trial_share) (a_leftOver := a_trial_leftOver) (p1 := (0 : Int32)) (p2 := p1) (p3 := p2) (p4 := p3) (c_askedCount := c_trial_askedCount) (c_outcome := c_trial_outcome) (c_row := w_1) (c_partners := c_trial_partners) (c_share := c_trial_share) (c_leftOver := c_trial_leftOver) hc_10) (cwV 4 hts g_f_X7_tryMove_f_X5_doAct_241 rfl rfl rfl hd_X5_doAct ⟨Nat.le_of_ble_eq_true rfl, Nat.le_of_ble_eq_true rfl⟩) ⟨pW.blind, hrc, (pW.pre ⟨hK, hN⟩ hPc hDc)⟩ rfl rfl hl.1 rfl (lv_room (Nat.le_of_ble_eq_true rfl)) dX7_tryMove_19 ⟨Nat.le_of_ble_eq_true rfl, Nat.le_of_ble_eq_true rfl⟩) hS hFc hP hD [4, 5, 1, 2, 3] [0, 6, 7] rfl rfl (by decide) (by decide) (fun H locs hP hD hS => ?_)
  replace hP : va_P E.1 vwCl [(a_, .inr (8, [.ref a_tape, .ref a_reader, .ref a_scripts, .ref a_now, .ref a_trial, .ref a_kept, .ref a_book, .ref a_keptBook, .ref a_history, .ref a_draws, .ref a_refused, .int c_hasImage])), (a_now, .inr (6, [.ref a_now_row, .ref a_now_partners, .int c_now_askedCount, .int c_now_outcome, .ref a_now_share, .ref a_now_leftOver])), (a_now_row, .inl (E.2.1, 81, .inl c_now_row)), (a_trial, .inr (6, [.ref a_trial_row, .ref a_trial_partners, .int w_6, .int w_7, .ref a_trial_share, .ref a_trial_leftOver])), (a_trial_row, .inl (E.2.1, 81, .inl w_4)), (a_trial_partners, .inl (E.2.1, 8, .inl w_5)), (a_trial_share, .inl (E.2.1, 2, .inl w_8)), (a_trial_leftOver, .inl (E.2.1, 2, .inl w_9))] H := hP
  replace hD : va_D A [(a_, .inr (8, [.ref a_tape, .ref a_reader, .ref a_scripts, .ref a_now, .ref a_trial, .ref a_kept, .ref a_book, .ref a_keptBook, .ref a_history, .ref a_draws, .ref a_refused, .int c_hasImage])), (a_now, .inr (6, [.ref a_now_row, .ref a_now_partners, .int c_now_askedCount, .int c_now_outcome, .ref a_now_share, .ref a_now_leftOver])), (a_now_row, .inl (E.2.1, 81, .inl c_now_row)), (a_trial, .inr (6, [.ref a_trial_row, .ref a_trial_partners, .int w_6, .int w_7, .ref a_trial_share, .ref a_trial_leftOver])), (a_trial_row, .inl (E.2.1, 81, .inl w_4)), (a_trial_partners, .inl (E.2.1, 8, .inl w_5)), (a_trial_share, .inl (E.2.1, 2, .inl w_8)), (a_trial_leftOver, .inl (E.2.1, 2, .inl w_9))] := hD
  rw [hQ]
  have h9 := fin9 (P := fun u9 : Int32 × (Nat → Int32) × (Nat → Int32) × Int32 × Int32 × (Nat → Int32) × (Nat → Int32) => r_3 = u9.1 ∧ va_P E.1 vwCl (w_X7_tryMove E a_ a_tape a_reader a_scripts a_now a_trial a_kept a_book a_keptBook a_history a_draws a_refused a_now_row a_now_partners a_now_share a_now_leftOver a_trial_row a_trial_partners a_trial_share a_trial_leftOver c_hasImage c_now_askedCount c_now_outcome c_now_row u9.2.2.2.1 u9.2.2.2.2.1 u9.2.1 u9.2.2.1 u9.2.2.2.2.2.1 u9.2.2.2.2.2.2) H ∧ va_D A (w_X7_tryMove E a_ a_tape a_reader a_scripts a_now a_trial a_kept a_book a_keptBook a_history a_draws a_refused a_now_row a_now_partners a_now_share a_now_leftOver a_trial_row a_trial_partners a_trial_share a_trial_leftOver c_hasImage c_now_askedCount c_now_outcome c_now_row u9.2.2.2.1 u9.2.2.2.2.1 u9.2.1 u9.2.2.1 u9.2.2.2.2.2.1 u9.2.2.2.2.2.2)) hF ⟨rfl, hP, hD⟩
  obtain ⟨e9_0, hP9, hD9⟩ := h9
  exact W.iret (v := r_3) hx hb hr (fun tt ht hW => ⟨⟨_, (), rfl, e9_0, ht ▸ hP9, hD9⟩, hS.F ht⟩) hS.2.2 dX7_tryMove_22
