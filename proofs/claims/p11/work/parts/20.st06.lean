def dl_X5_refusal_20_st06_0 : List (Nat × Instr × Nat) := [(0, .aload_n 0, 1), (1, .invokevirtual 105, 3), (4, .ifCond .ne 5, 3), (9, .iload_n 1, 1), (10, .tableswitch 110 0 6 #[42, 110, 51, 66, 79, 86, 104], 42), (52, .aload_n 0, 1), (53, .iload_n 2, 1), (54, .iload_n 3, 1), (55, .iload 4, 2), (57, .invokevirtual 108, 3), (60, .ireturn, 1), (120, .iconst (-1), 1), (121, .ireturn, 1), (61, .iload_n 2, 1), (62, .ldc 112, 2), (64, .ldc 113, 2), (66, .aload_n 0, 1), (67, .getfield 11, 3), (70, .iconst 1, 1), (71, .iaload, 1), (72, .invokestatic 114, 3), (75, .ireturn, 1), (76, .iload_n 2, 1), (77, .iconst 0, 1), (78, .iconst 3, 1), (79, .aload_n 0, 1), (80, .getfield 11, 3), (83, .iconst 0, 1), (84, .iaload, 1), (85, .invokestatic 114, 3), (88, .ireturn, 1), (89, .aload_n 0, 1), (90, .iload_n 2, 1), (91, .iload_n 3, 1), (92, .invokevirtual 118, 3), (95, .ireturn, 1), (96, .iload_n 2, 1), (97, .iconst 1, 1), (98, .if_icmp .lt 10, 3), (108, .iconst 1, 1), (109, .goto 4, 3), (113, .ireturn, 1), (101, .iload_n 2, 1), (102, .sipush 9999, 3), (105, .if_icmp .le 7, 3), (112, .iconst (-1), 1), (114, .aload_n 0, 1), (115, .iload_n 2, 1), (116, .invokevirtual 121, 3), (119, .ireturn, 1)]
set_option maxRecDepth 100000 in
theorem dall_X5_refusal_20_st06_0 : dchk cX5_refusal dl_X5_refusal_20_st06_0 = true := by decide +kernel
theorem dX5_refusal_0 : decode cX5_refusal 0 = .ok (.aload_n 0, 1) := dchk_at dall_X5_refusal_20_st06_0 (k := 0) rfl
theorem dX5_refusal_1 : decode cX5_refusal 1 = .ok (.invokevirtual 105, 3) := dchk_at dall_X5_refusal_20_st06_0 (k := 1) rfl
theorem dX5_refusal_4 : decode cX5_refusal 4 = .ok (.ifCond .ne 5, 3) := dchk_at dall_X5_refusal_20_st06_0 (k := 2) rfl
theorem dX5_refusal_9 : decode cX5_refusal 9 = .ok (.iload_n 1, 1) := dchk_at dall_X5_refusal_20_st06_0 (k := 3) rfl
theorem dX5_refusal_10 : decode cX5_refusal 10 = .ok (.tableswitch 110 0 6 #[42, 110, 51, 66, 79, 86, 104], 42) := dchk_at dall_X5_refusal_20_st06_0 (k := 4) rfl
theorem dX5_refusal_52 : decode cX5_refusal 52 = .ok (.aload_n 0, 1) := dchk_at dall_X5_refusal_20_st06_0 (k := 5) rfl
theorem dX5_refusal_53 : decode cX5_refusal 53 = .ok (.iload_n 2, 1) := dchk_at dall_X5_refusal_20_st06_0 (k := 6) rfl
theorem dX5_refusal_54 : decode cX5_refusal 54 = .ok (.iload_n 3, 1) := dchk_at dall_X5_refusal_20_st06_0 (k := 7) rfl
theorem dX5_refusal_55 : decode cX5_refusal 55 = .ok (.iload 4, 2) := dchk_at dall_X5_refusal_20_st06_0 (k := 8) rfl
theorem dX5_refusal_57 : decode cX5_refusal 57 = .ok (.invokevirtual 108, 3) := dchk_at dall_X5_refusal_20_st06_0 (k := 9) rfl
theorem dX5_refusal_60 : decode cX5_refusal 60 = .ok (.ireturn, 1) := dchk_at dall_X5_refusal_20_st06_0 (k := 10) rfl
theorem dX5_refusal_120 : decode cX5_refusal 120 = .ok (.iconst (-1), 1) := dchk_at dall_X5_refusal_20_st06_0 (k := 11) rfl
theorem dX5_refusal_121 : decode cX5_refusal 121 = .ok (.ireturn, 1) := dchk_at dall_X5_refusal_20_st06_0 (k := 12) rfl
theorem dX5_refusal_61 : decode cX5_refusal 61 = .ok (.iload_n 2, 1) := dchk_at dall_X5_refusal_20_st06_0 (k := 13) rfl
theorem dX5_refusal_62 : decode cX5_refusal 62 = .ok (.ldc 112, 2) := dchk_at dall_X5_refusal_20_st06_0 (k := 14) rfl
theorem dX5_refusal_64 : decode cX5_refusal 64 = .ok (.ldc 113, 2) := dchk_at dall_X5_refusal_20_st06_0 (k := 15) rfl
theorem dX5_refusal_66 : decode cX5_refusal 66 = .ok (.aload_n 0, 1) := dchk_at dall_X5_refusal_20_st06_0 (k := 16) rfl
theorem dX5_refusal_67 : decode cX5_refusal 67 = .ok (.getfield 11, 3) := dchk_at dall_X5_refusal_20_st06_0 (k := 17) rfl
theorem dX5_refusal_70 : decode cX5_refusal 70 = .ok (.iconst 1, 1) := dchk_at dall_X5_refusal_20_st06_0 (k := 18) rfl
theorem dX5_refusal_71 : decode cX5_refusal 71 = .ok (.iaload, 1) := dchk_at dall_X5_refusal_20_st06_0 (k := 19) rfl
theorem dX5_refusal_72 : decode cX5_refusal 72 = .ok (.invokestatic 114, 3) := dchk_at dall_X5_refusal_20_st06_0 (k := 20) rfl
theorem dX5_refusal_75 : decode cX5_refusal 75 = .ok (.ireturn, 1) := dchk_at dall_X5_refusal_20_st06_0 (k := 21) rfl
theorem dX5_refusal_76 : decode cX5_refusal 76 = .ok (.iload_n 2, 1) := dchk_at dall_X5_refusal_20_st06_0 (k := 22) rfl
theorem dX5_refusal_77 : decode cX5_refusal 77 = .ok (.iconst 0, 1) := dchk_at dall_X5_refusal_20_st06_0 (k := 23) rfl
theorem dX5_refusal_78 : decode cX5_refusal 78 = .ok (.iconst 3, 1) := dchk_at dall_X5_refusal_20_st06_0 (k := 24) rfl
theorem dX5_refusal_79 : decode cX5_refusal 79 = .ok (.aload_n 0, 1) := dchk_at dall_X5_refusal_20_st06_0 (k := 25) rfl
theorem dX5_refusal_80 : decode cX5_refusal 80 = .ok (.getfield 11, 3) := dchk_at dall_X5_refusal_20_st06_0 (k := 26) rfl
theorem dX5_refusal_83 : decode cX5_refusal 83 = .ok (.iconst 0, 1) := dchk_at dall_X5_refusal_20_st06_0 (k := 27) rfl
theorem dX5_refusal_84 : decode cX5_refusal 84 = .ok (.iaload, 1) := dchk_at dall_X5_refusal_20_st06_0 (k := 28) rfl
theorem dX5_refusal_85 : decode cX5_refusal 85 = .ok (.invokestatic 114, 3) := dchk_at dall_X5_refusal_20_st06_0 (k := 29) rfl
theorem dX5_refusal_88 : decode cX5_refusal 88 = .ok (.ireturn, 1) := dchk_at dall_X5_refusal_20_st06_0 (k := 30) rfl
theorem dX5_refusal_89 : decode cX5_refusal 89 = .ok (.aload_n 0, 1) := dchk_at dall_X5_refusal_20_st06_0 (k := 31) rfl
theorem dX5_refusal_90 : decode cX5_refusal 90 = .ok (.iload_n 2, 1) := dchk_at dall_X5_refusal_20_st06_0 (k := 32) rfl
theorem dX5_refusal_91 : decode cX5_refusal 91 = .ok (.iload_n 3, 1) := dchk_at dall_X5_refusal_20_st06_0 (k := 33) rfl
theorem dX5_refusal_92 : decode cX5_refusal 92 = .ok (.invokevirtual 118, 3) := dchk_at dall_X5_refusal_20_st06_0 (k := 34) rfl
theorem dX5_refusal_95 : decode cX5_refusal 95 = .ok (.ireturn, 1) := dchk_at dall_X5_refusal_20_st06_0 (k := 35) rfl
theorem dX5_refusal_96 : decode cX5_refusal 96 = .ok (.iload_n 2, 1) := dchk_at dall_X5_refusal_20_st06_0 (k := 36) rfl
theorem dX5_refusal_97 : decode cX5_refusal 97 = .ok (.iconst 1, 1) := dchk_at dall_X5_refusal_20_st06_0 (k := 37) rfl
theorem dX5_refusal_98 : decode cX5_refusal 98 = .ok (.if_icmp .lt 10, 3) := dchk_at dall_X5_refusal_20_st06_0 (k := 38) rfl
theorem dX5_refusal_108 : decode cX5_refusal 108 = .ok (.iconst 1, 1) := dchk_at dall_X5_refusal_20_st06_0 (k := 39) rfl
theorem dX5_refusal_109 : decode cX5_refusal 109 = .ok (.goto 4, 3) := dchk_at dall_X5_refusal_20_st06_0 (k := 40) rfl
theorem dX5_refusal_113 : decode cX5_refusal 113 = .ok (.ireturn, 1) := dchk_at dall_X5_refusal_20_st06_0 (k := 41) rfl
theorem dX5_refusal_101 : decode cX5_refusal 101 = .ok (.iload_n 2, 1) := dchk_at dall_X5_refusal_20_st06_0 (k := 42) rfl
theorem dX5_refusal_102 : decode cX5_refusal 102 = .ok (.sipush 9999, 3) := dchk_at dall_X5_refusal_20_st06_0 (k := 43) rfl
theorem dX5_refusal_105 : decode cX5_refusal 105 = .ok (.if_icmp .le 7, 3) := dchk_at dall_X5_refusal_20_st06_0 (k := 44) rfl
theorem dX5_refusal_112 : decode cX5_refusal 112 = .ok (.iconst (-1), 1) := dchk_at dall_X5_refusal_20_st06_0 (k := 45) rfl
theorem dX5_refusal_114 : decode cX5_refusal 114 = .ok (.aload_n 0, 1) := dchk_at dall_X5_refusal_20_st06_0 (k := 46) rfl
theorem dX5_refusal_115 : decode cX5_refusal 115 = .ok (.iload_n 2, 1) := dchk_at dall_X5_refusal_20_st06_0 (k := 47) rfl
theorem dX5_refusal_116 : decode cX5_refusal 116 = .ok (.invokevirtual 121, 3) := dchk_at dall_X5_refusal_20_st06_0 (k := 48) rfl
theorem dX5_refusal_119 : decode cX5_refusal 119 = .ok (.ireturn, 1) := dchk_at dall_X5_refusal_20_st06_0 (k := 49) rfl
def dl_X5_refusal_20_st06_1 : List (Nat × Instr × Nat) := [(7, .iconst 0, 1), (8, .ireturn, 1)]
set_option maxRecDepth 100000 in
theorem dall_X5_refusal_20_st06_1 : dchk cX5_refusal dl_X5_refusal_20_st06_1 = true := by decide +kernel
theorem dX5_refusal_7 : decode cX5_refusal 7 = .ok (.iconst 0, 1) := dchk_at dall_X5_refusal_20_st06_1 (k := 0) rfl
theorem dX5_refusal_8 : decode cX5_refusal 8 = .ok (.ireturn, 1) := dchk_at dall_X5_refusal_20_st06_1 (k := 1) rfl
def dl_X5_slackLength_20_st06_0 : List (Nat × Instr × Nat) := [(0, .aload_n 0, 1), (1, .iload_n 1, 1), (2, .iconst 4, 1), (3, .invokevirtual 69, 3), (6, .invokestatic 94, 3), (9, .aload_n 0, 1), (10, .iload_n 1, 1), (11, .iconst 5, 1), (12, .invokevirtual 69, 3), (15, .invokestatic 94, 3), (18, .iadd, 1), (19, .ireturn, 1)]
set_option maxRecDepth 100000 in
theorem dall_X5_slackLength_20_st06_0 : dchk cX5_slackLength dl_X5_slackLength_20_st06_0 = true := by decide +kernel
theorem dX5_slackLength_0 : decode cX5_slackLength 0 = .ok (.aload_n 0, 1) := dchk_at dall_X5_slackLength_20_st06_0 (k := 0) rfl
theorem dX5_slackLength_1 : decode cX5_slackLength 1 = .ok (.iload_n 1, 1) := dchk_at dall_X5_slackLength_20_st06_0 (k := 1) rfl
theorem dX5_slackLength_2 : decode cX5_slackLength 2 = .ok (.iconst 4, 1) := dchk_at dall_X5_slackLength_20_st06_0 (k := 2) rfl
theorem dX5_slackLength_3 : decode cX5_slackLength 3 = .ok (.invokevirtual 69, 3) := dchk_at dall_X5_slackLength_20_st06_0 (k := 3) rfl
theorem dX5_slackLength_6 : decode cX5_slackLength 6 = .ok (.invokestatic 94, 3) := dchk_at dall_X5_slackLength_20_st06_0 (k := 4) rfl
theorem dX5_slackLength_9 : decode cX5_slackLength 9 = .ok (.aload_n 0, 1) := dchk_at dall_X5_slackLength_20_st06_0 (k := 5) rfl
theorem dX5_slackLength_10 : decode cX5_slackLength 10 = .ok (.iload_n 1, 1) := dchk_at dall_X5_slackLength_20_st06_0 (k := 6) rfl
theorem dX5_slackLength_11 : decode cX5_slackLength 11 = .ok (.iconst 5, 1) := dchk_at dall_X5_slackLength_20_st06_0 (k := 7) rfl
theorem dX5_slackLength_12 : decode cX5_slackLength 12 = .ok (.invokevirtual 69, 3) := dchk_at dall_X5_slackLength_20_st06_0 (k := 8) rfl
theorem dX5_slackLength_15 : decode cX5_slackLength 15 = .ok (.invokestatic 94, 3) := dchk_at dall_X5_slackLength_20_st06_0 (k := 9) rfl
theorem dX5_slackLength_18 : decode cX5_slackLength 18 = .ok (.iadd, 1) := dchk_at dall_X5_slackLength_20_st06_0 (k := 10) rfl
theorem dX5_slackLength_19 : decode cX5_slackLength 19 = .ok (.ireturn, 1) := dchk_at dall_X5_slackLength_20_st06_0 (k := 11) rfl
def dl_X5_slackSites_20_st06_0 : List (Nat × Instr × Nat) := [(4, .iload_n 2, 1), (5, .aload_n 0, 1), (6, .invokevirtual 45, 3), (9, .if_icmp .ge 27, 3), (12, .iload_n 1, 1), (13, .aload_n 0, 1), (14, .iload_n 2, 1), (15, .invokevirtual 102, 3), (18, .ifCond .eq 9, 3), (27, .iconst 0, 1), (28, .ior, 1), (29, .istore_n 1, 1), (30, .iinc 2 1, 3), (33, .goto (-29), 3), (21, .iconst 1, 1), (22, .iload_n 2, 1), (23, .ishl, 1), (24, .goto 4, 3), (0, .iconst 0, 1), (1, .istore_n 1, 1), (2, .iconst 0, 1), (3, .istore_n 2, 1), (36, .iload_n 1, 1), (37, .ireturn, 1)]
set_option maxRecDepth 100000 in
theorem dall_X5_slackSites_20_st06_0 : dchk cX5_slackSites dl_X5_slackSites_20_st06_0 = true := by decide +kernel
theorem dX5_slackSites_4 : decode cX5_slackSites 4 = .ok (.iload_n 2, 1) := dchk_at dall_X5_slackSites_20_st06_0 (k := 0) rfl
theorem dX5_slackSites_5 : decode cX5_slackSites 5 = .ok (.aload_n 0, 1) := dchk_at dall_X5_slackSites_20_st06_0 (k := 1) rfl
theorem dX5_slackSites_6 : decode cX5_slackSites 6 = .ok (.invokevirtual 45, 3) := dchk_at dall_X5_slackSites_20_st06_0 (k := 2) rfl
theorem dX5_slackSites_9 : decode cX5_slackSites 9 = .ok (.if_icmp .ge 27, 3) := dchk_at dall_X5_slackSites_20_st06_0 (k := 3) rfl
theorem dX5_slackSites_12 : decode cX5_slackSites 12 = .ok (.iload_n 1, 1) := dchk_at dall_X5_slackSites_20_st06_0 (k := 4) rfl
theorem dX5_slackSites_13 : decode cX5_slackSites 13 = .ok (.aload_n 0, 1) := dchk_at dall_X5_slackSites_20_st06_0 (k := 5) rfl
theorem dX5_slackSites_14 : decode cX5_slackSites 14 = .ok (.iload_n 2, 1) := dchk_at dall_X5_slackSites_20_st06_0 (k := 6) rfl
theorem dX5_slackSites_15 : decode cX5_slackSites 15 = .ok (.invokevirtual 102, 3) := dchk_at dall_X5_slackSites_20_st06_0 (k := 7) rfl
theorem dX5_slackSites_18 : decode cX5_slackSites 18 = .ok (.ifCond .eq 9, 3) := dchk_at dall_X5_slackSites_20_st06_0 (k := 8) rfl
theorem dX5_slackSites_27 : decode cX5_slackSites 27 = .ok (.iconst 0, 1) := dchk_at dall_X5_slackSites_20_st06_0 (k := 9) rfl
theorem dX5_slackSites_28 : decode cX5_slackSites 28 = .ok (.ior, 1) := dchk_at dall_X5_slackSites_20_st06_0 (k := 10) rfl
theorem dX5_slackSites_29 : decode cX5_slackSites 29 = .ok (.istore_n 1, 1) := dchk_at dall_X5_slackSites_20_st06_0 (k := 11) rfl
theorem dX5_slackSites_30 : decode cX5_slackSites 30 = .ok (.iinc 2 1, 3) := dchk_at dall_X5_slackSites_20_st06_0 (k := 12) rfl
theorem dX5_slackSites_33 : decode cX5_slackSites 33 = .ok (.goto (-29), 3) := dchk_at dall_X5_slackSites_20_st06_0 (k := 13) rfl
theorem dX5_slackSites_21 : decode cX5_slackSites 21 = .ok (.iconst 1, 1) := dchk_at dall_X5_slackSites_20_st06_0 (k := 14) rfl
theorem dX5_slackSites_22 : decode cX5_slackSites 22 = .ok (.iload_n 2, 1) := dchk_at dall_X5_slackSites_20_st06_0 (k := 15) rfl
theorem dX5_slackSites_23 : decode cX5_slackSites 23 = .ok (.ishl, 1) := dchk_at dall_X5_slackSites_20_st06_0 (k := 16) rfl
theorem dX5_slackSites_24 : decode cX5_slackSites 24 = .ok (.goto 4, 3) := dchk_at dall_X5_slackSites_20_st06_0 (k := 17) rfl
theorem dX5_slackSites_0 : decode cX5_slackSites 0 = .ok (.iconst 0, 1) := dchk_at dall_X5_slackSites_20_st06_0 (k := 18) rfl
theorem dX5_slackSites_1 : decode cX5_slackSites 1 = .ok (.istore_n 1, 1) := dchk_at dall_X5_slackSites_20_st06_0 (k := 19) rfl
theorem dX5_slackSites_2 : decode cX5_slackSites 2 = .ok (.iconst 0, 1) := dchk_at dall_X5_slackSites_20_st06_0 (k := 20) rfl
theorem dX5_slackSites_3 : decode cX5_slackSites 3 = .ok (.istore_n 2, 1) := dchk_at dall_X5_slackSites_20_st06_0 (k := 21) rfl
theorem dX5_slackSites_36 : decode cX5_slackSites 36 = .ok (.iload_n 1, 1) := dchk_at dall_X5_slackSites_20_st06_0 (k := 22) rfl
theorem dX5_slackSites_37 : decode cX5_slackSites 37 = .ok (.ireturn, 1) := dchk_at dall_X5_slackSites_20_st06_0 (k := 23) rfl
def dl_X5_unmovedSites_20_st06_0 : List (Nat × Instr × Nat) := [(47, .istore_n 3, 1), (48, .iload_n 1, 1), (49, .iload_n 3, 1), (50, .ifCond .eq 9, 3), (59, .iconst 0, 1), (60, .ior, 1), (61, .istore_n 1, 1), (62, .iinc 2 1, 3), (65, .goto (-61), 3), (53, .iconst 1, 1), (54, .iload_n 2, 1), (55, .ishl, 1), (56, .goto 4, 3), (46, .iconst 0, 1), (4, .iload_n 2, 1), (5, .aload_n 0, 1), (6, .invokevirtual 45, 3), (9, .if_icmp .ge 59, 3), (12, .aload_n 0, 1), (13, .iload_n 2, 1), (14, .iconst 0, 1), (15, .invokevirtual 69, 3), (18, .aload_n 0, 1), (19, .iload_n 2, 1), (20, .iconst 2, 1), (21, .invokevirtual 69, 3), (24, .if_icmp .ne 22, 3), (27, .aload_n 0, 1), (28, .iload_n 2, 1), (29, .iconst 1, 1), (30, .invokevirtual 69, 3), (33, .aload_n 0, 1), (34, .iload_n 2, 1), (35, .iconst 3, 1), (36, .invokevirtual 69, 3), (39, .if_icmp .ne 7, 3), (42, .iconst 1, 1), (43, .goto 4, 3), (0, .iconst 0, 1), (1, .istore_n 1, 1), (2, .iconst 0, 1), (3, .istore_n 2, 1), (68, .iload_n 1, 1), (69, .ireturn, 1)]
set_option maxRecDepth 100000 in
theorem dall_X5_unmovedSites_20_st06_0 : dchk cX5_unmovedSites dl_X5_unmovedSites_20_st06_0 = true := by decide +kernel
theorem dX5_unmovedSites_47 : decode cX5_unmovedSites 47 = .ok (.istore_n 3, 1) := dchk_at dall_X5_unmovedSites_20_st06_0 (k := 0) rfl
theorem dX5_unmovedSites_48 : decode cX5_unmovedSites 48 = .ok (.iload_n 1, 1) := dchk_at dall_X5_unmovedSites_20_st06_0 (k := 1) rfl
theorem dX5_unmovedSites_49 : decode cX5_unmovedSites 49 = .ok (.iload_n 3, 1) := dchk_at dall_X5_unmovedSites_20_st06_0 (k := 2) rfl
theorem dX5_unmovedSites_50 : decode cX5_unmovedSites 50 = .ok (.ifCond .eq 9, 3) := dchk_at dall_X5_unmovedSites_20_st06_0 (k := 3) rfl
theorem dX5_unmovedSites_59 : decode cX5_unmovedSites 59 = .ok (.iconst 0, 1) := dchk_at dall_X5_unmovedSites_20_st06_0 (k := 4) rfl
theorem dX5_unmovedSites_60 : decode cX5_unmovedSites 60 = .ok (.ior, 1) := dchk_at dall_X5_unmovedSites_20_st06_0 (k := 5) rfl
theorem dX5_unmovedSites_61 : decode cX5_unmovedSites 61 = .ok (.istore_n 1, 1) := dchk_at dall_X5_unmovedSites_20_st06_0 (k := 6) rfl
theorem dX5_unmovedSites_62 : decode cX5_unmovedSites 62 = .ok (.iinc 2 1, 3) := dchk_at dall_X5_unmovedSites_20_st06_0 (k := 7) rfl
theorem dX5_unmovedSites_65 : decode cX5_unmovedSites 65 = .ok (.goto (-61), 3) := dchk_at dall_X5_unmovedSites_20_st06_0 (k := 8) rfl
theorem dX5_unmovedSites_53 : decode cX5_unmovedSites 53 = .ok (.iconst 1, 1) := dchk_at dall_X5_unmovedSites_20_st06_0 (k := 9) rfl
theorem dX5_unmovedSites_54 : decode cX5_unmovedSites 54 = .ok (.iload_n 2, 1) := dchk_at dall_X5_unmovedSites_20_st06_0 (k := 10) rfl
theorem dX5_unmovedSites_55 : decode cX5_unmovedSites 55 = .ok (.ishl, 1) := dchk_at dall_X5_unmovedSites_20_st06_0 (k := 11) rfl
theorem dX5_unmovedSites_56 : decode cX5_unmovedSites 56 = .ok (.goto 4, 3) := dchk_at dall_X5_unmovedSites_20_st06_0 (k := 12) rfl
theorem dX5_unmovedSites_46 : decode cX5_unmovedSites 46 = .ok (.iconst 0, 1) := dchk_at dall_X5_unmovedSites_20_st06_0 (k := 13) rfl
theorem dX5_unmovedSites_4 : decode cX5_unmovedSites 4 = .ok (.iload_n 2, 1) := dchk_at dall_X5_unmovedSites_20_st06_0 (k := 14) rfl
theorem dX5_unmovedSites_5 : decode cX5_unmovedSites 5 = .ok (.aload_n 0, 1) := dchk_at dall_X5_unmovedSites_20_st06_0 (k := 15) rfl
theorem dX5_unmovedSites_6 : decode cX5_unmovedSites 6 = .ok (.invokevirtual 45, 3) := dchk_at dall_X5_unmovedSites_20_st06_0 (k := 16) rfl
theorem dX5_unmovedSites_9 : decode cX5_unmovedSites 9 = .ok (.if_icmp .ge 59, 3) := dchk_at dall_X5_unmovedSites_20_st06_0 (k := 17) rfl
theorem dX5_unmovedSites_12 : decode cX5_unmovedSites 12 = .ok (.aload_n 0, 1) := dchk_at dall_X5_unmovedSites_20_st06_0 (k := 18) rfl
theorem dX5_unmovedSites_13 : decode cX5_unmovedSites 13 = .ok (.iload_n 2, 1) := dchk_at dall_X5_unmovedSites_20_st06_0 (k := 19) rfl
theorem dX5_unmovedSites_14 : decode cX5_unmovedSites 14 = .ok (.iconst 0, 1) := dchk_at dall_X5_unmovedSites_20_st06_0 (k := 20) rfl
theorem dX5_unmovedSites_15 : decode cX5_unmovedSites 15 = .ok (.invokevirtual 69, 3) := dchk_at dall_X5_unmovedSites_20_st06_0 (k := 21) rfl
theorem dX5_unmovedSites_18 : decode cX5_unmovedSites 18 = .ok (.aload_n 0, 1) := dchk_at dall_X5_unmovedSites_20_st06_0 (k := 22) rfl
theorem dX5_unmovedSites_19 : decode cX5_unmovedSites 19 = .ok (.iload_n 2, 1) := dchk_at dall_X5_unmovedSites_20_st06_0 (k := 23) rfl
theorem dX5_unmovedSites_20 : decode cX5_unmovedSites 20 = .ok (.iconst 2, 1) := dchk_at dall_X5_unmovedSites_20_st06_0 (k := 24) rfl
theorem dX5_unmovedSites_21 : decode cX5_unmovedSites 21 = .ok (.invokevirtual 69, 3) := dchk_at dall_X5_unmovedSites_20_st06_0 (k := 25) rfl
theorem dX5_unmovedSites_24 : decode cX5_unmovedSites 24 = .ok (.if_icmp .ne 22, 3) := dchk_at dall_X5_unmovedSites_20_st06_0 (k := 26) rfl
theorem dX5_unmovedSites_27 : decode cX5_unmovedSites 27 = .ok (.aload_n 0, 1) := dchk_at dall_X5_unmovedSites_20_st06_0 (k := 27) rfl
theorem dX5_unmovedSites_28 : decode cX5_unmovedSites 28 = .ok (.iload_n 2, 1) := dchk_at dall_X5_unmovedSites_20_st06_0 (k := 28) rfl
theorem dX5_unmovedSites_29 : decode cX5_unmovedSites 29 = .ok (.iconst 1, 1) := dchk_at dall_X5_unmovedSites_20_st06_0 (k := 29) rfl
theorem dX5_unmovedSites_30 : decode cX5_unmovedSites 30 = .ok (.invokevirtual 69, 3) := dchk_at dall_X5_unmovedSites_20_st06_0 (k := 30) rfl
theorem dX5_unmovedSites_33 : decode cX5_unmovedSites 33 = .ok (.aload_n 0, 1) := dchk_at dall_X5_unmovedSites_20_st06_0 (k := 31) rfl
theorem dX5_unmovedSites_34 : decode cX5_unmovedSites 34 = .ok (.iload_n 2, 1) := dchk_at dall_X5_unmovedSites_20_st06_0 (k := 32) rfl
theorem dX5_unmovedSites_35 : decode cX5_unmovedSites 35 = .ok (.iconst 3, 1) := dchk_at dall_X5_unmovedSites_20_st06_0 (k := 33) rfl
theorem dX5_unmovedSites_36 : decode cX5_unmovedSites 36 = .ok (.invokevirtual 69, 3) := dchk_at dall_X5_unmovedSites_20_st06_0 (k := 34) rfl
theorem dX5_unmovedSites_39 : decode cX5_unmovedSites 39 = .ok (.if_icmp .ne 7, 3) := dchk_at dall_X5_unmovedSites_20_st06_0 (k := 35) rfl
theorem dX5_unmovedSites_42 : decode cX5_unmovedSites 42 = .ok (.iconst 1, 1) := dchk_at dall_X5_unmovedSites_20_st06_0 (k := 36) rfl
theorem dX5_unmovedSites_43 : decode cX5_unmovedSites 43 = .ok (.goto 4, 3) := dchk_at dall_X5_unmovedSites_20_st06_0 (k := 37) rfl
theorem dX5_unmovedSites_0 : decode cX5_unmovedSites 0 = .ok (.iconst 0, 1) := dchk_at dall_X5_unmovedSites_20_st06_0 (k := 38) rfl
theorem dX5_unmovedSites_1 : decode cX5_unmovedSites 1 = .ok (.istore_n 1, 1) := dchk_at dall_X5_unmovedSites_20_st06_0 (k := 39) rfl
theorem dX5_unmovedSites_2 : decode cX5_unmovedSites 2 = .ok (.iconst 0, 1) := dchk_at dall_X5_unmovedSites_20_st06_0 (k := 40) rfl
theorem dX5_unmovedSites_3 : decode cX5_unmovedSites 3 = .ok (.istore_n 2, 1) := dchk_at dall_X5_unmovedSites_20_st06_0 (k := 41) rfl
theorem dX5_unmovedSites_68 : decode cX5_unmovedSites 68 = .ok (.iload_n 1, 1) := dchk_at dall_X5_unmovedSites_20_st06_0 (k := 42) rfl
theorem dX5_unmovedSites_69 : decode cX5_unmovedSites 69 = .ok (.ireturn, 1) := dchk_at dall_X5_unmovedSites_20_st06_0 (k := 43) rfl
def F_X5_refusal (p1 : Int32) (p2 : Int32) (p3 : Int32) (p4 : Int32) (c_row : Nat → Int32) : Option (Int32) :=
  bd1 (F_X5_stands c_row) (fun r_1 => if r_1 = (0 : Int32) then some (0 : Int32) else if p1 = (0 : Int32) then bd1 (F_X5_moveRefusal p2 p3 p4 c_row) (fun r_6 => some r_6) else if p1 = (1 : Int32) then some (-1 : Int32) else if p1 = (2 : Int32) then bd1 (F_X5_setRefusal p2 (-9999999 : Int32) (9999999 : Int32) (c_row 1)) (fun r_8 => some r_8) else if p1 = (3 : Int32) then bd1 (F_X5_setRefusal p2 (0 : Int32) (3 : Int32) (c_row 0)) (fun r_10 => some r_10) else if p1 = (4 : Int32) then bd1 (F_X5_addRefusal p2 p3 c_row) (fun r_12 => some r_12) else if p1 = (5 : Int32) then if p2 < (1 : Int32) then some (1 : Int32) else if p2 ≤ (9999 : Int32) then some (-1 : Int32) else some (1 : Int32) else if p1 = (6 : Int32) then bd1 (F_X5_freezeRefusal p2 c_row) (fun r_16 => some r_16) else some (-1 : Int32))
abbrev w_X5_refusal (E : EE) (a_ a_row a_partners a_share a_leftOver : Nat) (c_askedCount : Int32) (c_outcome : Int32) (c_row : Nat → Int32) : va_W := [(a_, .inr (6, [.ref a_row, .ref a_partners, .int c_askedCount, .int c_outcome, .ref a_share, .ref a_leftOver])), (a_row, .inl (E.2.1, 81, .inl c_row))]
def v_f_X5_refusal : List Cond := List.cons (.code yX5_refusal cX5_refusal 5 (some .int)) (HAppend.hAppend (α := List Cond) (β := List Cond) (γ := List Cond) [.constant RX5 112 (-9999999), .constant RX5 113 (9999999), .fieldLink RX5 11 "HushWatch$State" "row" "[I", .methodLink RX5 105 yX5_stands, .instanceMethod yX5_stands, .selects RX5 yX5_stands yX5_stands, .initialized RX5, .methodLink RX5 108 yX5_moveRefusal, .instanceMethod yX5_moveRefusal, .selects RX5 yX5_moveRefusal yX5_moveRefusal, .methodLink RX5 114 yX5_setRefusal, .static yX5_setRefusal, .methodLink RX5 118 yX5_addRefusal, .instanceMethod yX5_addRefusal, .selects RX5 yX5_addRefusal yX5_addRefusal, .methodLink RX5 121 yX5_freezeRefusal, .instanceMethod yX5_freezeRefusal, .selects RX5 yX5_freezeRefusal yX5_freezeRefusal] (HAppend.hAppend (α := List Cond) (β := List Cond) (γ := List Cond) v_f_X5_stands (HAppend.hAppend (α := List Cond) (β := List Cond) (γ := List Cond) v_f_X5_moveRefusal (HAppend.hAppend (α := List Cond) (β := List Cond) (γ := List Cond) wsX50 (HAppend.hAppend (α := List Cond) (β := List Cond) (γ := List Cond) v_f_X5_setRefusal (HAppend.hAppend (α := List Cond) (β := List Cond) (γ := List Cond) v_f_X5_addRefusal (HAppend.hAppend (α := List Cond) (β := List Cond) (γ := List Cond) v_f_X5_freezeRefusal [])))))))
theorem gw_f_X5_refusal : v_f_X5_refusal.all goodWord = true := by decide +kernel
theorem i_f_X5_refusal_X5 : ∀ w ∈ wsX50, w ∈ v_f_X5_refusal := fun _ h => List.mem_cons_of_mem _ (List.mem_append_right _ (List.mem_append_right _ (List.mem_append_right _ (List.mem_append_left _ h))))
theorem g_f_X5_refusal_f_X5_stands_105 : GoodIn v_f_X5_refusal (wsV RX5 105 RX5 yX5_stands v_f_X5_stands) := goodIn_app (goodIn_of _ (by decide +kernel)) (goodIn_sub (fun _ h => List.mem_cons_of_mem _ (List.mem_append_right _ (List.mem_append_left _ h))) gw_f_X5_stands)
theorem g_f_X5_refusal_f_X5_moveRefusal_108 : GoodIn v_f_X5_refusal (wsV RX5 108 RX5 yX5_moveRefusal v_f_X5_moveRefusal) := goodIn_app (goodIn_of _ (by decide +kernel)) (goodIn_sub (fun _ h => List.mem_cons_of_mem _ (List.mem_append_right _ (List.mem_append_right _ (List.mem_append_left _ h)))) gw_f_X5_moveRefusal)
theorem g_f_X5_refusal_f_X5_setRefusal_114 : GoodIn v_f_X5_refusal (va_wsS RX5 114 yX5_setRefusal v_f_X5_setRefusal) := goodIn_app (goodIn_of _ (by decide +kernel)) (goodIn_sub (fun _ h => List.mem_cons_of_mem _ (List.mem_append_right _ (List.mem_append_right _ (List.mem_append_right _ (List.mem_append_right _ (List.mem_append_left _ h)))))) gw_f_X5_setRefusal)
theorem g_f_X5_refusal_f_X5_addRefusal_118 : GoodIn v_f_X5_refusal (wsV RX5 118 RX5 yX5_addRefusal v_f_X5_addRefusal) := goodIn_app (goodIn_of _ (by decide +kernel)) (goodIn_sub (fun _ h => List.mem_cons_of_mem _ (List.mem_append_right _ (List.mem_append_right _ (List.mem_append_right _ (List.mem_append_right _ (List.mem_append_right _ (List.mem_append_left _ h))))))) gw_f_X5_addRefusal)
theorem g_f_X5_refusal_f_X5_freezeRefusal_121 : GoodIn v_f_X5_refusal (wsV RX5 121 RX5 yX5_freezeRefusal v_f_X5_freezeRefusal) := goodIn_app (goodIn_of _ (by decide +kernel)) (goodIn_sub (fun _ h => List.mem_cons_of_mem _ (List.mem_append_right _ (List.mem_append_right _ (List.mem_append_right _ (List.mem_append_right _ (List.mem_append_right _ (List.mem_append_right _ (List.mem_append_left _ h)))))))) gw_f_X5_freezeRefusal)
theorem hd_X5_refusal : yX5_refusal.cls = RX5 ∧ yX5_refusal.cls ≠ "java/lang/invoke/MethodHandle" ∧ yX5_refusal.cls ≠ "java/lang/invoke/VarHandle" ∧ (parseMethodDescriptor yX5_refusal.desc).map (fun d => d.parameters.length) = some 4 := by decide +kernel
set_option maxHeartbeats 4000000 in
set_option maxRecDepth 100000 in
theorem f_X5_refusal (l : Launch) (E : EE) {a_ a_row a_partners a_share a_leftOver : Nat} {p1 : Int32} {p2 : Int32} {p3 : Int32} {p4 : Int32} {c_askedCount : Int32} {c_outcome : Int32} {c_row : Nat → Int32} {rr : Int32} (hF : F_X5_refusal p1 p2 p3 p4 c_row = some rr) : Met l yX5_refusal v_f_X5_refusal (({ frames := 3, cells := 0, slots := 0, locals := 68 } : Room)) (va_Pc [.ref a_, .int p1, .int p2, .int p3, .int p4] (pP E (w_X5_refusal E a_ a_row a_partners a_share a_leftOver c_askedCount c_outcome c_row))) (vp_Si (fun q : Int32 => q = rr)) 0 0 (fun _ => False) := by
  refine Met.ofW (cc := cX5_refusal) (maxL := 5) (ret := (some .int)) (by decide) rfl ?_
  intro p e s m args below meth c s₁ B hml hv
  obtain ⟨rfl, ⟨hK, hN⟩, hP⟩ := hv
  have hx := B.exec
  have hb := B.bytes
  have hr := B.returns
  have hts := atoms_spec (ws := v_f_X5_refusal) B.pre
  have hown : s.vm.findClass RX5 = some m.cls := own_of hd_X5_refusal.1 (findClass_of_methodNamed B.named)
  have hlocks : meth.locks = false := B.notSynchronized
  replace hP : va_P E.1 vwCl [(a_, .inr (6, [.ref a_row, .ref a_partners, .int c_askedCount, .int c_outcome, .ref a_share, .ref a_leftOver])), (a_row, .inl (E.2.1, 81, .inl c_row))] s.heap := hP
  have hl := lv_entry ([.ref a_, .int p1, .int p2, .int p3, .int p4]) (n := 5) (Nat.le_of_ble_eq_true rfl)
  rw [lg_entry_eq]
  generalize (lg_sl ([.ref a_, .int p1, .int p2, .int p3, .int p4]) ++ List.replicate (5 - (lg_sl ([.ref a_, .int p1, .int p2, .int p3, .int p4])).length) Slot.unset).toArray = ls at hl ⊢
  have hl : lv_has ls 5 [(0, .ref a_), (1, .int p1), (2, .int p2), (3, .int p3), (4, .int p4)] := hl
  obtain ⟨Q, hQ⟩ : ∃ Q : State → Prop, Q = MQ below (vp_Si (fun q : Int32 => q = rr)) #[Value.ref a_, Value.int p1, Value.int p2, Value.int p3, Value.int p4] s 0 0 (fun _ => False) := ⟨_, rfl⟩
  rw [← hQ]
  change W p l e ({ frames := 3, cells := 0, slots := 0, locals := 68 } : Room) s m #[Value.ref a_, Value.int p1, Value.int p2, Value.int p3, Value.int p4] below meth c s.heap [] 0 0 Q (F0 m 0 ls [])
  unfold F_X5_refusal at hF
  refine lv_aload_n hx hb dX5_refusal_0 rfl (lv_at hl 0 rfl) ?_
  replace hF := bd1_s hF
  obtain ⟨r_1, hc_2, hF⟩ := hF
  have hPc : va_P E.1 vwCl (w_X5_stands E a_ a_row a_partners a_share a_leftOver c_askedCount c_outcome c_row) s.heap := hP.sub (ws' := [(a_, .inr (6, [.ref a_row, .ref a_partners, .int c_askedCount, .int c_outcome, .ref a_share, .ref a_leftOver])), (a_row, .inl (E.2.1, 81, .inl c_row))]) [0, 1] rfl
  have hrc := va_recv hK hPc (ci := 6) (q0 := 0) rfl rfl
  refine pE_z (va_runV (As := []) (rest := [])  ⟨hx, hb, hml, hown, hts⟩ (f_X5_stands l E (a_ := a_) (a_row := a_row) (a_partners := a_partners) (a_share := a_share) (a_leftOver := a_leftOver) (c_askedCount := c_askedCount) (c_outcome := c_outcome) (c_row := c_row) hc_2) (cwV 0 hts g_f_X5_refusal_f_X5_stands_105 rfl rfl rfl hd_X5_stands ⟨Nat.le_of_ble_eq_true rfl, Nat.le_of_ble_eq_true rfl⟩) ⟨pP.blind, hrc, (pP.pre ⟨hK, hN⟩ hPc)⟩ rfl rfl hl.1 rfl (lv_room (Nat.le_of_ble_eq_true rfl)) dX5_refusal_1 ⟨Nat.le_of_ble_eq_true rfl, Nat.le_of_ble_eq_true rfl⟩) (fun hb_3 => ?_)
  refine lv_if_ne (tgt := 9) hx hb dX5_refusal_4 (by decide) (fun c_4 => ?_) (fun c_4 => ?_)
  ·
    replace hF := inn c_4 hF
    refine lv_iload_n hx hb dX5_refusal_9 rfl (lv_at hl 1 rfl) ?_
    rcases Classical.em (p1 = (0 : Int32)) with c_5_0 | c_5_0
    ·
      replace hF := ip c_5_0 hF
      refine lv_tableIn (off := 42) (tgt := 52) hx hb dX5_refusal_10 (by rw [c_5_0]; decide) (by rw [c_5_0]; decide) (by rw [c_5_0]; decide) (by decide) ?_
      refine lv_aload_n hx hb dX5_refusal_52 rfl (lv_at hl 0 rfl) ?_
      refine lv_iload_n hx hb dX5_refusal_53 rfl (lv_at hl 2 rfl) ?_
      refine lv_iload_n hx hb dX5_refusal_54 rfl (lv_at hl 3 rfl) ?_
      refine lv_iload hx hb dX5_refusal_55 (lv_at hl 4 rfl) ?_
      replace hF := bd1_s hF
      obtain ⟨r_6, hc_7, hF⟩ := hF
      have hPc : va_P E.1 vwCl (w_X5_moveRefusal E a_ a_row a_partners a_share a_leftOver c_askedCount c_outcome c_row) s.heap := hP.sub (ws' := [(a_, .inr (6, [.ref a_row, .ref a_partners, .int c_askedCount, .int c_outcome, .ref a_share, .ref a_leftOver])), (a_row, .inl (E.2.1, 81, .inl c_row))]) [0, 1] rfl
      have hrc := va_recv hK hPc (ci := 6) (q0 := 0) rfl rfl
      refine pE_i (va_runV (As := [.int p2, .int p3, .int p4]) (rest := [])  ⟨hx, hb, hml, hown, hts⟩ (f_X5_moveRefusal l E (a_ := a_) (a_row := a_row) (a_partners := a_partners) (a_share := a_share) (a_leftOver := a_leftOver) (p1 := p2) (p2 := p3) (p3 := p4) (c_askedCount := c_askedCount) (c_outcome := c_outcome) (c_row := c_row) hc_7) (cwV 3 hts g_f_X5_refusal_f_X5_moveRefusal_108 rfl rfl rfl hd_X5_moveRefusal ⟨Nat.le_of_ble_eq_true rfl, Nat.le_of_ble_eq_true rfl⟩) ⟨pP.blind, hrc, (pP.pre ⟨hK, hN⟩ hPc)⟩ rfl rfl hl.1 rfl (lv_room (Nat.le_of_ble_eq_true rfl)) dX5_refusal_57 ⟨Nat.le_of_ble_eq_true rfl, Nat.le_of_ble_eq_true rfl⟩) ?_
      rw [hQ]
      obtain e9_0 := inj1 hF
      exact W.iret (v := r_6) hx hb hr (fun tt ht hW => ⟨_, rfl, e9_0, ht⟩) (fun _ h => by cases h) dX5_refusal_60
    replace hF := inn c_5_0 hF
    rcases Classical.em (p1 = (1 : Int32)) with c_5_1 | c_5_1
    ·
      replace hF := ip c_5_1 hF
      refine lv_tableIn (off := 110) (tgt := 120) hx hb dX5_refusal_10 (by rw [c_5_1]; decide) (by rw [c_5_1]; decide) (by rw [c_5_1]; decide) (by decide) ?_
      refine lv_iconst (v := -1) hx hb dX5_refusal_120 (by decide) ?_
      rw [hQ]
      obtain e9_0 := inj1 hF
      exact W.iret (v := (-1 : Int32)) hx hb hr (fun tt ht hW => ⟨_, rfl, e9_0, ht⟩) (fun _ h => by cases h) dX5_refusal_121
    replace hF := inn c_5_1 hF
    rcases Classical.em (p1 = (2 : Int32)) with c_5_2 | c_5_2
    ·
      replace hF := ip c_5_2 hF
      refine lv_tableIn (off := 51) (tgt := 61) hx hb dX5_refusal_10 (by rw [c_5_2]; decide) (by rw [c_5_2]; decide) (by rw [c_5_2]; decide) (by decide) ?_
      refine lv_iload_n hx hb dX5_refusal_61 rfl (lv_at hl 2 rfl) ?_
      refine lv_ldc (v := -9999999) hx hb hown (hts (.constant RX5 112 (-9999999)) (List.mem_of_getElem? (i := 1) rfl)) dX5_refusal_62 ?_
      refine lv_ldc (v := 9999999) hx hb hown (hts (.constant RX5 113 (9999999)) (List.mem_of_getElem? (i := 2) rfl)) dX5_refusal_64 ?_
      refine lv_aload_n hx hb dX5_refusal_66 rfl (lv_at hl 0 rfl) ?_
      refine gt_X5_0 (v := .ref a_row) hx hb hts i_f_X5_refusal_X5 hown hK hP 0 rfl (hts (.fieldLink RX5 11 "HushWatch$State" "row" "[I") (List.mem_of_getElem? (i := 3) rfl)) rfl dX5_refusal_67 ?_
      refine lv_iconst (v := 1) hx hb dX5_refusal_70 (by decide) ?_
      refine va_iald hx hb hK hP 1 0 rfl rfl (vin rfl) dX5_refusal_71 ?_
      refine W.eq (g2 := F0 m 72 ls [.int (c_row 1), .int (9999999 : Int32), .int (-9999999 : Int32), .int p2]) rfl ?_
      replace hF := bd1_s hF
      obtain ⟨r_8, hc_9, hF⟩ := hF
      have hPc : va_P E.1 vwCl [] s.heap := fun k q h => by simp at h
      refine pE_i (va_runS (As := [.int p2, .int (-9999999 : Int32), .int (9999999 : Int32), .int (c_row 1)]) (rest := [])  ⟨hx, hb, hml, hown, hts⟩ (f_X5_setRefusal l E (p0 := p2) (p1 := (-9999999 : Int32)) (p2 := (9999999 : Int32)) (p3 := c_row 1) hc_9) (va_cwS 4 hts g_f_X5_refusal_f_X5_setRefusal_114 rfl rfl rfl hd_X5_setRefusal.2 ⟨Nat.le_of_ble_eq_true rfl, Nat.le_of_ble_eq_true rfl⟩) ⟨pP.blind, (pP.pre ⟨hK, hN⟩ hPc)⟩ rfl rfl hl.1 rfl (lv_room (Nat.le_of_ble_eq_true rfl)) dX5_refusal_72 ⟨Nat.le_of_ble_eq_true rfl, Nat.le_of_ble_eq_true rfl⟩) ?_
      rw [hQ]
      obtain e9_0 := inj1 hF
      exact W.iret (v := r_8) hx hb hr (fun tt ht hW => ⟨_, rfl, e9_0, ht⟩) (fun _ h => by cases h) dX5_refusal_75
    replace hF := inn c_5_2 hF
    rcases Classical.em (p1 = (3 : Int32)) with c_5_3 | c_5_3
    ·
      replace hF := ip c_5_3 hF
      refine lv_tableIn (off := 66) (tgt := 76) hx hb dX5_refusal_10 (by rw [c_5_3]; decide) (by rw [c_5_3]; decide) (by rw [c_5_3]; decide) (by decide) ?_
      refine lv_iload_n hx hb dX5_refusal_76 rfl (lv_at hl 2 rfl) ?_
      refine lv_iconst (v := 0) hx hb dX5_refusal_77 (by decide) ?_
      refine lv_iconst (v := 3) hx hb dX5_refusal_78 (by decide) ?_
      refine lv_aload_n hx hb dX5_refusal_79 rfl (lv_at hl 0 rfl) ?_
      refine gt_X5_0 (v := .ref a_row) hx hb hts i_f_X5_refusal_X5 hown hK hP 0 rfl (hts (.fieldLink RX5 11 "HushWatch$State" "row" "[I") (List.mem_of_getElem? (i := 3) rfl)) rfl dX5_refusal_80 ?_
      refine lv_iconst (v := 0) hx hb dX5_refusal_83 (by decide) ?_
      refine va_iald hx hb hK hP 1 0 rfl rfl (vin rfl) dX5_refusal_84 ?_
      refine W.eq (g2 := F0 m 85 ls [.int (c_row 0), .int (3 : Int32), .int (0 : Int32), .int p2]) rfl ?_
      replace hF := bd1_s hF
      obtain ⟨r_10, hc_11, hF⟩ := hF
      have hPc : va_P E.1 vwCl [] s.heap := fun k q h => by simp at h
      refine pE_i (va_runS (As := [.int p2, .int (0 : Int32), .int (3 : Int32), .int (c_row 0)]) (rest := [])  ⟨hx, hb, hml, hown, hts⟩ (f_X5_setRefusal l E (p0 := p2) (p1 := (0 : Int32)) (p2 := (3 : Int32)) (p3 := c_row 0) hc_11) (va_cwS 4 hts g_f_X5_refusal_f_X5_setRefusal_114 rfl rfl rfl hd_X5_setRefusal.2 ⟨Nat.le_of_ble_eq_true rfl, Nat.le_of_ble_eq_true rfl⟩) ⟨pP.blind, (pP.pre ⟨hK, hN⟩ hPc)⟩ rfl rfl hl.1 rfl (lv_room (Nat.le_of_ble_eq_true rfl)) dX5_refusal_85 ⟨Nat.le_of_ble_eq_true rfl, Nat.le_of_ble_eq_true rfl⟩) ?_
      rw [hQ]
      obtain e9_0 := inj1 hF
      exact W.iret (v := r_10) hx hb hr (fun tt ht hW => ⟨_, rfl, e9_0, ht⟩) (fun _ h => by cases h) dX5_refusal_88
    replace hF := inn c_5_3 hF
    rcases Classical.em (p1 = (4 : Int32)) with c_5_4 | c_5_4
    ·
      replace hF := ip c_5_4 hF
      refine lv_tableIn (off := 79) (tgt := 89) hx hb dX5_refusal_10 (by rw [c_5_4]; decide) (by rw [c_5_4]; decide) (by rw [c_5_4]; decide) (by decide) ?_
      refine lv_aload_n hx hb dX5_refusal_89 rfl (lv_at hl 0 rfl) ?_
      refine lv_iload_n hx hb dX5_refusal_90 rfl (lv_at hl 2 rfl) ?_
      refine lv_iload_n hx hb dX5_refusal_91 rfl (lv_at hl 3 rfl) ?_
      replace hF := bd1_s hF
      obtain ⟨r_12, hc_13, hF⟩ := hF
      have hPc : va_P E.1 vwCl (w_X5_addRefusal E a_ a_row a_partners a_share a_leftOver c_askedCount c_outcome c_row) s.heap := hP.sub (ws' := [(a_, .inr (6, [.ref a_row, .ref a_partners, .int c_askedCount, .int c_outcome, .ref a_share, .ref a_leftOver])), (a_row, .inl (E.2.1, 81, .inl c_row))]) [0, 1] rfl
      have hrc := va_recv hK hPc (ci := 6) (q0 := 0) rfl rfl
      refine pE_i (va_runV (As := [.int p2, .int p3]) (rest := [])  ⟨hx, hb, hml, hown, hts⟩ (f_X5_addRefusal l E (a_ := a_) (a_row := a_row) (a_partners := a_partners) (a_share := a_share) (a_leftOver := a_leftOver) (p1 := p2) (p2 := p3) (c_askedCount := c_askedCount) (c_outcome := c_outcome) (c_row := c_row) hc_13) (cwV 2 hts g_f_X5_refusal_f_X5_addRefusal_118 rfl rfl rfl hd_X5_addRefusal ⟨Nat.le_of_ble_eq_true rfl, Nat.le_of_ble_eq_true rfl⟩) ⟨pP.blind, hrc, (pP.pre ⟨hK, hN⟩ hPc)⟩ rfl rfl hl.1 rfl (lv_room (Nat.le_of_ble_eq_true rfl)) dX5_refusal_92 ⟨Nat.le_of_ble_eq_true rfl, Nat.le_of_ble_eq_true rfl⟩) ?_
      rw [hQ]
      obtain e9_0 := inj1 hF
      exact W.iret (v := r_12) hx hb hr (fun tt ht hW => ⟨_, rfl, e9_0, ht⟩) (fun _ h => by cases h) dX5_refusal_95
    replace hF := inn c_5_4 hF
    rcases Classical.em (p1 = (5 : Int32)) with c_5_5 | c_5_5
    ·
      replace hF := ip c_5_5 hF
      refine lv_tableIn (off := 86) (tgt := 96) hx hb dX5_refusal_10 (by rw [c_5_5]; decide) (by rw [c_5_5]; decide) (by rw [c_5_5]; decide) (by decide) ?_
      refine lv_iload_n hx hb dX5_refusal_96 rfl (lv_at hl 2 rfl) ?_
      refine lv_iconst (v := 1) hx hb dX5_refusal_97 (by decide) ?_
      refine lv_icmp_lt (tgt := 108) hx hb dX5_refusal_98 (by decide) (fun c_14 => ?_) (fun c_14 => ?_)
      ·
        replace hF := ip c_14 hF
        refine lv_iconst (v := 1) hx hb dX5_refusal_108 (by decide) ?_
        refine lv_goto (tgt := 113) hx hb dX5_refusal_109 (by decide) ?_
        rw [hQ]
        obtain e9_0 := inj1 hF
        exact W.iret (v := (1 : Int32)) hx hb hr (fun tt ht hW => ⟨_, rfl, e9_0, ht⟩) (fun _ h => by cases h) dX5_refusal_113
      ·
        replace hF := inn c_14 hF
        refine lv_iload_n hx hb dX5_refusal_101 rfl (lv_at hl 2 rfl) ?_
        refine lv_sipush (v := 9999) hx hb dX5_refusal_102 (by decide) ?_
        refine lv_icmp_le (tgt := 112) hx hb dX5_refusal_105 (by decide) (fun c_15 => ?_) (fun c_15 => ?_)
        ·
          replace hF := ip c_15 hF
          refine lv_iconst (v := -1) hx hb dX5_refusal_112 (by decide) ?_
          rw [hQ]
          obtain e9_0 := inj1 hF
          exact W.iret (v := (-1 : Int32)) hx hb hr (fun tt ht hW => ⟨_, rfl, e9_0, ht⟩) (fun _ h => by cases h) dX5_refusal_113
        ·
          replace hF := inn c_15 hF
          refine lv_iconst (v := 1) hx hb dX5_refusal_108 (by decide) ?_
          refine lv_goto (tgt := 113) hx hb dX5_refusal_109 (by decide) ?_
          rw [hQ]
          obtain e9_0 := inj1 hF
          exact W.iret (v := (1 : Int32)) hx hb hr (fun tt ht hW => ⟨_, rfl, e9_0, ht⟩) (fun _ h => by cases h) dX5_refusal_113
    replace hF := inn c_5_5 hF
    rcases Classical.em (p1 = (6 : Int32)) with c_5_6 | c_5_6
    ·
      replace hF := ip c_5_6 hF
      refine lv_tableIn (off := 104) (tgt := 114) hx hb dX5_refusal_10 (by rw [c_5_6]; decide) (by rw [c_5_6]; decide) (by rw [c_5_6]; decide) (by decide) ?_
      refine lv_aload_n hx hb dX5_refusal_114 rfl (lv_at hl 0 rfl) ?_
      refine lv_iload_n hx hb dX5_refusal_115 rfl (lv_at hl 2 rfl) ?_
      replace hF := bd1_s hF
      obtain ⟨r_16, hc_17, hF⟩ := hF
      have hPc : va_P E.1 vwCl (w_X5_freezeRefusal E a_ a_row a_partners a_share a_leftOver c_askedCount c_outcome c_row) s.heap := hP.sub (ws' := [(a_, .inr (6, [.ref a_row, .ref a_partners, .int c_askedCount, .int c_outcome, .ref a_share, .ref a_leftOver])), (a_row, .inl (E.2.1, 81, .inl c_row))]) [0, 1] rfl
      have hrc := va_recv hK hPc (ci := 6) (q0 := 0) rfl rfl
      refine pE_i (va_runV (As := [.int p2]) (rest := [])  ⟨hx, hb, hml, hown, hts⟩ (f_X5_freezeRefusal l E (a_ := a_) (a_row := a_row) (a_partners := a_partners) (a_share := a_share) (a_leftOver := a_leftOver) (p1 := p2) (c_askedCount := c_askedCount) (c_outcome := c_outcome) (c_row := c_row) hc_17) (cwV 1 hts g_f_X5_refusal_f_X5_freezeRefusal_121 rfl rfl rfl hd_X5_freezeRefusal ⟨Nat.le_of_ble_eq_true rfl, Nat.le_of_ble_eq_true rfl⟩) ⟨pP.blind, hrc, (pP.pre ⟨hK, hN⟩ hPc)⟩ rfl rfl hl.1 rfl (lv_room (Nat.le_of_ble_eq_true rfl)) dX5_refusal_116 ⟨Nat.le_of_ble_eq_true rfl, Nat.le_of_ble_eq_true rfl⟩) ?_
      rw [hQ]
      obtain e9_0 := inj1 hF
      exact W.iret (v := r_16) hx hb hr (fun tt ht hW => ⟨_, rfl, e9_0, ht⟩) (fun _ h => by cases h) dX5_refusal_119
    replace hF := inn c_5_6 hF
    refine lv_tableOut (tgt := 120) hx hb dX5_refusal_10 (by have t0 : (0 : Int32).toInt = 0 := (by decide); have t1 : (1 : Int32).toInt = 1 := (by decide); have t2 : (2 : Int32).toInt = 2 := (by decide); have t3 : (3 : Int32).toInt = 3 := (by decide); have t4 : (4 : Int32).toInt = 4 := (by decide); have t5 : (5 : Int32).toInt = 5 := (by decide); have t6 : (6 : Int32).toInt = 6 := (by decide); simp only [← Int32.toInt_inj, t0, t1, t2, t3, t4, t5, t6] at c_5_0 c_5_1 c_5_2 c_5_3 c_5_4 c_5_5 c_5_6; omega) (by decide) ?_
    refine lv_iconst (v := -1) hx hb dX5_refusal_120 (by decide) ?_
    rw [hQ]
    obtain e9_0 := inj1 hF
    exact W.iret (v := (-1 : Int32)) hx hb hr (fun tt ht hW => ⟨_, rfl, e9_0, ht⟩) (fun _ h => by cases h) dX5_refusal_121
  ·
    replace hF := ip c_4 hF
    refine lv_iconst (v := 0) hx hb dX5_refusal_7 (by decide) ?_
    rw [hQ]
    obtain e9_0 := inj1 hF
    exact W.iret (v := (0 : Int32)) hx hb hr (fun tt ht hW => ⟨_, rfl, e9_0, ht⟩) (fun _ h => by cases h) dX5_refusal_8

def F_X5_slackLength (p1 : Int32) (c_row : Nat → Int32) : Option (Int32) :=
  bd1 (F_X5_of p1 (4 : Int32) c_row) (fun r_1 => bd1 (F_X5_of p1 (5 : Int32) c_row) (fun r_3 => some ((absF r_1) + (absF r_3))))
abbrev w_X5_slackLength (E : EE) (a_ a_row a_partners a_share a_leftOver : Nat) (c_askedCount : Int32) (c_outcome : Int32) (c_row : Nat → Int32) : va_W := [(a_, .inr (6, [.ref a_row, .ref a_partners, .int c_askedCount, .int c_outcome, .ref a_share, .ref a_leftOver])), (a_row, .inl (E.2.1, 81, .inl c_row))]
def v_f_X5_slackLength : List Cond := List.cons (.code yX5_slackLength cX5_slackLength 2 (some .int)) (HAppend.hAppend (α := List Cond) (β := List Cond) (γ := List Cond) [.methodLink RX5 94 Lib.Math.abs.name, .static Lib.Math.abs.name, .initialized "java/lang/Math", .code Lib.Math.abs.name Lib.Math.abs.code 1 (some .int), .methodLink RX5 69 yX5_of, .instanceMethod yX5_of, .selects RX5 yX5_of yX5_of, .initialized RX5] (HAppend.hAppend (α := List Cond) (β := List Cond) (γ := List Cond) v_f_X5_of []))
theorem gw_f_X5_slackLength : v_f_X5_slackLength.all goodWord = true := by decide +kernel
theorem g_f_X5_slackLength_f_X5_of_69 : GoodIn v_f_X5_slackLength (wsV RX5 69 RX5 yX5_of v_f_X5_of) := goodIn_app (goodIn_of _ (by decide +kernel)) (goodIn_sub (fun _ h => List.mem_cons_of_mem _ (List.mem_append_right _ (List.mem_append_left _ h))) gw_f_X5_of)
theorem hd_X5_slackLength : yX5_slackLength.cls = RX5 ∧ yX5_slackLength.cls ≠ "java/lang/invoke/MethodHandle" ∧ yX5_slackLength.cls ≠ "java/lang/invoke/VarHandle" ∧ (parseMethodDescriptor yX5_slackLength.desc).map (fun d => d.parameters.length) = some 1 := by decide +kernel
set_option maxHeartbeats 4000000 in
set_option maxRecDepth 100000 in
theorem f_X5_slackLength (l : Launch) (E : EE) {a_ a_row a_partners a_share a_leftOver : Nat} {p1 : Int32} {c_askedCount : Int32} {c_outcome : Int32} {c_row : Nat → Int32} {rr : Int32} (hF : F_X5_slackLength p1 c_row = some rr) : Met l yX5_slackLength v_f_X5_slackLength (({ frames := 1, cells := 0, slots := 0, locals := 22 } : Room)) (va_Pc [.ref a_, .int p1] (pP E (w_X5_slackLength E a_ a_row a_partners a_share a_leftOver c_askedCount c_outcome c_row))) (vp_Si (fun q : Int32 => q = rr)) 0 0 (fun _ => False) := by
  refine Met.ofW (cc := cX5_slackLength) (maxL := 2) (ret := (some .int)) (by decide) rfl ?_
  intro p e s m args below meth c s₁ B hml hv
  obtain ⟨rfl, ⟨hK, hN⟩, hP⟩ := hv
  have hx := B.exec
  have hb := B.bytes
  have hr := B.returns
  have hts := atoms_spec (ws := v_f_X5_slackLength) B.pre
  have hown : s.vm.findClass RX5 = some m.cls := own_of hd_X5_slackLength.1 (findClass_of_methodNamed B.named)
  have hlocks : meth.locks = false := B.notSynchronized
  replace hP : va_P E.1 vwCl [(a_, .inr (6, [.ref a_row, .ref a_partners, .int c_askedCount, .int c_outcome, .ref a_share, .ref a_leftOver])), (a_row, .inl (E.2.1, 81, .inl c_row))] s.heap := hP
  have hl := lv_entry ([.ref a_, .int p1]) (n := 2) (Nat.le_of_ble_eq_true rfl)
  rw [lg_entry_eq]
  generalize (lg_sl ([.ref a_, .int p1]) ++ List.replicate (2 - (lg_sl ([.ref a_, .int p1])).length) Slot.unset).toArray = ls at hl ⊢
  have hl : lv_has ls 2 [(0, .ref a_), (1, .int p1)] := hl
  obtain ⟨Q, hQ⟩ : ∃ Q : State → Prop, Q = MQ below (vp_Si (fun q : Int32 => q = rr)) #[Value.ref a_, Value.int p1] s 0 0 (fun _ => False) := ⟨_, rfl⟩
  rw [← hQ]
  change W p l e ({ frames := 1, cells := 0, slots := 0, locals := 22 } : Room) s m #[Value.ref a_, Value.int p1] below meth c s.heap [] 0 0 Q (F0 m 0 ls [])
  unfold F_X5_slackLength at hF
  refine lv_aload_n hx hb dX5_slackLength_0 rfl (lv_at hl 0 rfl) ?_
  refine lv_iload_n hx hb dX5_slackLength_1 rfl (lv_at hl 1 rfl) ?_
  refine lv_iconst (v := 4) hx hb dX5_slackLength_2 (by decide) ?_
  replace hF := bd1_s hF
  obtain ⟨r_1, hc_2, hF⟩ := hF
  have hPc : va_P E.1 vwCl (w_X5_of E a_ a_row a_partners a_share a_leftOver c_askedCount c_outcome c_row) s.heap := hP.sub (ws' := [(a_, .inr (6, [.ref a_row, .ref a_partners, .int c_askedCount, .int c_outcome, .ref a_share, .ref a_leftOver])), (a_row, .inl (E.2.1, 81, .inl c_row))]) [0, 1] rfl
  have hrc := va_recv hK hPc (ci := 6) (q0 := 0) rfl rfl
  refine pE_i (va_runV (As := [.int p1, .int (4 : Int32)]) (rest := [])  ⟨hx, hb, hml, hown, hts⟩ (f_X5_of l E (a_ := a_) (a_row := a_row) (a_partners := a_partners) (a_share := a_share) (a_leftOver := a_leftOver) (p1 := p1) (p2 := (4 : Int32)) (c_askedCount := c_askedCount) (c_outcome := c_outcome) (c_row := c_row) hc_2) (cwV 2 hts g_f_X5_slackLength_f_X5_of_69 rfl rfl rfl hd_X5_of ⟨Nat.le_of_ble_eq_true rfl, Nat.le_of_ble_eq_true rfl⟩) ⟨pP.blind, hrc, (pP.pre ⟨hK, hN⟩ hPc)⟩ rfl rfl hl.1 rfl (lv_room (Nat.le_of_ble_eq_true rfl)) dX5_slackLength_3 ⟨Nat.le_of_ble_eq_true rfl, Nat.le_of_ble_eq_true rfl⟩) ?_
  refine va_mabs hx hb (hml.trans hl.1.symm) hown (hts (.methodLink RX5 94 Lib.Math.abs.name) (List.mem_of_getElem? (i := 1) rfl)) (hts (.static Lib.Math.abs.name) (List.mem_of_getElem? (i := 2) rfl)) (hts (.initialized "java/lang/Math") (List.mem_of_getElem? (i := 3) rfl)) (hts (.code Lib.Math.abs.name Lib.Math.abs.code 1 (some .int)) (List.mem_of_getElem? (i := 4) rfl)) (Nat.le_of_ble_eq_true rfl) (Nat.le_of_ble_eq_true rfl) (Nat.le_of_ble_eq_true rfl) (Nat.le_of_ble_eq_true rfl) dX5_slackLength_6 ?_
  refine W.eq (g2 := F0 m 9 ls [.int (absF r_1)]) rfl ?_
  refine lv_aload_n hx hb dX5_slackLength_9 rfl (lv_at hl 0 rfl) ?_
  refine lv_iload_n hx hb dX5_slackLength_10 rfl (lv_at hl 1 rfl) ?_
  refine lv_iconst (v := 5) hx hb dX5_slackLength_11 (by decide) ?_
  replace hF := bd1_s hF
  obtain ⟨r_3, hc_4, hF⟩ := hF
  have hPc : va_P E.1 vwCl (w_X5_of E a_ a_row a_partners a_share a_leftOver c_askedCount c_outcome c_row) s.heap := hP.sub (ws' := [(a_, .inr (6, [.ref a_row, .ref a_partners, .int c_askedCount, .int c_outcome, .ref a_share, .ref a_leftOver])), (a_row, .inl (E.2.1, 81, .inl c_row))]) [0, 1] rfl
  have hrc := va_recv hK hPc (ci := 6) (q0 := 0) rfl rfl
  refine pE_i (va_runV (As := [.int p1, .int (5 : Int32)]) (rest := [.int (absF r_1)])  ⟨hx, hb, hml, hown, hts⟩ (f_X5_of l E (a_ := a_) (a_row := a_row) (a_partners := a_partners) (a_share := a_share) (a_leftOver := a_leftOver) (p1 := p1) (p2 := (5 : Int32)) (c_askedCount := c_askedCount) (c_outcome := c_outcome) (c_row := c_row) hc_4) (cwV 2 hts g_f_X5_slackLength_f_X5_of_69 rfl rfl rfl hd_X5_of ⟨Nat.le_of_ble_eq_true rfl, Nat.le_of_ble_eq_true rfl⟩) ⟨pP.blind, hrc, (pP.pre ⟨hK, hN⟩ hPc)⟩ rfl rfl hl.1 rfl (lv_room (Nat.le_of_ble_eq_true rfl)) dX5_slackLength_12 ⟨Nat.le_of_ble_eq_true rfl, Nat.le_of_ble_eq_true rfl⟩) ?_
  refine va_mabs hx hb (hml.trans hl.1.symm) hown (hts (.methodLink RX5 94 Lib.Math.abs.name) (List.mem_of_getElem? (i := 1) rfl)) (hts (.static Lib.Math.abs.name) (List.mem_of_getElem? (i := 2) rfl)) (hts (.initialized "java/lang/Math") (List.mem_of_getElem? (i := 3) rfl)) (hts (.code Lib.Math.abs.name Lib.Math.abs.code 1 (some .int)) (List.mem_of_getElem? (i := 4) rfl)) (Nat.le_of_ble_eq_true rfl) (Nat.le_of_ble_eq_true rfl) (Nat.le_of_ble_eq_true rfl) (Nat.le_of_ble_eq_true rfl) dX5_slackLength_15 ?_
  refine W.eq (g2 := F0 m 18 ls [.int (absF r_3), .int (absF r_1)]) rfl ?_
  refine lv_iadd hx hb dX5_slackLength_18 ?_
  rw [hQ]
  obtain e9_0 := inj1 hF
  exact W.iret (v := (absF r_1) + (absF r_3)) hx hb hr (fun tt ht hW => ⟨_, rfl, e9_0, ht⟩) (fun _ h => by cases h) dX5_slackLength_19

def B_X5_slackSites_4 (c_row : Nat → Int32) (x1 : Int32) (x2 : Int32) : Option ((Int32 × Int32) ⊕ (Int32)) :=
  bd1 (F_X5_sites c_row) (fun r_1 => if r_1 ≤ x2 then some (.inr x1) else bd1 (F_X5_slackLength x2 c_row) (fun r_4 => if r_4 = (0 : Int32) then some (.inl (x1 ||| (0 : Int32), x2 + (1 : Int32))) else some (.inl (x1 ||| ((1 : Int32) <<< (x2 &&& (31 : Int32))), x2 + (1 : Int32)))))
def F_X5_slackSites (K : Nat) (c_row : Nat → Int32) : Option (Int32) :=
  bd1 (lpF (fun u9 : Int32 × Int32 => B_X5_slackSites_4 c_row u9.1 u9.2) K ((0 : Int32), (0 : Int32))) (fun x1_7 => some x1_7)
abbrev w_X5_slackSites (E : EE) (a_ a_row a_partners a_share a_leftOver : Nat) (c_askedCount : Int32) (c_outcome : Int32) (c_row : Nat → Int32) : va_W := [(a_, .inr (6, [.ref a_row, .ref a_partners, .int c_askedCount, .int c_outcome, .ref a_share, .ref a_leftOver])), (a_row, .inl (E.2.1, 81, .inl c_row))]
def v_f_X5_slackSites : List Cond := List.cons (.code yX5_slackSites cX5_slackSites 3 (some .int)) (HAppend.hAppend (α := List Cond) (β := List Cond) (γ := List Cond) [.methodLink RX5 45 yX5_sites, .instanceMethod yX5_sites, .selects RX5 yX5_sites yX5_sites, .initialized RX5, .methodLink RX5 102 yX5_slackLength, .instanceMethod yX5_slackLength, .selects RX5 yX5_slackLength yX5_slackLength] (HAppend.hAppend (α := List Cond) (β := List Cond) (γ := List Cond) v_f_X5_sites (HAppend.hAppend (α := List Cond) (β := List Cond) (γ := List Cond) v_f_X5_slackLength [])))
theorem gw_f_X5_slackSites : v_f_X5_slackSites.all goodWord = true := by decide +kernel
theorem g_f_X5_slackSites_f_X5_sites_45 : GoodIn v_f_X5_slackSites (wsV RX5 45 RX5 yX5_sites v_f_X5_sites) := goodIn_app (goodIn_of _ (by decide +kernel)) (goodIn_sub (fun _ h => List.mem_cons_of_mem _ (List.mem_append_right _ (List.mem_append_left _ h))) gw_f_X5_sites)
theorem g_f_X5_slackSites_f_X5_slackLength_102 : GoodIn v_f_X5_slackSites (wsV RX5 102 RX5 yX5_slackLength v_f_X5_slackLength) := goodIn_app (goodIn_of _ (by decide +kernel)) (goodIn_sub (fun _ h => List.mem_cons_of_mem _ (List.mem_append_right _ (List.mem_append_right _ (List.mem_append_left _ h)))) gw_f_X5_slackLength)
theorem hd_X5_slackSites : yX5_slackSites.cls = RX5 ∧ yX5_slackSites.cls ≠ "java/lang/invoke/MethodHandle" ∧ yX5_slackSites.cls ≠ "java/lang/invoke/VarHandle" ∧ (parseMethodDescriptor yX5_slackSites.desc).map (fun d => d.parameters.length) = some 0 := by decide +kernel
set_option maxHeartbeats 4000000 in
set_option maxRecDepth 100000 in
theorem wb_X5_slackSites_4 {p : Program} (l : Launch) {e : Env} {s : State} {m : MethodId} {below : List Frame} {meth : Method} {c : Code} {Q : State → Prop} (E : EE) (K : Nat) {a_ a_row a_partners a_share a_leftOver : Nat} {c_askedCount : Int32} {c_outcome : Int32} {c_row : Nat → Int32} {x1 : Int32} {x2 : Int32} (hx : p.tables.exec = Jvm.exec) (hb : c.code = cX5_slackSites) (hml : c.maxLocals = 3) (hown : s.vm.findClass RX5 = some m.cls) (hts : ∀ w ∈ v_f_X5_slackSites, w.before #[Value.ref a_] s = true) (hK : va_K E.1 vwCl (TY E) s) (hN : NX s) {xx : (Int32 × Int32) ⊕ (Int32)} (hC : ∀ (x1 : Int32), ∀ (x2 : Int32), xx = .inl (x1, x2) → ∀ (ls : Array Slot), lv_has ls 3 [(0, .ref a_), (1, .int x1), (2, .int x2)] → W p l e ({ frames := 2, cells := 0, slots := 0, locals := 43 } : Room) s m #[Value.ref a_] below meth c s.heap [] 0 0 Q (F0 m 4 ls [])) (hE : ∀ (x1 : Int32), xx = .inr x1 → ((∀ (ls : Array Slot), lv_has ls 3 [(1, .int x1)] → W p l e ({ frames := 2, cells := 0, slots := 0, locals := 43 } : Room) s m #[Value.ref a_] below meth c s.heap [] 0 0 Q (F0 m 36 ls [])))) (hF : B_X5_slackSites_4 c_row x1 x2 = some xx) (hP : va_P E.1 vwCl (w_X5_slackSites E a_ a_row a_partners a_share a_leftOver c_askedCount c_outcome c_row) s.heap) : ∀ (ls : Array Slot), lv_has ls 3 [(0, .ref a_), (1, .int x1), (2, .int x2)] → W p l e ({ frames := 2, cells := 0, slots := 0, locals := 43 } : Room) s m #[Value.ref a_] below meth c s.heap [] 0 0 Q (F0 m 4 ls []) := by
  unfold B_X5_slackSites_4 at hF
  replace hP : va_P E.1 vwCl [(a_, .inr (6, [.ref a_row, .ref a_partners, .int c_askedCount, .int c_outcome, .ref a_share, .ref a_leftOver])), (a_row, .inl (E.2.1, 81, .inl c_row))] s.heap := hP
  intro ls hl
  refine lv_iload_n hx hb dX5_slackSites_4 rfl (lv_at hl 2 rfl) ?_
  refine lv_aload_n hx hb dX5_slackSites_5 rfl (lv_at hl 0 rfl) ?_
  replace hF := bd1_s hF
  obtain ⟨r_1, hc_2, hF⟩ := hF
  have hPc : va_P E.1 vwCl (w_X5_sites E a_ a_row a_partners a_share a_leftOver c_askedCount c_outcome c_row) s.heap := hP.sub (ws' := [(a_, .inr (6, [.ref a_row, .ref a_partners, .int c_askedCount, .int c_outcome, .ref a_share, .ref a_leftOver])), (a_row, .inl (E.2.1, 81, .inl c_row))]) [0, 1] rfl
  have hrc := va_recv hK hPc (ci := 6) (q0 := 0) rfl rfl
  refine pE_i (va_runV (As := []) (rest := [.int x2])  ⟨hx, hb, hml, hown, hts⟩ (f_X5_sites l E (a_ := a_) (a_row := a_row) (a_partners := a_partners) (a_share := a_share) (a_leftOver := a_leftOver) (c_askedCount := c_askedCount) (c_outcome := c_outcome) (c_row := c_row) hc_2) (cwV 0 hts g_f_X5_slackSites_f_X5_sites_45 rfl rfl rfl hd_X5_sites ⟨Nat.le_of_ble_eq_true rfl, Nat.le_of_ble_eq_true rfl⟩) ⟨pP.blind, hrc, (pP.pre ⟨hK, hN⟩ hPc)⟩ rfl rfl hl.1 rfl (lv_room (Nat.le_of_ble_eq_true rfl)) dX5_slackSites_6 ⟨Nat.le_of_ble_eq_true rfl, Nat.le_of_ble_eq_true rfl⟩) ?_
  refine lv_icmp_ge (tgt := 36) hx hb dX5_slackSites_9 (by decide) (fun c_3 => ?_) (fun c_3 => ?_)
  ·
    replace hF := ip c_3 hF
    cases hF
    exact hE x1 rfl ls (lv_sub hl [1] rfl)
  ·
    replace hF := inn c_3 hF
    refine lv_iload_n hx hb dX5_slackSites_12 rfl (lv_at hl 1 rfl) ?_
    refine lv_aload_n hx hb dX5_slackSites_13 rfl (lv_at hl 0 rfl) ?_
    refine lv_iload_n hx hb dX5_slackSites_14 rfl (lv_at hl 2 rfl) ?_
    replace hF := bd1_s hF
    obtain ⟨r_4, hc_5, hF⟩ := hF
    have hPc : va_P E.1 vwCl (w_X5_slackLength E a_ a_row a_partners a_share a_leftOver c_askedCount c_outcome c_row) s.heap := hP.sub (ws' := [(a_, .inr (6, [.ref a_row, .ref a_partners, .int c_askedCount, .int c_outcome, .ref a_share, .ref a_leftOver])), (a_row, .inl (E.2.1, 81, .inl c_row))]) [0, 1] rfl
    have hrc := va_recv hK hPc (ci := 6) (q0 := 0) rfl rfl
    refine pE_i (va_runV (As := [.int x2]) (rest := [.int x1])  ⟨hx, hb, hml, hown, hts⟩ (f_X5_slackLength l E (a_ := a_) (a_row := a_row) (a_partners := a_partners) (a_share := a_share) (a_leftOver := a_leftOver) (p1 := x2) (c_askedCount := c_askedCount) (c_outcome := c_outcome) (c_row := c_row) hc_5) (cwV 1 hts g_f_X5_slackSites_f_X5_slackLength_102 rfl rfl rfl hd_X5_slackLength ⟨Nat.le_of_ble_eq_true rfl, Nat.le_of_ble_eq_true rfl⟩) ⟨pP.blind, hrc, (pP.pre ⟨hK, hN⟩ hPc)⟩ rfl rfl hl.1 rfl (lv_room (Nat.le_of_ble_eq_true rfl)) dX5_slackSites_15 ⟨Nat.le_of_ble_eq_true rfl, Nat.le_of_ble_eq_true rfl⟩) ?_
    refine lv_if_eq (tgt := 27) hx hb dX5_slackSites_18 (by decide) (fun c_6 => ?_) (fun c_6 => ?_)
    ·
      replace hF := ip c_6 hF
      refine lv_iconst (v := 0) hx hb dX5_slackSites_27 (by decide) ?_
      refine lv_ior hx hb dX5_slackSites_28 ?_
      refine lv_istore_n (lv' := [(1, .int (x1 ||| (0 : Int32))), (0, .ref a_), (2, .int x2)]) hx hb dX5_slackSites_29 rfl hl (by decide) rfl (fun ls hl => ?_)
      refine lv_iinc (v := x2 + (1 : Int32)) (lv' := [(2, .int (x2 + (1 : Int32))), (1, .int (x1 ||| (0 : Int32))), (0, .ref a_)]) hx hb dX5_slackSites_30 hl (k := 2) rfl (rfl) (by decide) rfl (fun ls hl => ?_)
      refine lv_goto (tgt := 4) hx hb dX5_slackSites_33 (by decide) ?_
      cases hF
      exact hC (x1 ||| (0 : Int32)) (x2 + (1 : Int32)) rfl ls (lv_sub hl [2, 1, 0] rfl)
    ·
      replace hF := inn c_6 hF
      refine lv_iconst (v := 1) hx hb dX5_slackSites_21 (by decide) ?_
      refine lv_iload_n hx hb dX5_slackSites_22 rfl (lv_at hl 2 rfl) ?_
      refine lv_ishl hx hb dX5_slackSites_23 ?_
      refine lv_goto (tgt := 28) hx hb dX5_slackSites_24 (by decide) ?_
      refine lv_ior hx hb dX5_slackSites_28 ?_
      refine lv_istore_n (lv' := [(1, .int (x1 ||| ((1 : Int32) <<< (x2 &&& (31 : Int32))))), (0, .ref a_), (2, .int x2)]) hx hb dX5_slackSites_29 rfl hl (by decide) rfl (fun ls hl => ?_)
      refine lv_iinc (v := x2 + (1 : Int32)) (lv' := [(2, .int (x2 + (1 : Int32))), (1, .int (x1 ||| ((1 : Int32) <<< (x2 &&& (31 : Int32))))), (0, .ref a_)]) hx hb dX5_slackSites_30 hl (k := 2) rfl (rfl) (by decide) rfl (fun ls hl => ?_)
      refine lv_goto (tgt := 4) hx hb dX5_slackSites_33 (by decide) ?_
      cases hF
      exact hC (x1 ||| ((1 : Int32) <<< (x2 &&& (31 : Int32)))) (x2 + (1 : Int32)) rfl ls (lv_sub hl [2, 1, 0] rfl)

set_option maxHeartbeats 4000000 in
set_option maxRecDepth 100000 in
theorem lw_X5_slackSites_4 {p : Program} (l : Launch) {e : Env} {s : State} {m : MethodId} {below : List Frame} {meth : Method} {c : Code} {Q : State → Prop} (E : EE) (K : Nat) {a_ a_row a_partners a_share a_leftOver : Nat} {c_askedCount : Int32} {c_outcome : Int32} {c_row : Nat → Int32} (hx : p.tables.exec = Jvm.exec) (hb : c.code = cX5_slackSites) (hml : c.maxLocals = 3) (hown : s.vm.findClass RX5 = some m.cls) (hts : ∀ w ∈ v_f_X5_slackSites, w.before #[Value.ref a_] s = true) (hK : va_K E.1 vwCl (TY E) s) (hN : NX s) (hP : va_P E.1 vwCl (w_X5_slackSites E a_ a_row a_partners a_share a_leftOver c_askedCount c_outcome c_row) s.heap) (j9 : Nat) (x1 : Int32) (x2 : Int32) (x1' : Int32) (hL : lpF (fun u9 : Int32 × Int32 => B_X5_slackSites_4 c_row u9.1 u9.2) j9 (x1, x2) = some x1') (hX : (∀ (ls : Array Slot), lv_has ls 3 [(1, .int x1')] → W p l e ({ frames := 2, cells := 0, slots := 0, locals := 43 } : Room) s m #[Value.ref a_] below meth c s.heap [] 0 0 Q (F0 m 36 ls []))) : ∀ (ls : Array Slot), lv_has ls 3 [(0, .ref a_), (1, .int x1), (2, .int x2)] → W p l e ({ frames := 2, cells := 0, slots := 0, locals := 43 } : Room) s m #[Value.ref a_] below meth c s.heap [] 0 0 Q (F0 m 4 ls []) := by
  exact lp_rule (P := (fun u9 : Int32 × Int32 => ∀ (ls : Array Slot), lv_has ls 3 [(0, .ref a_), (1, .int u9.1), (2, .int u9.2)] → W p l e ({ frames := 2, cells := 0, slots := 0, locals := 43 } : Room) s m #[Value.ref a_] below meth c s.heap [] 0 0 Q (F0 m 4 ls []))) (R := (fun r9 : Int32 => (∀ (ls : Array Slot), lv_has ls 3 [(1, .int r9)] → W p l e ({ frames := 2, cells := 0, slots := 0, locals := 43 } : Room) s m #[Value.ref a_] below meth c s.heap [] 0 0 Q (F0 m 36 ls [])))) (fun u9 xx hF hC hE => wb_X5_slackSites_4 l E K (c_askedCount := c_askedCount) (c_outcome := c_outcome) (c_row := c_row) (x1 := u9.1) (x2 := u9.2) hx hb hml hown hts hK hN (fun x1 x2 q9 => hC _ q9) (fun x1 q9 => hE _ q9) hF hP) j9 (x1, x2) x1' hL hX

set_option maxHeartbeats 4000000 in
set_option maxRecDepth 100000 in
theorem f_X5_slackSites (l : Launch) (E : EE) (K : Nat) {a_ a_row a_partners a_share a_leftOver : Nat} {c_askedCount : Int32} {c_outcome : Int32} {c_row : Nat → Int32} {rr : Int32} (hF : F_X5_slackSites K c_row = some rr) : Met l yX5_slackSites v_f_X5_slackSites (({ frames := 2, cells := 0, slots := 0, locals := 43 } : Room)) (va_Pc [.ref a_] (pP E (w_X5_slackSites E a_ a_row a_partners a_share a_leftOver c_askedCount c_outcome c_row))) (vp_Si (fun q : Int32 => q = rr)) 0 0 (fun _ => False) := by
  refine Met.ofW (cc := cX5_slackSites) (maxL := 3) (ret := (some .int)) (by decide) rfl ?_
  intro p e s m args below meth c s₁ B hml hv
  obtain ⟨rfl, ⟨hK, hN⟩, hP⟩ := hv
  have hx := B.exec
  have hb := B.bytes
  have hr := B.returns
  have hts := atoms_spec (ws := v_f_X5_slackSites) B.pre
  have hown : s.vm.findClass RX5 = some m.cls := own_of hd_X5_slackSites.1 (findClass_of_methodNamed B.named)
  have hlocks : meth.locks = false := B.notSynchronized
  replace hP : va_P E.1 vwCl [(a_, .inr (6, [.ref a_row, .ref a_partners, .int c_askedCount, .int c_outcome, .ref a_share, .ref a_leftOver])), (a_row, .inl (E.2.1, 81, .inl c_row))] s.heap := hP
  have hl := lv_entry ([.ref a_]) (n := 3) (Nat.le_of_ble_eq_true rfl)
  rw [lg_entry_eq]
  generalize (lg_sl ([.ref a_]) ++ List.replicate (3 - (lg_sl ([.ref a_])).length) Slot.unset).toArray = ls at hl ⊢
  have hl : lv_has ls 3 [(0, .ref a_)] := hl
  obtain ⟨Q, hQ⟩ : ∃ Q : State → Prop, Q = MQ below (vp_Si (fun q : Int32 => q = rr)) #[Value.ref a_] s 0 0 (fun _ => False) := ⟨_, rfl⟩
  rw [← hQ]
  change W p l e ({ frames := 2, cells := 0, slots := 0, locals := 43 } : Room) s m #[Value.ref a_] below meth c s.heap [] 0 0 Q (F0 m 0 ls [])
  unfold F_X5_slackSites at hF
  refine lv_iconst (v := 0) hx hb dX5_slackSites_0 (by decide) ?_
  refine lv_istore_n (lv' := [(1, .int (0 : Int32)), (0, .ref a_)]) hx hb dX5_slackSites_1 rfl hl (by decide) rfl (fun ls hl => ?_)
  refine lv_iconst (v := 0) hx hb dX5_slackSites_2 (by decide) ?_
  refine lv_istore_n (lv' := [(2, .int (0 : Int32)), (1, .int (0 : Int32)), (0, .ref a_)]) hx hb dX5_slackSites_3 rfl hl (by decide) rfl (fun ls hl => ?_)
  replace hF := bd1_s hF
  obtain ⟨x1_7, hL_8, hF⟩ := hF
  refine lw_X5_slackSites_4 l E K (c_askedCount := c_askedCount) (c_outcome := c_outcome) (c_row := c_row) hx hb hml hown hts hK hN hP K (0 : Int32) (0 : Int32) x1_7 hL_8 ?_ ls (lv_sub hl [2, 1, 0] rfl)
  ·
    intro ls hl
    refine lv_iload_n hx hb dX5_slackSites_36 rfl (lv_at hl 0 rfl) ?_
    rw [hQ]
    obtain e9_0 := inj1 hF
    exact W.iret (v := x1_7) hx hb hr (fun tt ht hW => ⟨_, rfl, e9_0, ht⟩) (fun _ h => by cases h) dX5_slackSites_37

def J_X5_unmovedSites_47_r5 (k0 : Int32) (x1 : Int32) (x2 : Int32) : Option ((Int32 × Int32) ⊕ (Int32)) :=
  if k0 = (0 : Int32) then some (.inl (x1 ||| (0 : Int32), x2 + (1 : Int32))) else some (.inl (x1 ||| ((1 : Int32) <<< (x2 &&& (31 : Int32))), x2 + (1 : Int32)))
def J_X5_unmovedSites_46_r5 (x1 : Int32) (x2 : Int32) : Option ((Int32 × Int32) ⊕ (Int32)) :=
  J_X5_unmovedSites_47_r5 (0 : Int32) x1 x2
def B_X5_unmovedSites_4 (c_row : Nat → Int32) (x1 : Int32) (x2 : Int32) : Option ((Int32 × Int32) ⊕ (Int32)) :=
  bd1 (F_X5_sites c_row) (fun r_1 => if r_1 ≤ x2 then some (.inr x1) else bd1 (F_X5_of x2 (0 : Int32) c_row) (fun r_4 => bd1 (F_X5_of x2 (2 : Int32) c_row) (fun r_6 => if r_4 = r_6 then bd1 (F_X5_of x2 (1 : Int32) c_row) (fun r_10 => bd1 (F_X5_of x2 (3 : Int32) c_row) (fun r_12 => if r_10 = r_12 then J_X5_unmovedSites_47_r5 (1 : Int32) x1 x2 else J_X5_unmovedSites_46_r5 x1 x2)) else J_X5_unmovedSites_46_r5 x1 x2)))
def F_X5_unmovedSites (K : Nat) (c_row : Nat → Int32) : Option (Int32) :=
  bd1 (lpF (fun u9 : Int32 × Int32 => B_X5_unmovedSites_4 c_row u9.1 u9.2) K ((0 : Int32), (0 : Int32))) (fun x1_15 => some x1_15)
abbrev w_X5_unmovedSites (E : EE) (a_ a_row a_partners a_share a_leftOver : Nat) (c_askedCount : Int32) (c_outcome : Int32) (c_row : Nat → Int32) : va_W := [(a_, .inr (6, [.ref a_row, .ref a_partners, .int c_askedCount, .int c_outcome, .ref a_share, .ref a_leftOver])), (a_row, .inl (E.2.1, 81, .inl c_row))]
def v_f_X5_unmovedSites : List Cond := List.cons (.code yX5_unmovedSites cX5_unmovedSites 4 (some .int)) (HAppend.hAppend (α := List Cond) (β := List Cond) (γ := List Cond) [.methodLink RX5 45 yX5_sites, .instanceMethod yX5_sites, .selects RX5 yX5_sites yX5_sites, .initialized RX5, .methodLink RX5 69 yX5_of, .instanceMethod yX5_of, .selects RX5 yX5_of yX5_of] (HAppend.hAppend (α := List Cond) (β := List Cond) (γ := List Cond) v_f_X5_sites (HAppend.hAppend (α := List Cond) (β := List Cond) (γ := List Cond) v_f_X5_of [])))
theorem gw_f_X5_unmovedSites : v_f_X5_unmovedSites.all goodWord = true := by decide +kernel
theorem g_f_X5_unmovedSites_f_X5_sites_45 : GoodIn v_f_X5_unmovedSites (wsV RX5 45 RX5 yX5_sites v_f_X5_sites) := goodIn_app (goodIn_of _ (by decide +kernel)) (goodIn_sub (fun _ h => List.mem_cons_of_mem _ (List.mem_append_right _ (List.mem_append_left _ h))) gw_f_X5_sites)
theorem g_f_X5_unmovedSites_f_X5_of_69 : GoodIn v_f_X5_unmovedSites (wsV RX5 69 RX5 yX5_of v_f_X5_of) := goodIn_app (goodIn_of _ (by decide +kernel)) (goodIn_sub (fun _ h => List.mem_cons_of_mem _ (List.mem_append_right _ (List.mem_append_right _ (List.mem_append_left _ h)))) gw_f_X5_of)
theorem hd_X5_unmovedSites : yX5_unmovedSites.cls = RX5 ∧ yX5_unmovedSites.cls ≠ "java/lang/invoke/MethodHandle" ∧ yX5_unmovedSites.cls ≠ "java/lang/invoke/VarHandle" ∧ (parseMethodDescriptor yX5_unmovedSites.desc).map (fun d => d.parameters.length) = some 0 := by decide +kernel
set_option maxHeartbeats 4000000 in
set_option maxRecDepth 100000 in
theorem j_X5_unmovedSites_47_r5 {p : Program} (l : Launch) {e : Env} {s : State} {m : MethodId} {below : List Frame} {meth : Method} {c : Code} {Q : State → Prop} (E : EE) (K : Nat) {a_ a_row a_partners a_share a_leftOver : Nat} {c_askedCount : Int32} {c_outcome : Int32} {c_row : Nat → Int32} {k0 : Int32} {x1 : Int32} {x2 : Int32} (hx : p.tables.exec = Jvm.exec) (hb : c.code = cX5_unmovedSites) (hml : c.maxLocals = 4) (hown : s.vm.findClass RX5 = some m.cls) (hts : ∀ w ∈ v_f_X5_unmovedSites, w.before #[Value.ref a_] s = true) (hK : va_K E.1 vwCl (TY E) s) (hN : NX s) {xx : (Int32 × Int32) ⊕ (Int32)} (hC : ∀ (x1 : Int32), ∀ (x2 : Int32), xx = .inl (x1, x2) → ∀ (ls : Array Slot), lv_has ls 4 [(0, .ref a_), (1, .int x1), (2, .int x2)] → W p l e ({ frames := 1, cells := 0, slots := 0, locals := 22 } : Room) s m #[Value.ref a_] below meth c s.heap [] 0 0 Q (F0 m 4 ls [])) (hE : ∀ (x1 : Int32), xx = .inr x1 → ((∀ (ls : Array Slot), lv_has ls 4 [(1, .int x1)] → W p l e ({ frames := 1, cells := 0, slots := 0, locals := 22 } : Room) s m #[Value.ref a_] below meth c s.heap [] 0 0 Q (F0 m 68 ls [])))) (hF : J_X5_unmovedSites_47_r5 k0 x1 x2 = some xx) (hP : va_P E.1 vwCl (w_X5_unmovedSites E a_ a_row a_partners a_share a_leftOver c_askedCount c_outcome c_row) s.heap) : ∀ (ls : Array Slot), lv_has ls 4 [(0, .ref a_), (1, .int x1), (2, .int x2)] → W p l e ({ frames := 1, cells := 0, slots := 0, locals := 22 } : Room) s m #[Value.ref a_] below meth c s.heap [] 0 0 Q (F0 m 47 ls [.int k0]) := by
  unfold J_X5_unmovedSites_47_r5 at hF
  replace hP : va_P E.1 vwCl [(a_, .inr (6, [.ref a_row, .ref a_partners, .int c_askedCount, .int c_outcome, .ref a_share, .ref a_leftOver])), (a_row, .inl (E.2.1, 81, .inl c_row))] s.heap := hP
  intro ls hl
  refine lv_istore_n (lv' := [(3, .int k0), (0, .ref a_), (1, .int x1), (2, .int x2)]) hx hb dX5_unmovedSites_47 rfl hl (by decide) rfl (fun ls hl => ?_)
  refine lv_iload_n hx hb dX5_unmovedSites_48 rfl (lv_at hl 2 rfl) ?_
  refine lv_iload_n hx hb dX5_unmovedSites_49 rfl (lv_at hl 0 rfl) ?_
  refine lv_if_eq (tgt := 59) hx hb dX5_unmovedSites_50 (by decide) (fun c_9 => ?_) (fun c_9 => ?_)
  ·
    replace hF := ip c_9 hF
    refine lv_iconst (v := 0) hx hb dX5_unmovedSites_59 (by decide) ?_
    refine lv_ior hx hb dX5_unmovedSites_60 ?_
    refine lv_istore_n (lv' := [(1, .int (x1 ||| (0 : Int32))), (3, .int k0), (0, .ref a_), (2, .int x2)]) hx hb dX5_unmovedSites_61 rfl hl (by decide) rfl (fun ls hl => ?_)
    refine lv_iinc (v := x2 + (1 : Int32)) (lv' := [(2, .int (x2 + (1 : Int32))), (1, .int (x1 ||| (0 : Int32))), (3, .int k0), (0, .ref a_)]) hx hb dX5_unmovedSites_62 hl (k := 3) rfl (rfl) (by decide) rfl (fun ls hl => ?_)
    refine lv_goto (tgt := 4) hx hb dX5_unmovedSites_65 (by decide) ?_
    cases hF
    exact hC (x1 ||| (0 : Int32)) (x2 + (1 : Int32)) rfl ls (lv_sub hl [3, 1, 0] rfl)
  ·
    replace hF := inn c_9 hF
    refine lv_iconst (v := 1) hx hb dX5_unmovedSites_53 (by decide) ?_
    refine lv_iload_n hx hb dX5_unmovedSites_54 rfl (lv_at hl 3 rfl) ?_
    refine lv_ishl hx hb dX5_unmovedSites_55 ?_
    refine lv_goto (tgt := 60) hx hb dX5_unmovedSites_56 (by decide) ?_
    refine lv_ior hx hb dX5_unmovedSites_60 ?_
    refine lv_istore_n (lv' := [(1, .int (x1 ||| ((1 : Int32) <<< (x2 &&& (31 : Int32))))), (3, .int k0), (0, .ref a_), (2, .int x2)]) hx hb dX5_unmovedSites_61 rfl hl (by decide) rfl (fun ls hl => ?_)
    refine lv_iinc (v := x2 + (1 : Int32)) (lv' := [(2, .int (x2 + (1 : Int32))), (1, .int (x1 ||| ((1 : Int32) <<< (x2 &&& (31 : Int32))))), (3, .int k0), (0, .ref a_)]) hx hb dX5_unmovedSites_62 hl (k := 3) rfl (rfl) (by decide) rfl (fun ls hl => ?_)
    refine lv_goto (tgt := 4) hx hb dX5_unmovedSites_65 (by decide) ?_
    cases hF
    exact hC (x1 ||| ((1 : Int32) <<< (x2 &&& (31 : Int32)))) (x2 + (1 : Int32)) rfl ls (lv_sub hl [3, 1, 0] rfl)

set_option maxHeartbeats 4000000 in
set_option maxRecDepth 100000 in
theorem j_X5_unmovedSites_46_r5 {p : Program} (l : Launch) {e : Env} {s : State} {m : MethodId} {below : List Frame} {meth : Method} {c : Code} {Q : State → Prop} (E : EE) (K : Nat) {a_ a_row a_partners a_share a_leftOver : Nat} {c_askedCount : Int32} {c_outcome : Int32} {c_row : Nat → Int32} {x1 : Int32} {x2 : Int32} (hx : p.tables.exec = Jvm.exec) (hb : c.code = cX5_unmovedSites) (hml : c.maxLocals = 4) (hown : s.vm.findClass RX5 = some m.cls) (hts : ∀ w ∈ v_f_X5_unmovedSites, w.before #[Value.ref a_] s = true) (hK : va_K E.1 vwCl (TY E) s) (hN : NX s) {xx : (Int32 × Int32) ⊕ (Int32)} (hC : ∀ (x1 : Int32), ∀ (x2 : Int32), xx = .inl (x1, x2) → ∀ (ls : Array Slot), lv_has ls 4 [(0, .ref a_), (1, .int x1), (2, .int x2)] → W p l e ({ frames := 1, cells := 0, slots := 0, locals := 22 } : Room) s m #[Value.ref a_] below meth c s.heap [] 0 0 Q (F0 m 4 ls [])) (hE : ∀ (x1 : Int32), xx = .inr x1 → ((∀ (ls : Array Slot), lv_has ls 4 [(1, .int x1)] → W p l e ({ frames := 1, cells := 0, slots := 0, locals := 22 } : Room) s m #[Value.ref a_] below meth c s.heap [] 0 0 Q (F0 m 68 ls [])))) (hF : J_X5_unmovedSites_46_r5 x1 x2 = some xx) (hP : va_P E.1 vwCl (w_X5_unmovedSites E a_ a_row a_partners a_share a_leftOver c_askedCount c_outcome c_row) s.heap) : ∀ (ls : Array Slot), lv_has ls 4 [(0, .ref a_), (1, .int x1), (2, .int x2)] → W p l e ({ frames := 1, cells := 0, slots := 0, locals := 22 } : Room) s m #[Value.ref a_] below meth c s.heap [] 0 0 Q (F0 m 46 ls []) := by
  unfold J_X5_unmovedSites_46_r5 at hF
  replace hP : va_P E.1 vwCl [(a_, .inr (6, [.ref a_row, .ref a_partners, .int c_askedCount, .int c_outcome, .ref a_share, .ref a_leftOver])), (a_row, .inl (E.2.1, 81, .inl c_row))] s.heap := hP
  intro ls hl
  refine lv_iconst (v := 0) hx hb dX5_unmovedSites_46 (by decide) ?_
  exact j_X5_unmovedSites_47_r5 l E K (c_askedCount := c_askedCount) (c_outcome := c_outcome) (c_row := c_row) (k0 := (0 : Int32)) (x1 := x1) (x2 := x2) hx hb hml hown hts hK hN hC hE hF hP ls (lv_sub hl [0, 1, 2] rfl)

set_option maxHeartbeats 4000000 in
set_option maxRecDepth 100000 in
theorem wb_X5_unmovedSites_4 {p : Program} (l : Launch) {e : Env} {s : State} {m : MethodId} {below : List Frame} {meth : Method} {c : Code} {Q : State → Prop} (E : EE) (K : Nat) {a_ a_row a_partners a_share a_leftOver : Nat} {c_askedCount : Int32} {c_outcome : Int32} {c_row : Nat → Int32} {x1 : Int32} {x2 : Int32} (hx : p.tables.exec = Jvm.exec) (hb : c.code = cX5_unmovedSites) (hml : c.maxLocals = 4) (hown : s.vm.findClass RX5 = some m.cls) (hts : ∀ w ∈ v_f_X5_unmovedSites, w.before #[Value.ref a_] s = true) (hK : va_K E.1 vwCl (TY E) s) (hN : NX s) {xx : (Int32 × Int32) ⊕ (Int32)} (hC : ∀ (x1 : Int32), ∀ (x2 : Int32), xx = .inl (x1, x2) → ∀ (ls : Array Slot), lv_has ls 4 [(0, .ref a_), (1, .int x1), (2, .int x2)] → W p l e ({ frames := 1, cells := 0, slots := 0, locals := 22 } : Room) s m #[Value.ref a_] below meth c s.heap [] 0 0 Q (F0 m 4 ls [])) (hE : ∀ (x1 : Int32), xx = .inr x1 → ((∀ (ls : Array Slot), lv_has ls 4 [(1, .int x1)] → W p l e ({ frames := 1, cells := 0, slots := 0, locals := 22 } : Room) s m #[Value.ref a_] below meth c s.heap [] 0 0 Q (F0 m 68 ls [])))) (hF : B_X5_unmovedSites_4 c_row x1 x2 = some xx) (hP : va_P E.1 vwCl (w_X5_unmovedSites E a_ a_row a_partners a_share a_leftOver c_askedCount c_outcome c_row) s.heap) : ∀ (ls : Array Slot), lv_has ls 4 [(0, .ref a_), (1, .int x1), (2, .int x2)] → W p l e ({ frames := 1, cells := 0, slots := 0, locals := 22 } : Room) s m #[Value.ref a_] below meth c s.heap [] 0 0 Q (F0 m 4 ls []) := by
  unfold B_X5_unmovedSites_4 at hF
  replace hP : va_P E.1 vwCl [(a_, .inr (6, [.ref a_row, .ref a_partners, .int c_askedCount, .int c_outcome, .ref a_share, .ref a_leftOver])), (a_row, .inl (E.2.1, 81, .inl c_row))] s.heap := hP
  intro ls hl
  refine lv_iload_n hx hb dX5_unmovedSites_4 rfl (lv_at hl 2 rfl) ?_
  refine lv_aload_n hx hb dX5_unmovedSites_5 rfl (lv_at hl 0 rfl) ?_
  replace hF := bd1_s hF
  obtain ⟨r_1, hc_2, hF⟩ := hF
  have hPc : va_P E.1 vwCl (w_X5_sites E a_ a_row a_partners a_share a_leftOver c_askedCount c_outcome c_row) s.heap := hP.sub (ws' := [(a_, .inr (6, [.ref a_row, .ref a_partners, .int c_askedCount, .int c_outcome, .ref a_share, .ref a_leftOver])), (a_row, .inl (E.2.1, 81, .inl c_row))]) [0, 1] rfl
  have hrc := va_recv hK hPc (ci := 6) (q0 := 0) rfl rfl
  refine pE_i (va_runV (As := []) (rest := [.int x2])  ⟨hx, hb, hml, hown, hts⟩ (f_X5_sites l E (a_ := a_) (a_row := a_row) (a_partners := a_partners) (a_share := a_share) (a_leftOver := a_leftOver) (c_askedCount := c_askedCount) (c_outcome := c_outcome) (c_row := c_row) hc_2) (cwV 0 hts g_f_X5_unmovedSites_f_X5_sites_45 rfl rfl rfl hd_X5_sites ⟨Nat.le_of_ble_eq_true rfl, Nat.le_of_ble_eq_true rfl⟩) ⟨pP.blind, hrc, (pP.pre ⟨hK, hN⟩ hPc)⟩ rfl rfl hl.1 rfl (lv_room (Nat.le_of_ble_eq_true rfl)) dX5_unmovedSites_6 ⟨Nat.le_of_ble_eq_true rfl, Nat.le_of_ble_eq_true rfl⟩) ?_
  refine lv_icmp_ge (tgt := 68) hx hb dX5_unmovedSites_9 (by decide) (fun c_3 => ?_) (fun c_3 => ?_)
  ·
    replace hF := ip c_3 hF
    cases hF
    exact hE x1 rfl ls (lv_sub hl [1] rfl)
  ·
    replace hF := inn c_3 hF
    refine lv_aload_n hx hb dX5_unmovedSites_12 rfl (lv_at hl 0 rfl) ?_
    refine lv_iload_n hx hb dX5_unmovedSites_13 rfl (lv_at hl 2 rfl) ?_
    refine lv_iconst (v := 0) hx hb dX5_unmovedSites_14 (by decide) ?_
    replace hF := bd1_s hF
    obtain ⟨r_4, hc_5, hF⟩ := hF
    have hPc : va_P E.1 vwCl (w_X5_of E a_ a_row a_partners a_share a_leftOver c_askedCount c_outcome c_row) s.heap := hP.sub (ws' := [(a_, .inr (6, [.ref a_row, .ref a_partners, .int c_askedCount, .int c_outcome, .ref a_share, .ref a_leftOver])), (a_row, .inl (E.2.1, 81, .inl c_row))]) [0, 1] rfl
    have hrc := va_recv hK hPc (ci := 6) (q0 := 0) rfl rfl
    refine pE_i (va_runV (As := [.int x2, .int (0 : Int32)]) (rest := [])  ⟨hx, hb, hml, hown, hts⟩ (f_X5_of l E (a_ := a_) (a_row := a_row) (a_partners := a_partners) (a_share := a_share) (a_leftOver := a_leftOver) (p1 := x2) (p2 := (0 : Int32)) (c_askedCount := c_askedCount) (c_outcome := c_outcome) (c_row := c_row) hc_5) (cwV 2 hts g_f_X5_unmovedSites_f_X5_of_69 rfl rfl rfl hd_X5_of ⟨Nat.le_of_ble_eq_true rfl, Nat.le_of_ble_eq_true rfl⟩) ⟨pP.blind, hrc, (pP.pre ⟨hK, hN⟩ hPc)⟩ rfl rfl hl.1 rfl (lv_room (Nat.le_of_ble_eq_true rfl)) dX5_unmovedSites_15 ⟨Nat.le_of_ble_eq_true rfl, Nat.le_of_ble_eq_true rfl⟩) ?_
    refine lv_aload_n hx hb dX5_unmovedSites_18 rfl (lv_at hl 0 rfl) ?_
    refine lv_iload_n hx hb dX5_unmovedSites_19 rfl (lv_at hl 2 rfl) ?_
    refine lv_iconst (v := 2) hx hb dX5_unmovedSites_20 (by decide) ?_
    replace hF := bd1_s hF
    obtain ⟨r_6, hc_7, hF⟩ := hF
    have hPc : va_P E.1 vwCl (w_X5_of E a_ a_row a_partners a_share a_leftOver c_askedCount c_outcome c_row) s.heap := hP.sub (ws' := [(a_, .inr (6, [.ref a_row, .ref a_partners, .int c_askedCount, .int c_outcome, .ref a_share, .ref a_leftOver])), (a_row, .inl (E.2.1, 81, .inl c_row))]) [0, 1] rfl
    have hrc := va_recv hK hPc (ci := 6) (q0 := 0) rfl rfl
    refine pE_i (va_runV (As := [.int x2, .int (2 : Int32)]) (rest := [.int r_4])  ⟨hx, hb, hml, hown, hts⟩ (f_X5_of l E (a_ := a_) (a_row := a_row) (a_partners := a_partners) (a_share := a_share) (a_leftOver := a_leftOver) (p1 := x2) (p2 := (2 : Int32)) (c_askedCount := c_askedCount) (c_outcome := c_outcome) (c_row := c_row) hc_7) (cwV 2 hts g_f_X5_unmovedSites_f_X5_of_69 rfl rfl rfl hd_X5_of ⟨Nat.le_of_ble_eq_true rfl, Nat.le_of_ble_eq_true rfl⟩) ⟨pP.blind, hrc, (pP.pre ⟨hK, hN⟩ hPc)⟩ rfl rfl hl.1 rfl (lv_room (Nat.le_of_ble_eq_true rfl)) dX5_unmovedSites_21 ⟨Nat.le_of_ble_eq_true rfl, Nat.le_of_ble_eq_true rfl⟩) ?_
    refine lv_icmp_ne (tgt := 46) hx hb dX5_unmovedSites_24 (by decide) (fun c_8 => ?_) (fun c_8 => ?_)
    ·
      replace hF := inn c_8 hF
      exact j_X5_unmovedSites_46_r5 l E K (c_askedCount := c_askedCount) (c_outcome := c_outcome) (c_row := c_row) (x1 := x1) (x2 := x2) hx hb hml hown hts hK hN hC hE hF hP ls (lv_sub hl [0, 1, 2] rfl)
    ·
      replace hF := ip c_8 hF
      refine lv_aload_n hx hb dX5_unmovedSites_27 rfl (lv_at hl 0 rfl) ?_
      refine lv_iload_n hx hb dX5_unmovedSites_28 rfl (lv_at hl 2 rfl) ?_
      refine lv_iconst (v := 1) hx hb dX5_unmovedSites_29 (by decide) ?_
      replace hF := bd1_s hF
      obtain ⟨r_10, hc_11, hF⟩ := hF
      have hPc : va_P E.1 vwCl (w_X5_of E a_ a_row a_partners a_share a_leftOver c_askedCount c_outcome c_row) s.heap := hP.sub (ws' := [(a_, .inr (6, [.ref a_row, .ref a_partners, .int c_askedCount, .int c_outcome, .ref a_share, .ref a_leftOver])), (a_row, .inl (E.2.1, 81, .inl c_row))]) [0, 1] rfl
      have hrc := va_recv hK hPc (ci := 6) (q0 := 0) rfl rfl
      refine pE_i (va_runV (As := [.int x2, .int (1 : Int32)]) (rest := [])  ⟨hx, hb, hml, hown, hts⟩ (f_X5_of l E (a_ := a_) (a_row := a_row) (a_partners := a_partners) (a_share := a_share) (a_leftOver := a_leftOver) (p1 := x2) (p2 := (1 : Int32)) (c_askedCount := c_askedCount) (c_outcome := c_outcome) (c_row := c_row) hc_11) (cwV 2 hts g_f_X5_unmovedSites_f_X5_of_69 rfl rfl rfl hd_X5_of ⟨Nat.le_of_ble_eq_true rfl, Nat.le_of_ble_eq_true rfl⟩) ⟨pP.blind, hrc, (pP.pre ⟨hK, hN⟩ hPc)⟩ rfl rfl hl.1 rfl (lv_room (Nat.le_of_ble_eq_true rfl)) dX5_unmovedSites_30 ⟨Nat.le_of_ble_eq_true rfl, Nat.le_of_ble_eq_true rfl⟩) ?_
      refine lv_aload_n hx hb dX5_unmovedSites_33 rfl (lv_at hl 0 rfl) ?_
      refine lv_iload_n hx hb dX5_unmovedSites_34 rfl (lv_at hl 2 rfl) ?_
      refine lv_iconst (v := 3) hx hb dX5_unmovedSites_35 (by decide) ?_
      replace hF := bd1_s hF
      obtain ⟨r_12, hc_13, hF⟩ := hF
      have hPc : va_P E.1 vwCl (w_X5_of E a_ a_row a_partners a_share a_leftOver c_askedCount c_outcome c_row) s.heap := hP.sub (ws' := [(a_, .inr (6, [.ref a_row, .ref a_partners, .int c_askedCount, .int c_outcome, .ref a_share, .ref a_leftOver])), (a_row, .inl (E.2.1, 81, .inl c_row))]) [0, 1] rfl
      have hrc := va_recv hK hPc (ci := 6) (q0 := 0) rfl rfl
      refine pE_i (va_runV (As := [.int x2, .int (3 : Int32)]) (rest := [.int r_10])  ⟨hx, hb, hml, hown, hts⟩ (f_X5_of l E (a_ := a_) (a_row := a_row) (a_partners := a_partners) (a_share := a_share) (a_leftOver := a_leftOver) (p1 := x2) (p2 := (3 : Int32)) (c_askedCount := c_askedCount) (c_outcome := c_outcome) (c_row := c_row) hc_13) (cwV 2 hts g_f_X5_unmovedSites_f_X5_of_69 rfl rfl rfl hd_X5_of ⟨Nat.le_of_ble_eq_true rfl, Nat.le_of_ble_eq_true rfl⟩) ⟨pP.blind, hrc, (pP.pre ⟨hK, hN⟩ hPc)⟩ rfl rfl hl.1 rfl (lv_room (Nat.le_of_ble_eq_true rfl)) dX5_unmovedSites_36 ⟨Nat.le_of_ble_eq_true rfl, Nat.le_of_ble_eq_true rfl⟩) ?_
      refine lv_icmp_ne (tgt := 46) hx hb dX5_unmovedSites_39 (by decide) (fun c_14 => ?_) (fun c_14 => ?_)
      ·
        replace hF := inn c_14 hF
        exact j_X5_unmovedSites_46_r5 l E K (c_askedCount := c_askedCount) (c_outcome := c_outcome) (c_row := c_row) (x1 := x1) (x2 := x2) hx hb hml hown hts hK hN hC hE hF hP ls (lv_sub hl [0, 1, 2] rfl)
      ·
        replace hF := ip c_14 hF
        refine lv_iconst (v := 1) hx hb dX5_unmovedSites_42 (by decide) ?_
        refine lv_goto (tgt := 47) hx hb dX5_unmovedSites_43 (by decide) ?_
        exact j_X5_unmovedSites_47_r5 l E K (c_askedCount := c_askedCount) (c_outcome := c_outcome) (c_row := c_row) (k0 := (1 : Int32)) (x1 := x1) (x2 := x2) hx hb hml hown hts hK hN hC hE hF hP ls (lv_sub hl [0, 1, 2] rfl)

set_option maxHeartbeats 4000000 in
set_option maxRecDepth 100000 in
theorem lw_X5_unmovedSites_4 {p : Program} (l : Launch) {e : Env} {s : State} {m : MethodId} {below : List Frame} {meth : Method} {c : Code} {Q : State → Prop} (E : EE) (K : Nat) {a_ a_row a_partners a_share a_leftOver : Nat} {c_askedCount : Int32} {c_outcome : Int32} {c_row : Nat → Int32} (hx : p.tables.exec = Jvm.exec) (hb : c.code = cX5_unmovedSites) (hml : c.maxLocals = 4) (hown : s.vm.findClass RX5 = some m.cls) (hts : ∀ w ∈ v_f_X5_unmovedSites, w.before #[Value.ref a_] s = true) (hK : va_K E.1 vwCl (TY E) s) (hN : NX s) (hP : va_P E.1 vwCl (w_X5_unmovedSites E a_ a_row a_partners a_share a_leftOver c_askedCount c_outcome c_row) s.heap) (j9 : Nat) (x1 : Int32) (x2 : Int32) (x1' : Int32) (hL : lpF (fun u9 : Int32 × Int32 => B_X5_unmovedSites_4 c_row u9.1 u9.2) j9 (x1, x2) = some x1') (hX : (∀ (ls : Array Slot), lv_has ls 4 [(1, .int x1')] → W p l e ({ frames := 1, cells := 0, slots := 0, locals := 22 } : Room) s m #[Value.ref a_] below meth c s.heap [] 0 0 Q (F0 m 68 ls []))) : ∀ (ls : Array Slot), lv_has ls 4 [(0, .ref a_), (1, .int x1), (2, .int x2)] → W p l e ({ frames := 1, cells := 0, slots := 0, locals := 22 } : Room) s m #[Value.ref a_] below meth c s.heap [] 0 0 Q (F0 m 4 ls []) := by
  exact lp_rule (P := (fun u9 : Int32 × Int32 => ∀ (ls : Array Slot), lv_has ls 4 [(0, .ref a_), (1, .int u9.1), (2, .int u9.2)] → W p l e ({ frames := 1, cells := 0, slots := 0, locals := 22 } : Room) s m #[Value.ref a_] below meth c s.heap [] 0 0 Q (F0 m 4 ls []))) (R := (fun r9 : Int32 => (∀ (ls : Array Slot), lv_has ls 4 [(1, .int r9)] → W p l e ({ frames := 1, cells := 0, slots := 0, locals := 22 } : Room) s m #[Value.ref a_] below meth c s.heap [] 0 0 Q (F0 m 68 ls [])))) (fun u9 xx hF hC hE => wb_X5_unmovedSites_4 l E K (c_askedCount := c_askedCount) (c_outcome := c_outcome) (c_row := c_row) (x1 := u9.1) (x2 := u9.2) hx hb hml hown hts hK hN (fun x1 x2 q9 => hC _ q9) (fun x1 q9 => hE _ q9) hF hP) j9 (x1, x2) x1' hL hX

set_option maxHeartbeats 4000000 in
set_option maxRecDepth 100000 in
theorem f_X5_unmovedSites (l : Launch) (E : EE) (K : Nat) {a_ a_row a_partners a_share a_leftOver : Nat} {c_askedCount : Int32} {c_outcome : Int32} {c_row : Nat → Int32} {rr : Int32} (hF : F_X5_unmovedSites K c_row = some rr) : Met l yX5_unmovedSites v_f_X5_unmovedSites (({ frames := 1, cells := 0, slots := 0, locals := 22 } : Room)) (va_Pc [.ref a_] (pP E (w_X5_unmovedSites E a_ a_row a_partners a_share a_leftOver c_askedCount c_outcome c_row))) (vp_Si (fun q : Int32 => q = rr)) 0 0 (fun _ => False) := by
  refine Met.ofW (cc := cX5_unmovedSites) (maxL := 4) (ret := (some .int)) (by decide) rfl ?_
  intro p e s m args below meth c s₁ B hml hv
  obtain ⟨rfl, ⟨hK, hN⟩, hP⟩ := hv
  have hx := B.exec
  have hb := B.bytes
  have hr := B.returns
  have hts := atoms_spec (ws := v_f_X5_unmovedSites) B.pre
  have hown : s.vm.findClass RX5 = some m.cls := own_of hd_X5_unmovedSites.1 (findClass_of_methodNamed B.named)
  have hlocks : meth.locks = false := B.notSynchronized
  replace hP : va_P E.1 vwCl [(a_, .inr (6, [.ref a_row, .ref a_partners, .int c_askedCount, .int c_outcome, .ref a_share, .ref a_leftOver])), (a_row, .inl (E.2.1, 81, .inl c_row))] s.heap := hP
  have hl := lv_entry ([.ref a_]) (n := 4) (Nat.le_of_ble_eq_true rfl)
  rw [lg_entry_eq]
  generalize (lg_sl ([.ref a_]) ++ List.replicate (4 - (lg_sl ([.ref a_])).length) Slot.unset).toArray = ls at hl ⊢
  have hl : lv_has ls 4 [(0, .ref a_)] := hl
  obtain ⟨Q, hQ⟩ : ∃ Q : State → Prop, Q = MQ below (vp_Si (fun q : Int32 => q = rr)) #[Value.ref a_] s 0 0 (fun _ => False) := ⟨_, rfl⟩
  rw [← hQ]
  change W p l e ({ frames := 1, cells := 0, slots := 0, locals := 22 } : Room) s m #[Value.ref a_] below meth c s.heap [] 0 0 Q (F0 m 0 ls [])
  unfold F_X5_unmovedSites at hF
  refine lv_iconst (v := 0) hx hb dX5_unmovedSites_0 (by decide) ?_
  refine lv_istore_n (lv' := [(1, .int (0 : Int32)), (0, .ref a_)]) hx hb dX5_unmovedSites_1 rfl hl (by decide) rfl (fun ls hl => ?_)
  refine lv_iconst (v := 0) hx hb dX5_unmovedSites_2 (by decide) ?_
  refine lv_istore_n (lv' := [(2, .int (0 : Int32)), (1, .int (0 : Int32)), (0, .ref a_)]) hx hb dX5_unmovedSites_3 rfl hl (by decide) rfl (fun ls hl => ?_)
  replace hF := bd1_s hF
  obtain ⟨x1_15, hL_16, hF⟩ := hF
  refine lw_X5_unmovedSites_4 l E K (c_askedCount := c_askedCount) (c_outcome := c_outcome) (c_row := c_row) hx hb hml hown hts hK hN hP K (0 : Int32) (0 : Int32) x1_15 hL_16 ?_ ls (lv_sub hl [2, 1, 0] rfl)
  ·
    intro ls hl
    refine lv_iload_n hx hb dX5_unmovedSites_68 rfl (lv_at hl 0 rfl) ?_
    rw [hQ]
    obtain e9_0 := inj1 hF
    exact W.iret (v := x1_15) hx hb hr (fun tt ht hW => ⟨_, rfl, e9_0, ht⟩) (fun _ h => by cases h) dX5_unmovedSites_69
