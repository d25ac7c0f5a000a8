def dl_X7_limit_40_pub04_0 : List (Nat × Instr × Nat) := [(38, .iload 5, 2), (40, .sipush 200, 3), (43, .if_icmp .gt 54, 3), (46, .aload_n 0, 1), (47, .getfield 35, 3), (50, .iload_n 1, 1), (51, .iload 5, 2), (53, .iload_n 2, 1), (54, .imul, 1), (55, .iload 5, 2), (57, .iload_n 3, 1), (58, .imul, 1), (59, .invokevirtual 213, 3), (62, .ifCond .eq 35, 3), (65, .aload_n 0, 1), (66, .getfield 35, 3), (69, .iload_n 1, 1), (70, .iload 5, 2), (72, .iload_n 2, 1), (73, .imul, 1), (74, .iload 5, 2), (76, .iload_n 3, 1), (77, .imul, 1), (78, .invokevirtual 217, 3), (81, .ifCond .ne 6, 3), (87, .iload 5, 2), (89, .istore 4, 2), (91, .iinc 5 1, 3), (94, .goto (-56), 3), (0, .aload_n 0, 1), (1, .getfield 35, 3), (4, .iload_n 1, 1), (5, .invokevirtual 120, 3), (8, .ifCond .eq 22, 3), (30, .iconst (-1), 1), (31, .ireturn, 1), (11, .iload_n 2, 1), (12, .iload_n 3, 1), (13, .invokestatic 210, 3), (16, .ifCond .eq 14, 3), (19, .aload_n 0, 1), (20, .getfield 35, 3), (23, .iload_n 1, 1), (24, .invokevirtual 143, 3), (27, .ifCond .eq 5, 3), (32, .iconst 0, 1), (33, .istore 4, 2), (35, .iconst 1, 1), (36, .istore 5, 2), (84, .goto 13, 3)]
set_option maxRecDepth 100000 in
theorem dall_X7_limit_40_pub04_0 : dchk cX7_limit dl_X7_limit_40_pub04_0 = true := by decide +kernel
theorem dX7_limit_38 : decode cX7_limit 38 = .ok (.iload 5, 2) := dchk_at dall_X7_limit_40_pub04_0 (k := 0) rfl
theorem dX7_limit_40 : decode cX7_limit 40 = .ok (.sipush 200, 3) := dchk_at dall_X7_limit_40_pub04_0 (k := 1) rfl
theorem dX7_limit_43 : decode cX7_limit 43 = .ok (.if_icmp .gt 54, 3) := dchk_at dall_X7_limit_40_pub04_0 (k := 2) rfl
theorem dX7_limit_46 : decode cX7_limit 46 = .ok (.aload_n 0, 1) := dchk_at dall_X7_limit_40_pub04_0 (k := 3) rfl
theorem dX7_limit_47 : decode cX7_limit 47 = .ok (.getfield 35, 3) := dchk_at dall_X7_limit_40_pub04_0 (k := 4) rfl
theorem dX7_limit_50 : decode cX7_limit 50 = .ok (.iload_n 1, 1) := dchk_at dall_X7_limit_40_pub04_0 (k := 5) rfl
theorem dX7_limit_51 : decode cX7_limit 51 = .ok (.iload 5, 2) := dchk_at dall_X7_limit_40_pub04_0 (k := 6) rfl
theorem dX7_limit_53 : decode cX7_limit 53 = .ok (.iload_n 2, 1) := dchk_at dall_X7_limit_40_pub04_0 (k := 7) rfl
theorem dX7_limit_54 : decode cX7_limit 54 = .ok (.imul, 1) := dchk_at dall_X7_limit_40_pub04_0 (k := 8) rfl
theorem dX7_limit_55 : decode cX7_limit 55 = .ok (.iload 5, 2) := dchk_at dall_X7_limit_40_pub04_0 (k := 9) rfl
theorem dX7_limit_57 : decode cX7_limit 57 = .ok (.iload_n 3, 1) := dchk_at dall_X7_limit_40_pub04_0 (k := 10) rfl
theorem dX7_limit_58 : decode cX7_limit 58 = .ok (.imul, 1) := dchk_at dall_X7_limit_40_pub04_0 (k := 11) rfl
theorem dX7_limit_59 : decode cX7_limit 59 = .ok (.invokevirtual 213, 3) := dchk_at dall_X7_limit_40_pub04_0 (k := 12) rfl
theorem dX7_limit_62 : decode cX7_limit 62 = .ok (.ifCond .eq 35, 3) := dchk_at dall_X7_limit_40_pub04_0 (k := 13) rfl
theorem dX7_limit_65 : decode cX7_limit 65 = .ok (.aload_n 0, 1) := dchk_at dall_X7_limit_40_pub04_0 (k := 14) rfl
theorem dX7_limit_66 : decode cX7_limit 66 = .ok (.getfield 35, 3) := dchk_at dall_X7_limit_40_pub04_0 (k := 15) rfl
theorem dX7_limit_69 : decode cX7_limit 69 = .ok (.iload_n 1, 1) := dchk_at dall_X7_limit_40_pub04_0 (k := 16) rfl
theorem dX7_limit_70 : decode cX7_limit 70 = .ok (.iload 5, 2) := dchk_at dall_X7_limit_40_pub04_0 (k := 17) rfl
theorem dX7_limit_72 : decode cX7_limit 72 = .ok (.iload_n 2, 1) := dchk_at dall_X7_limit_40_pub04_0 (k := 18) rfl
theorem dX7_limit_73 : decode cX7_limit 73 = .ok (.imul, 1) := dchk_at dall_X7_limit_40_pub04_0 (k := 19) rfl
theorem dX7_limit_74 : decode cX7_limit 74 = .ok (.iload 5, 2) := dchk_at dall_X7_limit_40_pub04_0 (k := 20) rfl
theorem dX7_limit_76 : decode cX7_limit 76 = .ok (.iload_n 3, 1) := dchk_at dall_X7_limit_40_pub04_0 (k := 21) rfl
theorem dX7_limit_77 : decode cX7_limit 77 = .ok (.imul, 1) := dchk_at dall_X7_limit_40_pub04_0 (k := 22) rfl
theorem dX7_limit_78 : decode cX7_limit 78 = .ok (.invokevirtual 217, 3) := dchk_at dall_X7_limit_40_pub04_0 (k := 23) rfl
theorem dX7_limit_81 : decode cX7_limit 81 = .ok (.ifCond .ne 6, 3) := dchk_at dall_X7_limit_40_pub04_0 (k := 24) rfl
theorem dX7_limit_87 : decode cX7_limit 87 = .ok (.iload 5, 2) := dchk_at dall_X7_limit_40_pub04_0 (k := 25) rfl
theorem dX7_limit_89 : decode cX7_limit 89 = .ok (.istore 4, 2) := dchk_at dall_X7_limit_40_pub04_0 (k := 26) rfl
theorem dX7_limit_91 : decode cX7_limit 91 = .ok (.iinc 5 1, 3) := dchk_at dall_X7_limit_40_pub04_0 (k := 27) rfl
theorem dX7_limit_94 : decode cX7_limit 94 = .ok (.goto (-56), 3) := dchk_at dall_X7_limit_40_pub04_0 (k := 28) rfl
theorem dX7_limit_0 : decode cX7_limit 0 = .ok (.aload_n 0, 1) := dchk_at dall_X7_limit_40_pub04_0 (k := 29) rfl
theorem dX7_limit_1 : decode cX7_limit 1 = .ok (.getfield 35, 3) := dchk_at dall_X7_limit_40_pub04_0 (k := 30) rfl
theorem dX7_limit_4 : decode cX7_limit 4 = .ok (.iload_n 1, 1) := dchk_at dall_X7_limit_40_pub04_0 (k := 31) rfl
theorem dX7_limit_5 : decode cX7_limit 5 = .ok (.invokevirtual 120, 3) := dchk_at dall_X7_limit_40_pub04_0 (k := 32) rfl
theorem dX7_limit_8 : decode cX7_limit 8 = .ok (.ifCond .eq 22, 3) := dchk_at dall_X7_limit_40_pub04_0 (k := 33) rfl
theorem dX7_limit_30 : decode cX7_limit 30 = .ok (.iconst (-1), 1) := dchk_at dall_X7_limit_40_pub04_0 (k := 34) rfl
theorem dX7_limit_31 : decode cX7_limit 31 = .ok (.ireturn, 1) := dchk_at dall_X7_limit_40_pub04_0 (k := 35) rfl
theorem dX7_limit_11 : decode cX7_limit 11 = .ok (.iload_n 2, 1) := dchk_at dall_X7_limit_40_pub04_0 (k := 36) rfl
theorem dX7_limit_12 : decode cX7_limit 12 = .ok (.iload_n 3, 1) := dchk_at dall_X7_limit_40_pub04_0 (k := 37) rfl
theorem dX7_limit_13 : decode cX7_limit 13 = .ok (.invokestatic 210, 3) := dchk_at dall_X7_limit_40_pub04_0 (k := 38) rfl
theorem dX7_limit_16 : decode cX7_limit 16 = .ok (.ifCond .eq 14, 3) := dchk_at dall_X7_limit_40_pub04_0 (k := 39) rfl
theorem dX7_limit_19 : decode cX7_limit 19 = .ok (.aload_n 0, 1) := dchk_at dall_X7_limit_40_pub04_0 (k := 40) rfl
theorem dX7_limit_20 : decode cX7_limit 20 = .ok (.getfield 35, 3) := dchk_at dall_X7_limit_40_pub04_0 (k := 41) rfl
theorem dX7_limit_23 : decode cX7_limit 23 = .ok (.iload_n 1, 1) := dchk_at dall_X7_limit_40_pub04_0 (k := 42) rfl
theorem dX7_limit_24 : decode cX7_limit 24 = .ok (.invokevirtual 143, 3) := dchk_at dall_X7_limit_40_pub04_0 (k := 43) rfl
theorem dX7_limit_27 : decode cX7_limit 27 = .ok (.ifCond .eq 5, 3) := dchk_at dall_X7_limit_40_pub04_0 (k := 44) rfl
theorem dX7_limit_32 : decode cX7_limit 32 = .ok (.iconst 0, 1) := dchk_at dall_X7_limit_40_pub04_0 (k := 45) rfl
theorem dX7_limit_33 : decode cX7_limit 33 = .ok (.istore 4, 2) := dchk_at dall_X7_limit_40_pub04_0 (k := 46) rfl
theorem dX7_limit_35 : decode cX7_limit 35 = .ok (.iconst 1, 1) := dchk_at dall_X7_limit_40_pub04_0 (k := 47) rfl
theorem dX7_limit_36 : decode cX7_limit 36 = .ok (.istore 5, 2) := dchk_at dall_X7_limit_40_pub04_0 (k := 48) rfl
theorem dX7_limit_84 : decode cX7_limit 84 = .ok (.goto 13, 3) := dchk_at dall_X7_limit_40_pub04_0 (k := 49) rfl
def dl_X7_limit_40_pub04_1 : List (Nat × Instr × Nat) := [(97, .iload 4, 2), (99, .ireturn, 1)]
set_option maxRecDepth 100000 in
theorem dall_X7_limit_40_pub04_1 : dchk cX7_limit dl_X7_limit_40_pub04_1 = true := by decide +kernel
theorem dX7_limit_97 : decode cX7_limit 97 = .ok (.iload 4, 2) := dchk_at dall_X7_limit_40_pub04_1 (k := 0) rfl
theorem dX7_limit_99 : decode cX7_limit 99 = .ok (.ireturn, 1) := dchk_at dall_X7_limit_40_pub04_1 (k := 1) rfl
def dl_X7_log_40_pub04_0 : List (Nat × Instr × Nat) := [(0, .iload_n 1, 1), (1, .ifCond .lt 20, 3), (21, .ldc 113, 2), (23, .ireturn, 1), (4, .iload_n 1, 1), (5, .aload_n 0, 1), (6, .invokevirtual 204, 3), (9, .if_icmp .ge 12, 3), (12, .iload_n 2, 1), (13, .ifCond .lt 8, 3), (16, .iload_n 2, 1), (17, .iconst 3, 1), (18, .if_icmp .lt 6, 3), (24, .aload_n 0, 1), (25, .getfield 48, 3), (28, .aload_n 0, 1), (29, .getfield 35, 3), (32, .getfield 114, 3), (35, .bipush 16, 2), (37, .iaload, 1), (38, .iconst 1, 1), (39, .isub, 1), (40, .iload_n 1, 1), (41, .isub, 1), (42, .iload_n 2, 1), (43, .invokevirtual 207, 3), (46, .ireturn, 1)]
set_option maxRecDepth 100000 in
theorem dall_X7_log_40_pub04_0 : dchk cX7_log dl_X7_log_40_pub04_0 = true := by decide +kernel
theorem dX7_log_0 : decode cX7_log 0 = .ok (.iload_n 1, 1) := dchk_at dall_X7_log_40_pub04_0 (k := 0) rfl
theorem dX7_log_1 : decode cX7_log 1 = .ok (.ifCond .lt 20, 3) := dchk_at dall_X7_log_40_pub04_0 (k := 1) rfl
theorem dX7_log_21 : decode cX7_log 21 = .ok (.ldc 113, 2) := dchk_at dall_X7_log_40_pub04_0 (k := 2) rfl
theorem dX7_log_23 : decode cX7_log 23 = .ok (.ireturn, 1) := dchk_at dall_X7_log_40_pub04_0 (k := 3) rfl
theorem dX7_log_4 : decode cX7_log 4 = .ok (.iload_n 1, 1) := dchk_at dall_X7_log_40_pub04_0 (k := 4) rfl
theorem dX7_log_5 : decode cX7_log 5 = .ok (.aload_n 0, 1) := dchk_at dall_X7_log_40_pub04_0 (k := 5) rfl
theorem dX7_log_6 : decode cX7_log 6 = .ok (.invokevirtual 204, 3) := dchk_at dall_X7_log_40_pub04_0 (k := 6) rfl
theorem dX7_log_9 : decode cX7_log 9 = .ok (.if_icmp .ge 12, 3) := dchk_at dall_X7_log_40_pub04_0 (k := 7) rfl
theorem dX7_log_12 : decode cX7_log 12 = .ok (.iload_n 2, 1) := dchk_at dall_X7_log_40_pub04_0 (k := 8) rfl
theorem dX7_log_13 : decode cX7_log 13 = .ok (.ifCond .lt 8, 3) := dchk_at dall_X7_log_40_pub04_0 (k := 9) rfl
theorem dX7_log_16 : decode cX7_log 16 = .ok (.iload_n 2, 1) := dchk_at dall_X7_log_40_pub04_0 (k := 10) rfl
theorem dX7_log_17 : decode cX7_log 17 = .ok (.iconst 3, 1) := dchk_at dall_X7_log_40_pub04_0 (k := 11) rfl
theorem dX7_log_18 : decode cX7_log 18 = .ok (.if_icmp .lt 6, 3) := dchk_at dall_X7_log_40_pub04_0 (k := 12) rfl
theorem dX7_log_24 : decode cX7_log 24 = .ok (.aload_n 0, 1) := dchk_at dall_X7_log_40_pub04_0 (k := 13) rfl
theorem dX7_log_25 : decode cX7_log 25 = .ok (.getfield 48, 3) := dchk_at dall_X7_log_40_pub04_0 (k := 14) rfl
theorem dX7_log_28 : decode cX7_log 28 = .ok (.aload_n 0, 1) := dchk_at dall_X7_log_40_pub04_0 (k := 15) rfl
theorem dX7_log_29 : decode cX7_log 29 = .ok (.getfield 35, 3) := dchk_at dall_X7_log_40_pub04_0 (k := 16) rfl
theorem dX7_log_32 : decode cX7_log 32 = .ok (.getfield 114, 3) := dchk_at dall_X7_log_40_pub04_0 (k := 17) rfl
theorem dX7_log_35 : decode cX7_log 35 = .ok (.bipush 16, 2) := dchk_at dall_X7_log_40_pub04_0 (k := 18) rfl
theorem dX7_log_37 : decode cX7_log 37 = .ok (.iaload, 1) := dchk_at dall_X7_log_40_pub04_0 (k := 19) rfl
theorem dX7_log_38 : decode cX7_log 38 = .ok (.iconst 1, 1) := dchk_at dall_X7_log_40_pub04_0 (k := 20) rfl
theorem dX7_log_39 : decode cX7_log 39 = .ok (.isub, 1) := dchk_at dall_X7_log_40_pub04_0 (k := 21) rfl
theorem dX7_log_40 : decode cX7_log 40 = .ok (.iload_n 1, 1) := dchk_at dall_X7_log_40_pub04_0 (k := 22) rfl
theorem dX7_log_41 : decode cX7_log 41 = .ok (.isub, 1) := dchk_at dall_X7_log_40_pub04_0 (k := 23) rfl
theorem dX7_log_42 : decode cX7_log 42 = .ok (.iload_n 2, 1) := dchk_at dall_X7_log_40_pub04_0 (k := 24) rfl
theorem dX7_log_43 : decode cX7_log 43 = .ok (.invokevirtual 207, 3) := dchk_at dall_X7_log_40_pub04_0 (k := 25) rfl
theorem dX7_log_46 : decode cX7_log 46 = .ok (.ireturn, 1) := dchk_at dall_X7_log_40_pub04_0 (k := 26) rfl
def dl_X7_most_40_pub04_0 : List (Nat × Instr × Nat) := [(0, .aload_n 0, 1), (1, .getfield 35, 3), (4, .invokevirtual 110, 3), (7, .ifCond .ne 6, 3), (13, .iload_n 1, 1), (14, .tableswitch 181 0 11 #[62, 73, 84, 95, 106, 117, 128, 136, 144, 153, 162, 170], 62), (76, .aload_n 0, 1), (77, .getfield 35, 3), (80, .getfield 114, 3), (83, .bipush 11, 2), (85, .iaload, 1), (86, .ireturn, 1), (87, .aload_n 0, 1), (88, .getfield 35, 3), (91, .getfield 114, 3), (94, .bipush 12, 2), (96, .iaload, 1), (97, .ireturn, 1), (98, .aload_n 0, 1), (99, .getfield 35, 3), (102, .getfield 114, 3), (105, .bipush 13, 2), (107, .iaload, 1), (108, .ireturn, 1), (109, .aload_n 0, 1), (110, .getfield 35, 3), (113, .getfield 114, 3), (116, .bipush 14, 2), (118, .iaload, 1), (119, .ireturn, 1), (120, .aload_n 0, 1), (121, .getfield 35, 3), (124, .getfield 114, 3), (127, .bipush 15, 2), (129, .iaload, 1), (130, .ireturn, 1), (131, .aload_n 0, 1), (132, .getfield 35, 3), (135, .getfield 114, 3), (138, .bipush 6, 2), (140, .iaload, 1), (141, .ireturn, 1), (142, .aload_n 0, 1), (143, .getfield 35, 3), (146, .invokevirtual 302, 3), (149, .ireturn, 1), (150, .aload_n 0, 1), (151, .getfield 35, 3), (154, .invokevirtual 305, 3), (157, .ireturn, 1)]
set_option maxRecDepth 100000 in
theorem dall_X7_most_40_pub04_0 : dchk cX7_most dl_X7_most_40_pub04_0 = true := by decide +kernel
theorem dX7_most_0 : decode cX7_most 0 = .ok (.aload_n 0, 1) := dchk_at dall_X7_most_40_pub04_0 (k := 0) rfl
theorem dX7_most_1 : decode cX7_most 1 = .ok (.getfield 35, 3) := dchk_at dall_X7_most_40_pub04_0 (k := 1) rfl
theorem dX7_most_4 : decode cX7_most 4 = .ok (.invokevirtual 110, 3) := dchk_at dall_X7_most_40_pub04_0 (k := 2) rfl
theorem dX7_most_7 : decode cX7_most 7 = .ok (.ifCond .ne 6, 3) := dchk_at dall_X7_most_40_pub04_0 (k := 3) rfl
theorem dX7_most_13 : decode cX7_most 13 = .ok (.iload_n 1, 1) := dchk_at dall_X7_most_40_pub04_0 (k := 4) rfl
theorem dX7_most_14 : decode cX7_most 14 = .ok (.tableswitch 181 0 11 #[62, 73, 84, 95, 106, 117, 128, 136, 144, 153, 162, 170], 62) := dchk_at dall_X7_most_40_pub04_0 (k := 5) rfl
theorem dX7_most_76 : decode cX7_most 76 = .ok (.aload_n 0, 1) := dchk_at dall_X7_most_40_pub04_0 (k := 6) rfl
theorem dX7_most_77 : decode cX7_most 77 = .ok (.getfield 35, 3) := dchk_at dall_X7_most_40_pub04_0 (k := 7) rfl
theorem dX7_most_80 : decode cX7_most 80 = .ok (.getfield 114, 3) := dchk_at dall_X7_most_40_pub04_0 (k := 8) rfl
theorem dX7_most_83 : decode cX7_most 83 = .ok (.bipush 11, 2) := dchk_at dall_X7_most_40_pub04_0 (k := 9) rfl
theorem dX7_most_85 : decode cX7_most 85 = .ok (.iaload, 1) := dchk_at dall_X7_most_40_pub04_0 (k := 10) rfl
theorem dX7_most_86 : decode cX7_most 86 = .ok (.ireturn, 1) := dchk_at dall_X7_most_40_pub04_0 (k := 11) rfl
theorem dX7_most_87 : decode cX7_most 87 = .ok (.aload_n 0, 1) := dchk_at dall_X7_most_40_pub04_0 (k := 12) rfl
theorem dX7_most_88 : decode cX7_most 88 = .ok (.getfield 35, 3) := dchk_at dall_X7_most_40_pub04_0 (k := 13) rfl
theorem dX7_most_91 : decode cX7_most 91 = .ok (.getfield 114, 3) := dchk_at dall_X7_most_40_pub04_0 (k := 14) rfl
theorem dX7_most_94 : decode cX7_most 94 = .ok (.bipush 12, 2) := dchk_at dall_X7_most_40_pub04_0 (k := 15) rfl
theorem dX7_most_96 : decode cX7_most 96 = .ok (.iaload, 1) := dchk_at dall_X7_most_40_pub04_0 (k := 16) rfl
theorem dX7_most_97 : decode cX7_most 97 = .ok (.ireturn, 1) := dchk_at dall_X7_most_40_pub04_0 (k := 17) rfl
theorem dX7_most_98 : decode cX7_most 98 = .ok (.aload_n 0, 1) := dchk_at dall_X7_most_40_pub04_0 (k := 18) rfl
theorem dX7_most_99 : decode cX7_most 99 = .ok (.getfield 35, 3) := dchk_at dall_X7_most_40_pub04_0 (k := 19) rfl
theorem dX7_most_102 : decode cX7_most 102 = .ok (.getfield 114, 3) := dchk_at dall_X7_most_40_pub04_0 (k := 20) rfl
theorem dX7_most_105 : decode cX7_most 105 = .ok (.bipush 13, 2) := dchk_at dall_X7_most_40_pub04_0 (k := 21) rfl
theorem dX7_most_107 : decode cX7_most 107 = .ok (.iaload, 1) := dchk_at dall_X7_most_40_pub04_0 (k := 22) rfl
theorem dX7_most_108 : decode cX7_most 108 = .ok (.ireturn, 1) := dchk_at dall_X7_most_40_pub04_0 (k := 23) rfl
theorem dX7_most_109 : decode cX7_most 109 = .ok (.aload_n 0, 1) := dchk_at dall_X7_most_40_pub04_0 (k := 24) rfl
theorem dX7_most_110 : decode cX7_most 110 = .ok (.getfield 35, 3) := dchk_at dall_X7_most_40_pub04_0 (k := 25) rfl
theorem dX7_most_113 : decode cX7_most 113 = .ok (.getfield 114, 3) := dchk_at dall_X7_most_40_pub04_0 (k := 26) rfl
theorem dX7_most_116 : decode cX7_most 116 = .ok (.bipush 14, 2) := dchk_at dall_X7_most_40_pub04_0 (k := 27) rfl
theorem dX7_most_118 : decode cX7_most 118 = .ok (.iaload, 1) := dchk_at dall_X7_most_40_pub04_0 (k := 28) rfl
theorem dX7_most_119 : decode cX7_most 119 = .ok (.ireturn, 1) := dchk_at dall_X7_most_40_pub04_0 (k := 29) rfl
theorem dX7_most_120 : decode cX7_most 120 = .ok (.aload_n 0, 1) := dchk_at dall_X7_most_40_pub04_0 (k := 30) rfl
theorem dX7_most_121 : decode cX7_most 121 = .ok (.getfield 35, 3) := dchk_at dall_X7_most_40_pub04_0 (k := 31) rfl
theorem dX7_most_124 : decode cX7_most 124 = .ok (.getfield 114, 3) := dchk_at dall_X7_most_40_pub04_0 (k := 32) rfl
theorem dX7_most_127 : decode cX7_most 127 = .ok (.bipush 15, 2) := dchk_at dall_X7_most_40_pub04_0 (k := 33) rfl
theorem dX7_most_129 : decode cX7_most 129 = .ok (.iaload, 1) := dchk_at dall_X7_most_40_pub04_0 (k := 34) rfl
theorem dX7_most_130 : decode cX7_most 130 = .ok (.ireturn, 1) := dchk_at dall_X7_most_40_pub04_0 (k := 35) rfl
theorem dX7_most_131 : decode cX7_most 131 = .ok (.aload_n 0, 1) := dchk_at dall_X7_most_40_pub04_0 (k := 36) rfl
theorem dX7_most_132 : decode cX7_most 132 = .ok (.getfield 35, 3) := dchk_at dall_X7_most_40_pub04_0 (k := 37) rfl
theorem dX7_most_135 : decode cX7_most 135 = .ok (.getfield 114, 3) := dchk_at dall_X7_most_40_pub04_0 (k := 38) rfl
theorem dX7_most_138 : decode cX7_most 138 = .ok (.bipush 6, 2) := dchk_at dall_X7_most_40_pub04_0 (k := 39) rfl
theorem dX7_most_140 : decode cX7_most 140 = .ok (.iaload, 1) := dchk_at dall_X7_most_40_pub04_0 (k := 40) rfl
theorem dX7_most_141 : decode cX7_most 141 = .ok (.ireturn, 1) := dchk_at dall_X7_most_40_pub04_0 (k := 41) rfl
theorem dX7_most_142 : decode cX7_most 142 = .ok (.aload_n 0, 1) := dchk_at dall_X7_most_40_pub04_0 (k := 42) rfl
theorem dX7_most_143 : decode cX7_most 143 = .ok (.getfield 35, 3) := dchk_at dall_X7_most_40_pub04_0 (k := 43) rfl
theorem dX7_most_146 : decode cX7_most 146 = .ok (.invokevirtual 302, 3) := dchk_at dall_X7_most_40_pub04_0 (k := 44) rfl
theorem dX7_most_149 : decode cX7_most 149 = .ok (.ireturn, 1) := dchk_at dall_X7_most_40_pub04_0 (k := 45) rfl
theorem dX7_most_150 : decode cX7_most 150 = .ok (.aload_n 0, 1) := dchk_at dall_X7_most_40_pub04_0 (k := 46) rfl
theorem dX7_most_151 : decode cX7_most 151 = .ok (.getfield 35, 3) := dchk_at dall_X7_most_40_pub04_0 (k := 47) rfl
theorem dX7_most_154 : decode cX7_most 154 = .ok (.invokevirtual 305, 3) := dchk_at dall_X7_most_40_pub04_0 (k := 48) rfl
theorem dX7_most_157 : decode cX7_most 157 = .ok (.ireturn, 1) := dchk_at dall_X7_most_40_pub04_0 (k := 49) rfl
def dl_X7_most_40_pub04_1 : List (Nat × Instr × Nat) := [(158, .aload_n 0, 1), (159, .getfield 35, 3), (162, .iconst 4, 1), (163, .invokevirtual 160, 3), (166, .ireturn, 1), (167, .aload_n 0, 1), (168, .getfield 35, 3), (171, .iconst 5, 1), (172, .invokevirtual 160, 3), (175, .ireturn, 1), (176, .aload_n 0, 1), (177, .getfield 35, 3), (180, .invokevirtual 308, 3), (183, .ireturn, 1), (184, .aload_n 0, 1), (185, .getfield 35, 3), (188, .getfield 114, 3), (191, .bipush 7, 2), (193, .iaload, 1), (194, .ireturn, 1), (195, .ldc 113, 2), (197, .ireturn, 1), (10, .ldc 113, 2), (12, .ireturn, 1)]
set_option maxRecDepth 100000 in
theorem dall_X7_most_40_pub04_1 : dchk cX7_most dl_X7_most_40_pub04_1 = true := by decide +kernel
theorem dX7_most_158 : decode cX7_most 158 = .ok (.aload_n 0, 1) := dchk_at dall_X7_most_40_pub04_1 (k := 0) rfl
theorem dX7_most_159 : decode cX7_most 159 = .ok (.getfield 35, 3) := dchk_at dall_X7_most_40_pub04_1 (k := 1) rfl
theorem dX7_most_162 : decode cX7_most 162 = .ok (.iconst 4, 1) := dchk_at dall_X7_most_40_pub04_1 (k := 2) rfl
theorem dX7_most_163 : decode cX7_most 163 = .ok (.invokevirtual 160, 3) := dchk_at dall_X7_most_40_pub04_1 (k := 3) rfl
theorem dX7_most_166 : decode cX7_most 166 = .ok (.ireturn, 1) := dchk_at dall_X7_most_40_pub04_1 (k := 4) rfl
theorem dX7_most_167 : decode cX7_most 167 = .ok (.aload_n 0, 1) := dchk_at dall_X7_most_40_pub04_1 (k := 5) rfl
theorem dX7_most_168 : decode cX7_most 168 = .ok (.getfield 35, 3) := dchk_at dall_X7_most_40_pub04_1 (k := 6) rfl
theorem dX7_most_171 : decode cX7_most 171 = .ok (.iconst 5, 1) := dchk_at dall_X7_most_40_pub04_1 (k := 7) rfl
theorem dX7_most_172 : decode cX7_most 172 = .ok (.invokevirtual 160, 3) := dchk_at dall_X7_most_40_pub04_1 (k := 8) rfl
theorem dX7_most_175 : decode cX7_most 175 = .ok (.ireturn, 1) := dchk_at dall_X7_most_40_pub04_1 (k := 9) rfl
theorem dX7_most_176 : decode cX7_most 176 = .ok (.aload_n 0, 1) := dchk_at dall_X7_most_40_pub04_1 (k := 10) rfl
theorem dX7_most_177 : decode cX7_most 177 = .ok (.getfield 35, 3) := dchk_at dall_X7_most_40_pub04_1 (k := 11) rfl
theorem dX7_most_180 : decode cX7_most 180 = .ok (.invokevirtual 308, 3) := dchk_at dall_X7_most_40_pub04_1 (k := 12) rfl
theorem dX7_most_183 : decode cX7_most 183 = .ok (.ireturn, 1) := dchk_at dall_X7_most_40_pub04_1 (k := 13) rfl
theorem dX7_most_184 : decode cX7_most 184 = .ok (.aload_n 0, 1) := dchk_at dall_X7_most_40_pub04_1 (k := 14) rfl
theorem dX7_most_185 : decode cX7_most 185 = .ok (.getfield 35, 3) := dchk_at dall_X7_most_40_pub04_1 (k := 15) rfl
theorem dX7_most_188 : decode cX7_most 188 = .ok (.getfield 114, 3) := dchk_at dall_X7_most_40_pub04_1 (k := 16) rfl
theorem dX7_most_191 : decode cX7_most 191 = .ok (.bipush 7, 2) := dchk_at dall_X7_most_40_pub04_1 (k := 17) rfl
theorem dX7_most_193 : decode cX7_most 193 = .ok (.iaload, 1) := dchk_at dall_X7_most_40_pub04_1 (k := 18) rfl
theorem dX7_most_194 : decode cX7_most 194 = .ok (.ireturn, 1) := dchk_at dall_X7_most_40_pub04_1 (k := 19) rfl
theorem dX7_most_195 : decode cX7_most 195 = .ok (.ldc 113, 2) := dchk_at dall_X7_most_40_pub04_1 (k := 20) rfl
theorem dX7_most_197 : decode cX7_most 197 = .ok (.ireturn, 1) := dchk_at dall_X7_most_40_pub04_1 (k := 21) rfl
theorem dX7_most_10 : decode cX7_most 10 = .ok (.ldc 113, 2) := dchk_at dall_X7_most_40_pub04_1 (k := 22) rfl
theorem dX7_most_12 : decode cX7_most 12 = .ok (.ireturn, 1) := dchk_at dall_X7_most_40_pub04_1 (k := 23) rfl
def dl_X7_move_40_pub04_0 : List (Nat × Instr × Nat) := [(0, .aload_n 0, 1), (1, .iconst 0, 1), (2, .iload_n 1, 1), (3, .iload_n 2, 1), (4, .iload_n 3, 1), (5, .iconst 1, 1), (6, .invokevirtual 163, 3), (9, .ireturn, 1)]
set_option maxRecDepth 100000 in
theorem dall_X7_move_40_pub04_0 : dchk cX7_move dl_X7_move_40_pub04_0 = true := by decide +kernel
theorem dX7_move_0 : decode cX7_move 0 = .ok (.aload_n 0, 1) := dchk_at dall_X7_move_40_pub04_0 (k := 0) rfl
theorem dX7_move_1 : decode cX7_move 1 = .ok (.iconst 0, 1) := dchk_at dall_X7_move_40_pub04_0 (k := 1) rfl
theorem dX7_move_2 : decode cX7_move 2 = .ok (.iload_n 1, 1) := dchk_at dall_X7_move_40_pub04_0 (k := 2) rfl
theorem dX7_move_3 : decode cX7_move 3 = .ok (.iload_n 2, 1) := dchk_at dall_X7_move_40_pub04_0 (k := 3) rfl
theorem dX7_move_4 : decode cX7_move 4 = .ok (.iload_n 3, 1) := dchk_at dall_X7_move_40_pub04_0 (k := 4) rfl
theorem dX7_move_5 : decode cX7_move 5 = .ok (.iconst 1, 1) := dchk_at dall_X7_move_40_pub04_0 (k := 5) rfl
theorem dX7_move_6 : decode cX7_move 6 = .ok (.invokevirtual 163, 3) := dchk_at dall_X7_move_40_pub04_0 (k := 6) rfl
theorem dX7_move_9 : decode cX7_move 9 = .ok (.ireturn, 1) := dchk_at dall_X7_move_40_pub04_0 (k := 7) rfl
def dl_X7_needs_40_pub04_0 : List (Nat × Instr × Nat) := [(0, .aload_n 0, 1), (1, .getfield 35, 3), (4, .iconst 0, 1), (5, .iload_n 1, 1), (6, .iload_n 2, 1), (7, .iload_n 3, 1), (8, .invokevirtual 220, 3), (11, .iconst (-1), 1), (12, .if_icmp .eq 7, 3), (19, .aload_n 0, 1), (20, .getfield 35, 3), (23, .iload_n 1, 1), (24, .iload_n 2, 1), (25, .iload_n 3, 1), (26, .invokevirtual 254, 3), (29, .lconst 1, 1), (30, .ladd, 1), (31, .lreturn, 1), (15, .ldc2_w 154, 3), (18, .lreturn, 1)]
set_option maxRecDepth 100000 in
theorem dall_X7_needs_40_pub04_0 : dchk cX7_needs dl_X7_needs_40_pub04_0 = true := by decide +kernel
theorem dX7_needs_0 : decode cX7_needs 0 = .ok (.aload_n 0, 1) := dchk_at dall_X7_needs_40_pub04_0 (k := 0) rfl
theorem dX7_needs_1 : decode cX7_needs 1 = .ok (.getfield 35, 3) := dchk_at dall_X7_needs_40_pub04_0 (k := 1) rfl
theorem dX7_needs_4 : decode cX7_needs 4 = .ok (.iconst 0, 1) := dchk_at dall_X7_needs_40_pub04_0 (k := 2) rfl
theorem dX7_needs_5 : decode cX7_needs 5 = .ok (.iload_n 1, 1) := dchk_at dall_X7_needs_40_pub04_0 (k := 3) rfl
theorem dX7_needs_6 : decode cX7_needs 6 = .ok (.iload_n 2, 1) := dchk_at dall_X7_needs_40_pub04_0 (k := 4) rfl
theorem dX7_needs_7 : decode cX7_needs 7 = .ok (.iload_n 3, 1) := dchk_at dall_X7_needs_40_pub04_0 (k := 5) rfl
theorem dX7_needs_8 : decode cX7_needs 8 = .ok (.invokevirtual 220, 3) := dchk_at dall_X7_needs_40_pub04_0 (k := 6) rfl
theorem dX7_needs_11 : decode cX7_needs 11 = .ok (.iconst (-1), 1) := dchk_at dall_X7_needs_40_pub04_0 (k := 7) rfl
theorem dX7_needs_12 : decode cX7_needs 12 = .ok (.if_icmp .eq 7, 3) := dchk_at dall_X7_needs_40_pub04_0 (k := 8) rfl
theorem dX7_needs_19 : decode cX7_needs 19 = .ok (.aload_n 0, 1) := dchk_at dall_X7_needs_40_pub04_0 (k := 9) rfl
theorem dX7_needs_20 : decode cX7_needs 20 = .ok (.getfield 35, 3) := dchk_at dall_X7_needs_40_pub04_0 (k := 10) rfl
theorem dX7_needs_23 : decode cX7_needs 23 = .ok (.iload_n 1, 1) := dchk_at dall_X7_needs_40_pub04_0 (k := 11) rfl
theorem dX7_needs_24 : decode cX7_needs 24 = .ok (.iload_n 2, 1) := dchk_at dall_X7_needs_40_pub04_0 (k := 12) rfl
theorem dX7_needs_25 : decode cX7_needs 25 = .ok (.iload_n 3, 1) := dchk_at dall_X7_needs_40_pub04_0 (k := 13) rfl
theorem dX7_needs_26 : decode cX7_needs 26 = .ok (.invokevirtual 254, 3) := dchk_at dall_X7_needs_40_pub04_0 (k := 14) rfl
theorem dX7_needs_29 : decode cX7_needs 29 = .ok (.lconst 1, 1) := dchk_at dall_X7_needs_40_pub04_0 (k := 15) rfl
theorem dX7_needs_30 : decode cX7_needs 30 = .ok (.ladd, 1) := dchk_at dall_X7_needs_40_pub04_0 (k := 16) rfl
theorem dX7_needs_31 : decode cX7_needs 31 = .ok (.lreturn, 1) := dchk_at dall_X7_needs_40_pub04_0 (k := 17) rfl
theorem dX7_needs_15 : decode cX7_needs 15 = .ok (.ldc2_w 154, 3) := dchk_at dall_X7_needs_40_pub04_0 (k := 18) rfl
theorem dX7_needs_18 : decode cX7_needs 18 = .ok (.lreturn, 1) := dchk_at dall_X7_needs_40_pub04_0 (k := 19) rfl
def B_X7_limit_38 (p1 : Int32) (p2 : Int32) (p3 : Int32) (c_now_row : Nat → Int32) (x4 : Int32) (x5 : Int32) : Option ((Int32 × Int32) ⊕ (Nat × Int32)) :=
  if (200 : Int32) < x5 then some (.inr (1, x4)) else bd1 (F_X5_hasRoom p1 (x5 * p2) (x5 * p3) c_now_row) (fun r_14 => if r_14 = (0 : Int32) then some (.inr (1, x4)) else bd1 (F_X5_isQuietWith p1 (x5 * p2) (x5 * p3) c_now_row) (fun r_18 => if r_18 = (0 : Int32) then some (.inr (0, x4)) else some (.inl (x5, x5 + (1 : Int32)))))
def F_X7_limit (K : Nat) (p1 : Int32) (p2 : Int32) (p3 : Int32) (c_now_row : Nat → Int32) : Option (Int32) :=
  bd1 (F_X5_hasSite p1 c_now_row) (fun r_1 => if r_1 = (0 : Int32) then some (-1 : Int32) else bd1 (F_X7_isWay p2 p3) (fun r_5 => if r_5 = (0 : Int32) then some (-1 : Int32) else bd1 (F_X5_isFrozen p1 c_now_row) (fun r_9 => if r_9 = (0 : Int32) then bd2 (lpF (fun u9 : Int32 × Int32 => B_X7_limit_38 p1 p2 p3 c_now_row u9.1 u9.2) K ((0 : Int32), (1 : Int32))) (fun t_22 x4_23 => if t_22 = 0 then some x4_23 else if t_22 = 1 then some x4_23 else none) else some (-1 : Int32))))
abbrev w_X7_limit (E : EE) (a_ a_tape a_reader a_scripts a_now a_trial a_kept a_book a_keptBook a_history a_draws a_refused a_now_row a_now_partners a_now_share a_now_leftOver : Nat) (c_hasImage : Int32) (c_now_askedCount : Int32) (c_now_outcome : Int32) (c_now_row : Nat → Int32) : va_W := [(a_, .inr (8, [.ref a_tape, .ref a_reader, .ref a_scripts, .ref a_now, .ref a_trial, .ref a_kept, .ref a_book, .ref a_keptBook, .ref a_history, .ref a_draws, .ref a_refused, .int c_hasImage])), (a_now, .inr (6, [.ref a_now_row, .ref a_now_partners, .int c_now_askedCount, .int c_now_outcome, .ref a_now_share, .ref a_now_leftOver])), (a_now_row, .inl (E.2.1, 81, .inl c_now_row))]
def v_f_X7_limit : List Cond := List.cons (.code yX7_limit cX7_limit 6 (some .int)) (HAppend.hAppend (α := List Cond) (β := List Cond) (γ := List Cond) [.fieldLink RX7 35 "HushWatch" "now" "LHushWatch$State;", .methodLink RX7 120 yX5_hasSite, .instanceMethod yX5_hasSite, .selects RX5 yX5_hasSite yX5_hasSite, .initialized RX5, .methodLink RX7 210 yX7_isWay, .static yX7_isWay, .initialized RX7, .methodLink RX7 143 yX5_isFrozen, .instanceMethod yX5_isFrozen, .selects RX5 yX5_isFrozen yX5_isFrozen, .methodLink RX7 213 yX5_hasRoom, .instanceMethod yX5_hasRoom, .selects RX5 yX5_hasRoom yX5_hasRoom, .methodLink RX7 217 yX5_isQuietWith, .instanceMethod yX5_isQuietWith, .selects RX5 yX5_isQuietWith yX5_isQuietWith] (HAppend.hAppend (α := List Cond) (β := List Cond) (γ := List Cond) wsX70 (HAppend.hAppend (α := List Cond) (β := List Cond) (γ := List Cond) v_f_X5_hasSite (HAppend.hAppend (α := List Cond) (β := List Cond) (γ := List Cond) v_f_X7_isWay (HAppend.hAppend (α := List Cond) (β := List Cond) (γ := List Cond) v_f_X5_isFrozen (HAppend.hAppend (α := List Cond) (β := List Cond) (γ := List Cond) v_f_X5_hasRoom (HAppend.hAppend (α := List Cond) (β := List Cond) (γ := List Cond) v_f_X5_isQuietWith [])))))))
theorem gw_f_X7_limit : v_f_X7_limit.all goodWord = true := by decide +kernel
theorem i_f_X7_limit_X7 : ∀ w ∈ wsX70, w ∈ v_f_X7_limit := fun _ h => List.mem_cons_of_mem _ (List.mem_append_right _ (List.mem_append_left _ h))
theorem g_f_X7_limit_f_X5_hasSite_120 : GoodIn v_f_X7_limit (wsV RX7 120 RX5 yX5_hasSite v_f_X5_hasSite) := goodIn_app (goodIn_of _ (by decide +kernel)) (goodIn_sub (fun _ h => List.mem_cons_of_mem _ (List.mem_append_right _ (List.mem_append_right _ (List.mem_append_left _ h)))) gw_f_X5_hasSite)
theorem g_f_X7_limit_f_X7_isWay_210 : GoodIn v_f_X7_limit (va_wsS RX7 210 yX7_isWay v_f_X7_isWay) := goodIn_app (goodIn_of _ (by decide +kernel)) (goodIn_sub (fun _ h => List.mem_cons_of_mem _ (List.mem_append_right _ (List.mem_append_right _ (List.mem_append_right _ (List.mem_append_left _ h))))) gw_f_X7_isWay)
theorem g_f_X7_limit_f_X5_isFrozen_143 : GoodIn v_f_X7_limit (wsV RX7 143 RX5 yX5_isFrozen v_f_X5_isFrozen) := goodIn_app (goodIn_of _ (by decide +kernel)) (goodIn_sub (fun _ h => List.mem_cons_of_mem _ (List.mem_append_right _ (List.mem_append_right _ (List.mem_append_right _ (List.mem_append_right _ (List.mem_append_left _ h)))))) gw_f_X5_isFrozen)
theorem g_f_X7_limit_f_X5_hasRoom_213 : GoodIn v_f_X7_limit (wsV RX7 213 RX5 yX5_hasRoom v_f_X5_hasRoom) := goodIn_app (goodIn_of _ (by decide +kernel)) (goodIn_sub (fun _ h => List.mem_cons_of_mem _ (List.mem_append_right _ (List.mem_append_right _ (List.mem_append_right _ (List.mem_append_right _ (List.mem_append_right _ (List.mem_append_left _ h))))))) gw_f_X5_hasRoom)
theorem g_f_X7_limit_f_X5_isQuietWith_217 : GoodIn v_f_X7_limit (wsV RX7 217 RX5 yX5_isQuietWith v_f_X5_isQuietWith) := goodIn_app (goodIn_of _ (by decide +kernel)) (goodIn_sub (fun _ h => List.mem_cons_of_mem _ (List.mem_append_right _ (List.mem_append_right _ (List.mem_append_right _ (List.mem_append_right _ (List.mem_append_right _ (List.mem_append_right _ (List.mem_append_left _ h)))))))) gw_f_X5_isQuietWith)
theorem hd_X7_limit : yX7_limit.cls = RX7 ∧ yX7_limit.cls ≠ "java/lang/invoke/MethodHandle" ∧ yX7_limit.cls ≠ "java/lang/invoke/VarHandle" ∧ (parseMethodDescriptor yX7_limit.desc).map (fun d => d.parameters.length) = some 3 := by decide +kernel
set_option maxHeartbeats 4000000 in
set_option maxRecDepth 100000 in
theorem wb_X7_limit_38 {p : Program} (l : Launch) {e : Env} {s : State} {m : MethodId} {below : List Frame} {meth : Method} {c : Code} {Q : State → Prop} (E : EE) (K : Nat) {a_ a_tape a_reader a_scripts a_now a_trial a_kept a_book a_keptBook a_history a_draws a_refused a_now_row a_now_partners a_now_share a_now_leftOver : Nat} {p1 : Int32} {p2 : Int32} {p3 : Int32} {c_hasImage : Int32} {c_now_askedCount : Int32} {c_now_outcome : Int32} {c_now_row : Nat → Int32} {x4 : Int32} {x5 : Int32} (hx : p.tables.exec = Jvm.exec) (hb : c.code = cX7_limit) (hml : c.maxLocals = 6) (hown : s.vm.findClass RX7 = some m.cls) (hts : ∀ w ∈ v_f_X7_limit, w.before #[Value.ref a_, Value.int p1, Value.int p2, Value.int p3] s = true) (hK : va_K E.1 vwCl (TY E) s) (hN : NX s) {xx : (Int32 × Int32) ⊕ (Nat × Int32)} (hC : ∀ (x4 : Int32), ∀ (x5 : Int32), xx = .inl (x4, x5) → ∀ (ls : Array Slot), lv_has ls 6 [(0, .ref a_), (1, .int p1), (2, .int p2), (3, .int p3), (4, .int x4), (5, .int x5)] → W p l e ({ frames := 3, cells := 0, slots := 0, locals := 73 } : Room) s m #[Value.ref a_, Value.int p1, Value.int p2, Value.int p3] below meth c s.heap [] 0 0 Q (F0 m 38 ls [])) (hE : ∀ (t9 : Nat), ∀ (x4 : Int32), xx = .inr (t9, x4) → ((t9 = 0 → ∀ (ls : Array Slot), lv_has ls 6 [(4, .int x4)] → W p l e ({ frames := 3, cells := 0, slots := 0, locals := 73 } : Room) s m #[Value.ref a_, Value.int p1, Value.int p2, Value.int p3] below meth c s.heap [] 0 0 Q (F0 m 84 ls [])) ∧ (t9 = 1 → ∀ (ls : Array Slot), lv_has ls 6 [(4, .int x4)] → W p l e ({ frames := 3, cells := 0, slots := 0, locals := 73 } : Room) s m #[Value.ref a_, Value.int p1, Value.int p2, Value.int p3] below meth c s.heap [] 0 0 Q (F0 m 97 ls [])))) (hF : B_X7_limit_38 p1 p2 p3 c_now_row x4 x5 = some xx) (hP : va_P E.1 vwCl (w_X7_limit E a_ a_tape a_reader a_scripts a_now a_trial a_kept a_book a_keptBook a_history a_draws a_refused a_now_row a_now_partners a_now_share a_now_leftOver c_hasImage c_now_askedCount c_now_outcome c_now_row) s.heap) : ∀ (ls : Array Slot), lv_has ls 6 [(0, .ref a_), (1, .int p1), (2, .int p2), (3, .int p3), (4, .int x4), (5, .int x5)] → W p l e ({ frames := 3, cells := 0, slots := 0, locals := 73 } : Room) s m #[Value.ref a_, Value.int p1, Value.int p2, Value.int p3] below meth c s.heap [] 0 0 Q (F0 m 38 ls []) := by
  unfold B_X7_limit_38 at hF
  replace hP : va_P E.1 vwCl [(a_, .inr (8, [.ref a_tape, .ref a_reader, .ref a_scripts, .ref a_now, .ref a_trial, .ref a_kept, .ref a_book, .ref a_keptBook, .ref a_history, .ref a_draws, .ref a_refused, .int c_hasImage])), (a_now, .inr (6, [.ref a_now_row, .ref a_now_partners, .int c_now_askedCount, .int c_now_outcome, .ref a_now_share, .ref a_now_leftOver])), (a_now_row, .inl (E.2.1, 81, .inl c_now_row))] s.heap := hP
  intro ls hl
  refine lv_iload hx hb dX7_limit_38 (lv_at hl 5 rfl) ?_
  refine lv_sipush (v := 200) hx hb dX7_limit_40 (by decide) ?_
  refine lv_icmp_gt (tgt := 97) hx hb dX7_limit_43 (by decide) (fun c_13 => ?_) (fun c_13 => ?_)
  ·
    replace hF := ip c_13 hF
    cases hF
    exact (hE 1 x4 rfl).2 rfl ls (lv_sub hl [4] rfl)
  ·
    replace hF := inn c_13 hF
    refine lv_aload_n hx hb dX7_limit_46 rfl (lv_at hl 0 rfl) ?_
    refine gt_X7_3 (v := .ref a_now) hx hb hts i_f_X7_limit_X7 hown hK hP 0 rfl (hts (.fieldLink RX7 35 "HushWatch" "now" "LHushWatch$State;") (List.mem_of_getElem? (i := 1) rfl)) rfl dX7_limit_47 ?_
    refine lv_iload_n hx hb dX7_limit_50 rfl (lv_at hl 1 rfl) ?_
    refine lv_iload hx hb dX7_limit_51 (lv_at hl 5 rfl) ?_
    refine lv_iload_n hx hb dX7_limit_53 rfl (lv_at hl 2 rfl) ?_
    refine lv_imul hx hb dX7_limit_54 ?_
    refine lv_iload hx hb dX7_limit_55 (lv_at hl 5 rfl) ?_
    refine lv_iload_n hx hb dX7_limit_57 rfl (lv_at hl 3 rfl) ?_
    refine lv_imul hx hb dX7_limit_58 ?_
    replace hF := bd1_s hF
    obtain ⟨r_14, hc_15, hF⟩ := hF
    have hPc : va_P E.1 vwCl (w_X5_hasRoom E a_now a_now_row a_now_partners a_now_share a_now_leftOver c_now_askedCount c_now_outcome c_now_row) s.heap := hP.sub (ws' := [(a_now, .inr (6, [.ref a_now_row, .ref a_now_partners, .int c_now_askedCount, .int c_now_outcome, .ref a_now_share, .ref a_now_leftOver])), (a_now_row, .inl (E.2.1, 81, .inl c_now_row))]) [1, 2] rfl
    have hrc := va_recv hK hPc (ci := 6) (q0 := 0) rfl rfl
    refine pE_z (va_runV (As := [.int p1, .int (x5 * p2), .int (x5 * p3)]) (rest := [])  ⟨hx, hb, hml, hown, hts⟩ (f_X5_hasRoom l E (a_ := a_now) (a_row := a_now_row) (a_partners := a_now_partners) (a_share := a_now_share) (a_leftOver := a_now_leftOver) (p1 := p1) (p2 := x5 * p2) (p3 := x5 * p3) (c_askedCount := c_now_askedCount) (c_outcome := c_now_outcome) (c_row := c_now_row) hc_15) (cwV 3 hts g_f_X7_limit_f_X5_hasRoom_213 rfl rfl rfl hd_X5_hasRoom ⟨Nat.le_of_ble_eq_true rfl, Nat.le_of_ble_eq_true rfl⟩) ⟨pP.blind, hrc, (pP.pre ⟨hK, hN⟩ hPc)⟩ rfl rfl hl.1 rfl (lv_room (Nat.le_of_ble_eq_true rfl)) dX7_limit_59 ⟨Nat.le_of_ble_eq_true rfl, Nat.le_of_ble_eq_true rfl⟩) (fun hb_16 => ?_)
    refine lv_if_eq (tgt := 97) hx hb dX7_limit_62 (by decide) (fun c_17 => ?_) (fun c_17 => ?_)
    ·
      replace hF := ip c_17 hF
      cases hF
      exact (hE 1 x4 rfl).2 rfl ls (lv_sub hl [4] rfl)
    ·
      replace hF := inn c_17 hF
      refine lv_aload_n hx hb dX7_limit_65 rfl (lv_at hl 0 rfl) ?_
      refine gt_X7_3 (v := .ref a_now) hx hb hts i_f_X7_limit_X7 hown hK hP 0 rfl (hts (.fieldLink RX7 35 "HushWatch" "now" "LHushWatch$State;") (List.mem_of_getElem? (i := 1) rfl)) rfl dX7_limit_66 ?_
      refine lv_iload_n hx hb dX7_limit_69 rfl (lv_at hl 1 rfl) ?_
      refine lv_iload hx hb dX7_limit_70 (lv_at hl 5 rfl) ?_
      refine lv_iload_n hx hb dX7_limit_72 rfl (lv_at hl 2 rfl) ?_
      refine lv_imul hx hb dX7_limit_73 ?_
      refine lv_iload hx hb dX7_limit_74 (lv_at hl 5 rfl) ?_
      refine lv_iload_n hx hb dX7_limit_76 rfl (lv_at hl 3 rfl) ?_
      refine lv_imul hx hb dX7_limit_77 ?_
      replace hF := bd1_s hF
      obtain ⟨r_18, hc_19, hF⟩ := hF
      have hPc : va_P E.1 vwCl (w_X5_isQuietWith E a_now a_now_row a_now_partners a_now_share a_now_leftOver c_now_askedCount c_now_outcome c_now_row) s.heap := hP.sub (ws' := [(a_now, .inr (6, [.ref a_now_row, .ref a_now_partners, .int c_now_askedCount, .int c_now_outcome, .ref a_now_share, .ref a_now_leftOver])), (a_now_row, .inl (E.2.1, 81, .inl c_now_row))]) [1, 2] rfl
      have hrc := va_recv hK hPc (ci := 6) (q0 := 0) rfl rfl
      refine pE_z (va_runV (As := [.int p1, .int (x5 * p2), .int (x5 * p3)]) (rest := [])  ⟨hx, hb, hml, hown, hts⟩ (f_X5_isQuietWith l E (a_ := a_now) (a_row := a_now_row) (a_partners := a_now_partners) (a_share := a_now_share) (a_leftOver := a_now_leftOver) (p1 := p1) (p2 := x5 * p2) (p3 := x5 * p3) (c_askedCount := c_now_askedCount) (c_outcome := c_now_outcome) (c_row := c_now_row) hc_19) (cwV 3 hts g_f_X7_limit_f_X5_isQuietWith_217 rfl rfl rfl hd_X5_isQuietWith ⟨Nat.le_of_ble_eq_true rfl, Nat.le_of_ble_eq_true rfl⟩) ⟨pP.blind, hrc, (pP.pre ⟨hK, hN⟩ hPc)⟩ rfl rfl hl.1 rfl (lv_room (Nat.le_of_ble_eq_true rfl)) dX7_limit_78 ⟨Nat.le_of_ble_eq_true rfl, Nat.le_of_ble_eq_true rfl⟩) (fun hb_20 => ?_)
      refine lv_if_ne (tgt := 87) hx hb dX7_limit_81 (by decide) (fun c_21 => ?_) (fun c_21 => ?_)
      ·
        replace hF := inn c_21 hF
        refine lv_iload hx hb dX7_limit_87 (lv_at hl 5 rfl) ?_
        refine lv_istore (lv' := [(4, .int x5), (0, .ref a_), (1, .int p1), (2, .int p2), (3, .int p3), (5, .int x5)]) hx hb dX7_limit_89 hl (by decide) rfl (fun ls hl => ?_)
        refine lv_iinc (v := x5 + (1 : Int32)) (lv' := [(5, .int (x5 + (1 : Int32))), (4, .int x5), (0, .ref a_), (1, .int p1), (2, .int p2), (3, .int p3)]) hx hb dX7_limit_91 hl (k := 5) rfl (rfl) (by decide) rfl (fun ls hl => ?_)
        refine lv_goto (tgt := 38) hx hb dX7_limit_94 (by decide) ?_
        cases hF
        exact hC x5 (x5 + (1 : Int32)) rfl ls (lv_sub hl [2, 3, 4, 5, 1, 0] rfl)
      ·
        replace hF := ip c_21 hF
        cases hF
        exact (hE 0 x4 rfl).1 rfl ls (lv_sub hl [4] rfl)

set_option maxHeartbeats 4000000 in
set_option maxRecDepth 100000 in
theorem lw_X7_limit_38 {p : Program} (l : Launch) {e : Env} {s : State} {m : MethodId} {below : List Frame} {meth : Method} {c : Code} {Q : State → Prop} (E : EE) (K : Nat) {a_ a_tape a_reader a_scripts a_now a_trial a_kept a_book a_keptBook a_history a_draws a_refused a_now_row a_now_partners a_now_share a_now_leftOver : Nat} {p1 : Int32} {p2 : Int32} {p3 : Int32} {c_hasImage : Int32} {c_now_askedCount : Int32} {c_now_outcome : Int32} {c_now_row : Nat → Int32} (hx : p.tables.exec = Jvm.exec) (hb : c.code = cX7_limit) (hml : c.maxLocals = 6) (hown : s.vm.findClass RX7 = some m.cls) (hts : ∀ w ∈ v_f_X7_limit, w.before #[Value.ref a_, Value.int p1, Value.int p2, Value.int p3] s = true) (hK : va_K E.1 vwCl (TY E) s) (hN : NX s) (hP : va_P E.1 vwCl (w_X7_limit E a_ a_tape a_reader a_scripts a_now a_trial a_kept a_book a_keptBook a_history a_draws a_refused a_now_row a_now_partners a_now_share a_now_leftOver c_hasImage c_now_askedCount c_now_outcome c_now_row) s.heap) (j9 : Nat) (x4 : Int32) (x5 : Int32) (t9' : Nat) (x4' : Int32) (hL : lpF (fun u9 : Int32 × Int32 => B_X7_limit_38 p1 p2 p3 c_now_row u9.1 u9.2) j9 (x4, x5) = some (t9', x4')) (hX : (t9' = 0 → ∀ (ls : Array Slot), lv_has ls 6 [(4, .int x4')] → W p l e ({ frames := 3, cells := 0, slots := 0, locals := 73 } : Room) s m #[Value.ref a_, Value.int p1, Value.int p2, Value.int p3] below meth c s.heap [] 0 0 Q (F0 m 84 ls [])) ∧ (t9' = 1 → ∀ (ls : Array Slot), lv_has ls 6 [(4, .int x4')] → W p l e ({ frames := 3, cells := 0, slots := 0, locals := 73 } : Room) s m #[Value.ref a_, Value.int p1, Value.int p2, Value.int p3] below meth c s.heap [] 0 0 Q (F0 m 97 ls []))) : ∀ (ls : Array Slot), lv_has ls 6 [(0, .ref a_), (1, .int p1), (2, .int p2), (3, .int p3), (4, .int x4), (5, .int x5)] → W p l e ({ frames := 3, cells := 0, slots := 0, locals := 73 } : Room) s m #[Value.ref a_, Value.int p1, Value.int p2, Value.int p3] below meth c s.heap [] 0 0 Q (F0 m 38 ls []) := by
  exact lp_rule (P := (fun u9 : Int32 × Int32 => ∀ (ls : Array Slot), lv_has ls 6 [(0, .ref a_), (1, .int p1), (2, .int p2), (3, .int p3), (4, .int u9.1), (5, .int u9.2)] → W p l e ({ frames := 3, cells := 0, slots := 0, locals := 73 } : Room) s m #[Value.ref a_, Value.int p1, Value.int p2, Value.int p3] below meth c s.heap [] 0 0 Q (F0 m 38 ls []))) (R := (fun r9 : Nat × Int32 => (r9.1 = 0 → ∀ (ls : Array Slot), lv_has ls 6 [(4, .int r9.2)] → W p l e ({ frames := 3, cells := 0, slots := 0, locals := 73 } : Room) s m #[Value.ref a_, Value.int p1, Value.int p2, Value.int p3] below meth c s.heap [] 0 0 Q (F0 m 84 ls [])) ∧ (r9.1 = 1 → ∀ (ls : Array Slot), lv_has ls 6 [(4, .int r9.2)] → W p l e ({ frames := 3, cells := 0, slots := 0, locals := 73 } : Room) s m #[Value.ref a_, Value.int p1, Value.int p2, Value.int p3] below meth c s.heap [] 0 0 Q (F0 m 97 ls [])))) (fun u9 xx hF hC hE => wb_X7_limit_38 l E K (p1 := p1) (p2 := p2) (p3 := p3) (c_hasImage := c_hasImage) (c_now_askedCount := c_now_askedCount) (c_now_outcome := c_now_outcome) (c_now_row := c_now_row) (x4 := u9.1) (x5 := u9.2) hx hb hml hown hts hK hN (fun x4 x5 q9 => hC _ q9) (fun t9 x4 q9 => hE _ q9) hF hP) j9 (x4, x5) (t9', x4') hL hX

set_option maxHeartbeats 4000000 in
set_option maxRecDepth 100000 in
theorem f_X7_limit (l : Launch) (E : EE) (K : Nat) {a_ a_tape a_reader a_scripts a_now a_trial a_kept a_book a_keptBook a_history a_draws a_refused a_now_row a_now_partners a_now_share a_now_leftOver : Nat} {p1 : Int32} {p2 : Int32} {p3 : Int32} {c_hasImage : Int32} {c_now_askedCount : Int32} {c_now_outcome : Int32} {c_now_row : Nat → Int32} {rr : Int32} (hF : F_X7_limit K p1 p2 p3 c_now_row = some rr) : Met l yX7_limit v_f_X7_limit (({ frames := 3, cells := 0, slots := 0, locals := 73 } : Room)) (va_Pc [.ref a_, .int p1, .int p2, .int p3] (pP E (w_X7_limit E a_ a_tape a_reader a_scripts a_now a_trial a_kept a_book a_keptBook a_history a_draws a_refused a_now_row a_now_partners a_now_share a_now_leftOver c_hasImage c_now_askedCount c_now_outcome c_now_row))) (vp_Si (fun q : Int32 => q = rr)) 0 0 (fun _ => False) := by
  refine Met.ofW (cc := cX7_limit) (maxL := 6) (ret := (some .int)) (by decide) rfl ?_
  intro p e s m args below meth c s₁ B hml hv
  obtain ⟨rfl, ⟨hK, hN⟩, hP⟩ := hv
  have hx := B.exec
  have hb := B.bytes
  have hr := B.returns
  have hts := atoms_spec (ws := v_f_X7_limit) B.pre
  have hown : s.vm.findClass RX7 = some m.cls := own_of hd_X7_limit.1 (findClass_of_methodNamed B.named)
  have hlocks : meth.locks = false := B.notSynchronized
  replace hP : va_P E.1 vwCl [(a_, .inr (8, [.ref a_tape, .ref a_reader, .ref a_scripts, .ref a_now, .ref a_trial, .ref a_kept, .ref a_book, .ref a_keptBook, .ref a_history, .ref a_draws, .ref a_refused, .int c_hasImage])), (a_now, .inr (6, [.ref a_now_row, .ref a_now_partners, .int c_now_askedCount, .int c_now_outcome, .ref a_now_share, .ref a_now_leftOver])), (a_now_row, .inl (E.2.1, 81, .inl c_now_row))] s.heap := hP
  have hl := lv_entry ([.ref a_, .int p1, .int p2, .int p3]) (n := 6) (Nat.le_of_ble_eq_true rfl)
  rw [lg_entry_eq]
  generalize (lg_sl ([.ref a_, .int p1, .int p2, .int p3]) ++ List.replicate (6 - (lg_sl ([.ref a_, .int p1, .int p2, .int p3])).length) Slot.unset).toArray = ls at hl ⊢
  have hl : lv_has ls 6 [(0, .ref a_), (1, .int p1), (2, .int p2), (3, .int p3)] := hl
  obtain ⟨Q, hQ⟩ : ∃ Q : State → Prop, Q = MQ below (vp_Si (fun q : Int32 => q = rr)) #[Value.ref a_, Value.int p1, Value.int p2, Value.int p3] s 0 0 (fun _ => False) := ⟨_, rfl⟩
  rw [← hQ]
  change W p l e ({ frames := 3, cells := 0, slots := 0, locals := 73 } : Room) s m #[Value.ref a_, Value.int p1, Value.int p2, Value.int p3] below meth c s.heap [] 0 0 Q (F0 m 0 ls [])
  unfold F_X7_limit at hF
  refine lv_aload_n hx hb dX7_limit_0 rfl (lv_at hl 0 rfl) ?_
  refine gt_X7_3 (v := .ref a_now) hx hb hts i_f_X7_limit_X7 hown hK hP 0 rfl (hts (.fieldLink RX7 35 "HushWatch" "now" "LHushWatch$State;") (List.mem_of_getElem? (i := 1) rfl)) rfl dX7_limit_1 ?_
  refine lv_iload_n hx hb dX7_limit_4 rfl (lv_at hl 1 rfl) ?_
  replace hF := bd1_s hF
  obtain ⟨r_1, hc_2, hF⟩ := hF
  have hPc : va_P E.1 vwCl (w_X5_hasSite E a_now a_now_row a_now_partners a_now_share a_now_leftOver c_now_askedCount c_now_outcome c_now_row) s.heap := hP.sub (ws' := [(a_now, .inr (6, [.ref a_now_row, .ref a_now_partners, .int c_now_askedCount, .int c_now_outcome, .ref a_now_share, .ref a_now_leftOver])), (a_now_row, .inl (E.2.1, 81, .inl c_now_row))]) [1, 2] rfl
  have hrc := va_recv hK hPc (ci := 6) (q0 := 0) rfl rfl
  refine pE_z (va_runV (As := [.int p1]) (rest := [])  ⟨hx, hb, hml, hown, hts⟩ (f_X5_hasSite l E (a_ := a_now) (a_row := a_now_row) (a_partners := a_now_partners) (a_share := a_now_share) (a_leftOver := a_now_leftOver) (p1 := p1) (c_askedCount := c_now_askedCount) (c_outcome := c_now_outcome) (c_row := c_now_row) hc_2) (cwV 1 hts g_f_X7_limit_f_X5_hasSite_120 rfl rfl rfl hd_X5_hasSite ⟨Nat.le_of_ble_eq_true rfl, Nat.le_of_ble_eq_true rfl⟩) ⟨pP.blind, hrc, (pP.pre ⟨hK, hN⟩ hPc)⟩ rfl rfl hl.1 rfl (lv_room (Nat.le_of_ble_eq_true rfl)) dX7_limit_5 ⟨Nat.le_of_ble_eq_true rfl, Nat.le_of_ble_eq_true rfl⟩) (fun hb_3 => ?_)
  refine lv_if_eq (tgt := 30) hx hb dX7_limit_8 (by decide) (fun c_4 => ?_) (fun c_4 => ?_)
  ·
    replace hF := ip c_4 hF
    refine lv_iconst (v := -1) hx hb dX7_limit_30 (by decide) ?_
    rw [hQ]
    obtain e9_0 := inj1 hF
    exact W.iret (v := (-1 : Int32)) hx hb hr (fun tt ht hW => ⟨_, rfl, e9_0, ht⟩) (fun _ h => by cases h) dX7_limit_31
  ·
    replace hF := inn c_4 hF
    refine lv_iload_n hx hb dX7_limit_11 rfl (lv_at hl 2 rfl) ?_
    refine lv_iload_n hx hb dX7_limit_12 rfl (lv_at hl 3 rfl) ?_
    replace hF := bd1_s hF
    obtain ⟨r_5, hc_6, hF⟩ := hF
    have hPc : va_P E.1 vwCl [] s.heap := fun k q h => by simp at h
    refine pE_z (va_runS (As := [.int p2, .int p3]) (rest := [])  ⟨hx, hb, hml, hown, hts⟩ (f_X7_isWay l E (p0 := p2) (p1 := p3) hc_6) (va_cwS 2 hts g_f_X7_limit_f_X7_isWay_210 rfl rfl rfl hd_X7_isWay.2 ⟨Nat.le_of_ble_eq_true rfl, Nat.le_of_ble_eq_true rfl⟩) ⟨pP.blind, (pP.pre ⟨hK, hN⟩ hPc)⟩ rfl rfl hl.1 rfl (lv_room (Nat.le_of_ble_eq_true rfl)) dX7_limit_13 ⟨Nat.le_of_ble_eq_true rfl, Nat.le_of_ble_eq_true rfl⟩) (fun hb_7 => ?_)
    refine lv_if_eq (tgt := 30) hx hb dX7_limit_16 (by decide) (fun c_8 => ?_) (fun c_8 => ?_)
    ·
      replace hF := ip c_8 hF
      refine lv_iconst (v := -1) hx hb dX7_limit_30 (by decide) ?_
      rw [hQ]
      obtain e9_0 := inj1 hF
      exact W.iret (v := (-1 : Int32)) hx hb hr (fun tt ht hW => ⟨_, rfl, e9_0, ht⟩) (fun _ h => by cases h) dX7_limit_31
    ·
      replace hF := inn c_8 hF
      refine lv_aload_n hx hb dX7_limit_19 rfl (lv_at hl 0 rfl) ?_
      refine gt_X7_3 (v := .ref a_now) hx hb hts i_f_X7_limit_X7 hown hK hP 0 rfl (hts (.fieldLink RX7 35 "HushWatch" "now" "LHushWatch$State;") (List.mem_of_getElem? (i := 1) rfl)) rfl dX7_limit_20 ?_
      refine lv_iload_n hx hb dX7_limit_23 rfl (lv_at hl 1 rfl) ?_
      replace hF := bd1_s hF
      obtain ⟨r_9, hc_10, hF⟩ := hF
      have hPc : va_P E.1 vwCl (w_X5_isFrozen E a_now a_now_row a_now_partners a_now_share a_now_leftOver c_now_askedCount c_now_outcome c_now_row) s.heap := hP.sub (ws' := [(a_now, .inr (6, [.ref a_now_row, .ref a_now_partners, .int c_now_askedCount, .int c_now_outcome, .ref a_now_share, .ref a_now_leftOver])), (a_now_row, .inl (E.2.1, 81, .inl c_now_row))]) [1, 2] rfl
      have hrc := va_recv hK hPc (ci := 6) (q0 := 0) rfl rfl
      refine pE_z (va_runV (As := [.int p1]) (rest := [])  ⟨hx, hb, hml, hown, hts⟩ (f_X5_isFrozen l E (a_ := a_now) (a_row := a_now_row) (a_partners := a_now_partners) (a_share := a_now_share) (a_leftOver := a_now_leftOver) (p1 := p1) (c_askedCount := c_now_askedCount) (c_outcome := c_now_outcome) (c_row := c_now_row) hc_10) (cwV 1 hts g_f_X7_limit_f_X5_isFrozen_143 rfl rfl rfl hd_X5_isFrozen ⟨Nat.le_of_ble_eq_true rfl, Nat.le_of_ble_eq_true rfl⟩) ⟨pP.blind, hrc, (pP.pre ⟨hK, hN⟩ hPc)⟩ rfl rfl hl.1 rfl (lv_room (Nat.le_of_ble_eq_true rfl)) dX7_limit_24 ⟨Nat.le_of_ble_eq_true rfl, Nat.le_of_ble_eq_true rfl⟩) (fun hb_11 => ?_)
      refine lv_if_eq (tgt := 32) hx hb dX7_limit_27 (by decide) (fun c_12 => ?_) (fun c_12 => ?_)
      ·
        replace hF := ip c_12 hF
        refine lv_iconst (v := 0) hx hb dX7_limit_32 (by decide) ?_
        refine lv_istore (lv' := [(4, .int (0 : Int32)), (0, .ref a_), (1, .int p1), (2, .int p2), (3, .int p3)]) hx hb dX7_limit_33 hl (by decide) rfl (fun ls hl => ?_)
        refine lv_iconst (v := 1) hx hb dX7_limit_35 (by decide) ?_
        refine lv_istore (lv' := [(5, .int (1 : Int32)), (4, .int (0 : Int32)), (0, .ref a_), (1, .int p1), (2, .int p2), (3, .int p3)]) hx hb dX7_limit_36 hl (by decide) rfl (fun ls hl => ?_)
        replace hF := bd2_s hF
        obtain ⟨t_22, x4_23, hL_24, hF⟩ := hF
        refine lw_X7_limit_38 l E K (p1 := p1) (p2 := p2) (p3 := p3) (c_hasImage := c_hasImage) (c_now_askedCount := c_now_askedCount) (c_now_outcome := c_now_outcome) (c_now_row := c_now_row) hx hb hml hown hts hK hN hP K (0 : Int32) (1 : Int32) t_22 x4_23 hL_24 ⟨?_, ?_⟩ ls (lv_sub hl [2, 3, 4, 5, 1, 0] rfl)
        ·
          intro t9
          replace hF := ip t9 hF
          intro ls hl
          refine lv_goto (tgt := 97) hx hb dX7_limit_84 (by decide) ?_
          refine lv_iload hx hb dX7_limit_97 (lv_at hl 0 rfl) ?_
          rw [hQ]
          obtain e9_0 := inj1 hF
          exact W.iret (v := x4_23) hx hb hr (fun tt ht hW => ⟨_, rfl, e9_0, ht⟩) (fun _ h => by cases h) dX7_limit_99
        ·
          intro t9
          replace hF := inn (show ¬ t_22 = 0 by omega) hF
          replace hF := ip t9 hF
          intro ls hl
          refine lv_iload hx hb dX7_limit_97 (lv_at hl 0 rfl) ?_
          rw [hQ]
          obtain e9_0 := inj1 hF
          exact W.iret (v := x4_23) hx hb hr (fun tt ht hW => ⟨_, rfl, e9_0, ht⟩) (fun _ h => by cases h) dX7_limit_99
      ·
        replace hF := inn c_12 hF
        refine lv_iconst (v := -1) hx hb dX7_limit_30 (by decide) ?_
        rw [hQ]
        obtain e9_0 := inj1 hF
        exact W.iret (v := (-1 : Int32)) hx hb hr (fun tt ht hW => ⟨_, rfl, e9_0, ht⟩) (fun _ h => by cases h) dX7_limit_31

def F_X7_log (p1 : Int32) (p2 : Int32) (c_now_row : Nat → Int32) (c_book_lines : Nat → Int32) : Option (Int32) :=
  if p1 < (0 : Int32) then some (-100000000 : Int32) else bd1 (F_X7_loggedActs c_now_row) (fun r_2 => if r_2 ≤ p1 then some (-100000000 : Int32) else if p2 < (0 : Int32) then some (-100000000 : Int32) else if p2 < (3 : Int32) then bd1 (F_X0_read (((c_now_row 16) - (1 : Int32)) - p1) p2 c_book_lines) (fun r_7 => some r_7) else some (-100000000 : Int32))
abbrev w_X7_log (E : EE) (a_ a_tape a_reader a_scripts a_now a_trial a_kept a_book a_keptBook a_history a_draws a_refused a_now_row a_now_partners a_now_share a_now_leftOver a_book_lines : Nat) (c_hasImage : Int32) (c_now_askedCount : Int32) (c_now_outcome : Int32) (c_now_row : Nat → Int32) (c_book_lines : Nat → Int32) : va_W := [(a_, .inr (8, [.ref a_tape, .ref a_reader, .ref a_scripts, .ref a_now, .ref a_trial, .ref a_kept, .ref a_book, .ref a_keptBook, .ref a_history, .ref a_draws, .ref a_refused, .int c_hasImage])), (a_now, .inr (6, [.ref a_now_row, .ref a_now_partners, .int c_now_askedCount, .int c_now_outcome, .ref a_now_share, .ref a_now_leftOver])), (a_now_row, .inl (E.2.1, 81, .inl c_now_row)), (a_book, .inr (1, [.ref a_book_lines])), (a_book_lines, .inl (E.2.1, 300, .inl c_book_lines))]
def v_f_X7_log : List Cond := List.cons (.code yX7_log cX7_log 3 (some .int)) (HAppend.hAppend (α := List Cond) (β := List Cond) (γ := List Cond) [.constant RX7 113 (-100000000), .fieldLink RX7 48 "HushWatch" "book" "LHushWatch$Book;", .fieldLink RX7 35 "HushWatch" "now" "LHushWatch$State;", .methodLink RX7 204 yX7_loggedActs, .instanceMethod yX7_loggedActs, .selects RX7 yX7_loggedActs yX7_loggedActs, .initialized RX7, .methodLink RX7 207 yX0_read, .instanceMethod yX0_read, .selects RX0 yX0_read yX0_read, .initialized RX0] (HAppend.hAppend (α := List Cond) (β := List Cond) (γ := List Cond) v_f_X7_loggedActs (HAppend.hAppend (α := List Cond) (β := List Cond) (γ := List Cond) wsX70 (HAppend.hAppend (α := List Cond) (β := List Cond) (γ := List Cond) wsX50 (HAppend.hAppend (α := List Cond) (β := List Cond) (γ := List Cond) v_f_X0_read [])))))
theorem gw_f_X7_log : v_f_X7_log.all goodWord = true := by decide +kernel
theorem i_f_X7_log_X7 : ∀ w ∈ wsX70, w ∈ v_f_X7_log := fun _ h => List.mem_cons_of_mem _ (List.mem_append_right _ (List.mem_append_right _ (List.mem_append_left _ h)))
theorem i_f_X7_log_X5 : ∀ w ∈ wsX50, w ∈ v_f_X7_log := fun _ h => List.mem_cons_of_mem _ (List.mem_append_right _ (List.mem_append_right _ (List.mem_append_right _ (List.mem_append_left _ h))))
theorem g_f_X7_log_f_X7_loggedActs_204 : GoodIn v_f_X7_log (wsV RX7 204 RX7 yX7_loggedActs v_f_X7_loggedActs) := goodIn_app (goodIn_of _ (by decide +kernel)) (goodIn_sub (fun _ h => List.mem_cons_of_mem _ (List.mem_append_right _ (List.mem_append_left _ h))) gw_f_X7_loggedActs)
theorem g_f_X7_log_f_X0_read_207 : GoodIn v_f_X7_log (wsV RX7 207 RX0 yX0_read v_f_X0_read) := goodIn_app (goodIn_of _ (by decide +kernel)) (goodIn_sub (fun _ h => List.mem_cons_of_mem _ (List.mem_append_right _ (List.mem_append_right _ (List.mem_append_right _ (List.mem_append_right _ (List.mem_append_left _ h)))))) gw_f_X0_read)
theorem hd_X7_log : yX7_log.cls = RX7 ∧ yX7_log.cls ≠ "java/lang/invoke/MethodHandle" ∧ yX7_log.cls ≠ "java/lang/invoke/VarHandle" ∧ (parseMethodDescriptor yX7_log.desc).map (fun d => d.parameters.length) = some 2 := by decide +kernel
set_option maxHeartbeats 4000000 in
set_option maxRecDepth 100000 in
theorem f_X7_log (l : Launch) (E : EE) {a_ a_tape a_reader a_scripts a_now a_trial a_kept a_book a_keptBook a_history a_draws a_refused a_now_row a_now_partners a_now_share a_now_leftOver a_book_lines : Nat} {p1 : Int32} {p2 : Int32} {c_hasImage : Int32} {c_now_askedCount : Int32} {c_now_outcome : Int32} {c_now_row : Nat → Int32} {c_book_lines : Nat → Int32} {rr : Int32} (hF : F_X7_log p1 p2 c_now_row c_book_lines = some rr) : Met l yX7_log v_f_X7_log (({ frames := 2, cells := 0, slots := 0, locals := 44 } : Room)) (va_Pc [.ref a_, .int p1, .int p2] (pP E (w_X7_log E a_ a_tape a_reader a_scripts a_now a_trial a_kept a_book a_keptBook a_history a_draws a_refused a_now_row a_now_partners a_now_share a_now_leftOver a_book_lines c_hasImage c_now_askedCount c_now_outcome c_now_row c_book_lines))) (vp_Si (fun q : Int32 => q = rr)) 0 0 (fun _ => False) := by
  refine Met.ofW (cc := cX7_log) (maxL := 3) (ret := (some .int)) (by decide) rfl ?_
  intro p e s m args below meth c s₁ B hml hv
  obtain ⟨rfl, ⟨hK, hN⟩, hP⟩ := hv
  have hx := B.exec
  have hb := B.bytes
  have hr := B.returns
  have hts := atoms_spec (ws := v_f_X7_log) B.pre
  have hown : s.vm.findClass RX7 = some m.cls := own_of hd_X7_log.1 (findClass_of_methodNamed B.named)
  have hlocks : meth.locks = false := B.notSynchronized
  replace hP : va_P E.1 vwCl [(a_, .inr (8, [.ref a_tape, .ref a_reader, .ref a_scripts, .ref a_now, .ref a_trial, .ref a_kept, .ref a_book, .ref a_keptBook, .ref a_history, .ref a_draws, .ref a_refused, .int c_hasImage])), (a_now, .inr (6, [.ref a_now_row, .ref a_now_partners, .int c_now_askedCount, .int c_now_outcome, .ref a_now_share, .ref a_now_leftOver])), (a_now_row, .inl (E.2.1, 81, .inl c_now_row)), (a_book, .inr (1, [.ref a_book_lines])), (a_book_lines, .inl (E.2.1, 300, .inl c_book_lines))] s.heap := hP
  have hl := lv_entry ([.ref a_, .int p1, .int p2]) (n := 3) (Nat.le_of_ble_eq_true rfl)
  rw [lg_entry_eq]
  generalize (lg_sl ([.ref a_, .int p1, .int p2]) ++ List.replicate (3 - (lg_sl ([.ref a_, .int p1, .int p2])).length) Slot.unset).toArray = ls at hl ⊢
  have hl : lv_has ls 3 [(0, .ref a_), (1, .int p1), (2, .int p2)] := hl
  obtain ⟨Q, hQ⟩ : ∃ Q : State → Prop, Q = MQ below (vp_Si (fun q : Int32 => q = rr)) #[Value.ref a_, Value.int p1, Value.int p2] s 0 0 (fun _ => False) := ⟨_, rfl⟩
  rw [← hQ]
  change W p l e ({ frames := 2, cells := 0, slots := 0, locals := 44 } : Room) s m #[Value.ref a_, Value.int p1, Value.int p2] below meth c s.heap [] 0 0 Q (F0 m 0 ls [])
  unfold F_X7_log at hF
  refine lv_iload_n hx hb dX7_log_0 rfl (lv_at hl 1 rfl) ?_
  refine lv_if_lt (tgt := 21) hx hb dX7_log_1 (by decide) (fun c_1 => ?_) (fun c_1 => ?_)
  ·
    replace hF := ip c_1 hF
    refine lv_ldc (v := -100000000) hx hb hown (hts (.constant RX7 113 (-100000000)) (List.mem_of_getElem? (i := 1) rfl)) dX7_log_21 ?_
    rw [hQ]
    obtain e9_0 := inj1 hF
    exact W.iret (v := (-100000000 : Int32)) hx hb hr (fun tt ht hW => ⟨_, rfl, e9_0, ht⟩) (fun _ h => by cases h) dX7_log_23
  ·
    replace hF := inn c_1 hF
    refine lv_iload_n hx hb dX7_log_4 rfl (lv_at hl 1 rfl) ?_
    refine lv_aload_n hx hb dX7_log_5 rfl (lv_at hl 0 rfl) ?_
    replace hF := bd1_s hF
    obtain ⟨r_2, hc_3, hF⟩ := hF
    have hPc : va_P E.1 vwCl (w_X7_loggedActs E a_ a_tape a_reader a_scripts a_now a_trial a_kept a_book a_keptBook a_history a_draws a_refused a_now_row a_now_partners a_now_share a_now_leftOver c_hasImage c_now_askedCount c_now_outcome c_now_row) s.heap := hP.sub (ws' := [(a_, .inr (8, [.ref a_tape, .ref a_reader, .ref a_scripts, .ref a_now, .ref a_trial, .ref a_kept, .ref a_book, .ref a_keptBook, .ref a_history, .ref a_draws, .ref a_refused, .int c_hasImage])), (a_now, .inr (6, [.ref a_now_row, .ref a_now_partners, .int c_now_askedCount, .int c_now_outcome, .ref a_now_share, .ref a_now_leftOver])), (a_now_row, .inl (E.2.1, 81, .inl c_now_row))]) [0, 1, 2] rfl
    have hrc := va_recv hK hPc (ci := 8) (q0 := 0) rfl rfl
    refine pE_i (va_runV (As := []) (rest := [.int p1])  ⟨hx, hb, hml, hown, hts⟩ (f_X7_loggedActs l E (a_ := a_) (a_tape := a_tape) (a_reader := a_reader) (a_scripts := a_scripts) (a_now := a_now) (a_trial := a_trial) (a_kept := a_kept) (a_book := a_book) (a_keptBook := a_keptBook) (a_history := a_history) (a_draws := a_draws) (a_refused := a_refused) (a_now_row := a_now_row) (a_now_partners := a_now_partners) (a_now_share := a_now_share) (a_now_leftOver := a_now_leftOver) (c_hasImage := c_hasImage) (c_now_askedCount := c_now_askedCount) (c_now_outcome := c_now_outcome) (c_now_row := c_now_row) hc_3) (cwV 0 hts g_f_X7_log_f_X7_loggedActs_204 rfl rfl rfl hd_X7_loggedActs ⟨Nat.le_of_ble_eq_true rfl, Nat.le_of_ble_eq_true rfl⟩) ⟨pP.blind, hrc, (pP.pre ⟨hK, hN⟩ hPc)⟩ rfl rfl hl.1 rfl (lv_room (Nat.le_of_ble_eq_true rfl)) dX7_log_6 ⟨Nat.le_of_ble_eq_true rfl, Nat.le_of_ble_eq_true rfl⟩) ?_
    refine lv_icmp_ge (tgt := 21) hx hb dX7_log_9 (by decide) (fun c_4 => ?_) (fun c_4 => ?_)
    ·
      replace hF := ip c_4 hF
      refine lv_ldc (v := -100000000) hx hb hown (hts (.constant RX7 113 (-100000000)) (List.mem_of_getElem? (i := 1) rfl)) dX7_log_21 ?_
      rw [hQ]
      obtain e9_0 := inj1 hF
      exact W.iret (v := (-100000000 : Int32)) hx hb hr (fun tt ht hW => ⟨_, rfl, e9_0, ht⟩) (fun _ h => by cases h) dX7_log_23
    ·
      replace hF := inn c_4 hF
      refine lv_iload_n hx hb dX7_log_12 rfl (lv_at hl 2 rfl) ?_
      refine lv_if_lt (tgt := 21) hx hb dX7_log_13 (by decide) (fun c_5 => ?_) (fun c_5 => ?_)
      ·
        replace hF := ip c_5 hF
        refine lv_ldc (v := -100000000) hx hb hown (hts (.constant RX7 113 (-100000000)) (List.mem_of_getElem? (i := 1) rfl)) dX7_log_21 ?_
        rw [hQ]
        obtain e9_0 := inj1 hF
        exact W.iret (v := (-100000000 : Int32)) hx hb hr (fun tt ht hW => ⟨_, rfl, e9_0, ht⟩) (fun _ h => by cases h) dX7_log_23
      ·
        replace hF := inn c_5 hF
        refine lv_iload_n hx hb dX7_log_16 rfl (lv_at hl 2 rfl) ?_
        refine lv_iconst (v := 3) hx hb dX7_log_17 (by decide) ?_
        refine lv_icmp_lt (tgt := 24) hx hb dX7_log_18 (by decide) (fun c_6 => ?_) (fun c_6 => ?_)
        ·
          replace hF := ip c_6 hF
          refine lv_aload_n hx hb dX7_log_24 rfl (lv_at hl 0 rfl) ?_
          refine gt_X7_6 (v := .ref a_book) hx hb hts i_f_X7_log_X7 hown hK hP 0 rfl (hts (.fieldLink RX7 48 "HushWatch" "book" "LHushWatch$Book;") (List.mem_of_getElem? (i := 2) rfl)) rfl dX7_log_25 ?_
          refine lv_aload_n hx hb dX7_log_28 rfl (lv_at hl 0 rfl) ?_
          refine gt_X7_3 (v := .ref a_now) hx hb hts i_f_X7_log_X7 hown hK hP 0 rfl (hts (.fieldLink RX7 35 "HushWatch" "now" "LHushWatch$State;") (List.mem_of_getElem? (i := 3) rfl)) rfl dX7_log_29 ?_
          refine va_getN (D := E.1) (ci := 6) (v := .ref a_now_row) (C := RX5) (T := TX5) (N := 6) hx hb hts i_f_X7_log_X5 hown hK hP 1 rfl rfl 0 (by decide) (nx hN 12 rfl) (fun _ h9 => h9) rfl dX7_log_32 ?_
          refine lv_bipush (v := 16) hx hb dX7_log_35 (by decide) ?_
          refine va_iald hx hb hK hP 2 0 rfl rfl (vin rfl) dX7_log_37 ?_
          refine W.eq (g2 := F0 m 38 ls [.int (c_now_row 16), .ref a_book]) rfl ?_
          refine lv_iconst (v := 1) hx hb dX7_log_38 (by decide) ?_
          refine lv_isub hx hb dX7_log_39 ?_
          refine lv_iload_n hx hb dX7_log_40 rfl (lv_at hl 1 rfl) ?_
          refine lv_isub hx hb dX7_log_41 ?_
          refine lv_iload_n hx hb dX7_log_42 rfl (lv_at hl 2 rfl) ?_
          replace hF := bd1_s hF
          obtain ⟨r_7, hc_8, hF⟩ := hF
          have hPc : va_P E.1 vwCl (w_X0_read E a_book a_book_lines c_book_lines) s.heap := hP.sub (ws' := [(a_book, .inr (1, [.ref a_book_lines])), (a_book_lines, .inl (E.2.1, 300, .inl c_book_lines))]) [3, 4] rfl
          have hrc := va_recv hK hPc (ci := 1) (q0 := 0) rfl rfl
          refine pE_i (va_runV (As := [.int (((c_now_row 16) - (1 : Int32)) - p1), .int p2]) (rest := [])  ⟨hx, hb, hml, hown, hts⟩ (f_X0_read l E (a_ := a_book) (a_lines := a_book_lines) (p1 := ((c_now_row 16) - (1 : Int32)) - p1) (p2 := p2) (c_lines := c_book_lines) hc_8) (cwV 2 hts g_f_X7_log_f_X0_read_207 rfl rfl rfl hd_X0_read ⟨Nat.le_of_ble_eq_true rfl, Nat.le_of_ble_eq_true rfl⟩) ⟨pP.blind, hrc, (pP.pre ⟨hK, hN⟩ hPc)⟩ rfl rfl hl.1 rfl (lv_room (Nat.le_of_ble_eq_true rfl)) dX7_log_43 ⟨Nat.le_of_ble_eq_true rfl, Nat.le_of_ble_eq_true rfl⟩) ?_
          rw [hQ]
          obtain e9_0 := inj1 hF
          exact W.iret (v := r_7) hx hb hr (fun tt ht hW => ⟨_, rfl, e9_0, ht⟩) (fun _ h => by cases h) dX7_log_46
        ·
          replace hF := inn c_6 hF
          refine lv_ldc (v := -100000000) hx hb hown (hts (.constant RX7 113 (-100000000)) (List.mem_of_getElem? (i := 1) rfl)) dX7_log_21 ?_
          rw [hQ]
          obtain e9_0 := inj1 hF
          exact W.iret (v := (-100000000 : Int32)) hx hb hr (fun tt ht hW => ⟨_, rfl, e9_0, ht⟩) (fun _ h => by cases h) dX7_log_23

def F_X7_most (K : Nat) (p1 : Int32) (c_now_row : Nat → Int32) : Option (Int32) :=
  bd1 (F_X5_stands c_now_row) (fun r_1 => if r_1 = (0 : Int32) then some (-100000000 : Int32) else if p1 = (0 : Int32) then some (c_now_row 11) else if p1 = (1 : Int32) then some (c_now_row 12) else if p1 = (2 : Int32) then some (c_now_row 13) else if p1 = (3 : Int32) then some (c_now_row 14) else if p1 = (4 : Int32) then some (c_now_row 15) else if p1 = (5 : Int32) then some (c_now_row 6) else if p1 = (6 : Int32) then bd1 (F_X5_quietSites K c_now_row) (fun r_6 => some r_6) else if p1 = (7 : Int32) then bd1 (F_X5_slackSites K c_now_row) (fun r_8 => some r_8) else if p1 = (8 : Int32) then bd1 (F_X5_total K (4 : Int32) c_now_row) (fun r_10 => some r_10) else if p1 = (9 : Int32) then bd1 (F_X5_total K (5 : Int32) c_now_row) (fun r_12 => some r_12) else if p1 = (10 : Int32) then bd1 (F_X5_unmovedSites K c_now_row) (fun r_14 => some r_14) else if p1 = (11 : Int32) then some (c_now_row 7) else some (-100000000 : Int32))
abbrev w_X7_most (E : EE) (a_ a_tape a_reader a_scripts a_now a_trial a_kept a_book a_keptBook a_history a_draws a_refused a_now_row a_now_partners a_now_share a_now_leftOver : Nat) (c_hasImage : Int32) (c_now_askedCount : Int32) (c_now_outcome : Int32) (c_now_row : Nat → Int32) : va_W := [(a_, .inr (8, [.ref a_tape, .ref a_reader, .ref a_scripts, .ref a_now, .ref a_trial, .ref a_kept, .ref a_book, .ref a_keptBook, .ref a_history, .ref a_draws, .ref a_refused, .int c_hasImage])), (a_now, .inr (6, [.ref a_now_row, .ref a_now_partners, .int c_now_askedCount, .int c_now_outcome, .ref a_now_share, .ref a_now_leftOver])), (a_now_row, .inl (E.2.1, 81, .inl c_now_row))]
def v_f_X7_most : List Cond := List.cons (.code yX7_most cX7_most 2 (some .int)) (HAppend.hAppend (α := List Cond) (β := List Cond) (γ := List Cond) [.fieldLink RX7 35 "HushWatch" "now" "LHushWatch$State;", .constant RX7 113 (-100000000), .methodLink RX7 110 yX5_stands, .instanceMethod yX5_stands, .selects RX5 yX5_stands yX5_stands, .initialized RX5, .methodLink RX7 302 yX5_quietSites, .instanceMethod yX5_quietSites, .selects RX5 yX5_quietSites yX5_quietSites, .methodLink RX7 305 yX5_slackSites, .instanceMethod yX5_slackSites, .selects RX5 yX5_slackSites yX5_slackSites, .methodLink RX7 160 yX5_total, .instanceMethod yX5_total, .selects RX5 yX5_total yX5_total, .methodLink RX7 308 yX5_unmovedSites, .instanceMethod yX5_unmovedSites, .selects RX5 yX5_unmovedSites yX5_unmovedSites] (HAppend.hAppend (α := List Cond) (β := List Cond) (γ := List Cond) wsX70 (HAppend.hAppend (α := List Cond) (β := List Cond) (γ := List Cond) v_f_X5_stands (HAppend.hAppend (α := List Cond) (β := List Cond) (γ := List Cond) wsX50 (HAppend.hAppend (α := List Cond) (β := List Cond) (γ := List Cond) v_f_X5_quietSites (HAppend.hAppend (α := List Cond) (β := List Cond) (γ := List Cond) v_f_X5_slackSites (HAppend.hAppend (α := List Cond) (β := List Cond) (γ := List Cond) v_f_X5_total (HAppend.hAppend (α := List Cond) (β := List Cond) (γ := List Cond) v_f_X5_unmovedSites []))))))))
theorem gw_f_X7_most : v_f_X7_most.all goodWord = true := by decide +kernel
theorem i_f_X7_most_X7 : ∀ w ∈ wsX70, w ∈ v_f_X7_most := fun _ h => List.mem_cons_of_mem _ (List.mem_append_right _ (List.mem_append_left _ h))
theorem i_f_X7_most_X5 : ∀ w ∈ wsX50, w ∈ v_f_X7_most := fun _ h => List.mem_cons_of_mem _ (List.mem_append_right _ (List.mem_append_right _ (List.mem_append_right _ (List.mem_append_left _ h))))
theorem g_f_X7_most_f_X5_stands_110 : GoodIn v_f_X7_most (wsV RX7 110 RX5 yX5_stands v_f_X5_stands) := goodIn_app (goodIn_of _ (by decide +kernel)) (goodIn_sub (fun _ h => List.mem_cons_of_mem _ (List.mem_append_right _ (List.mem_append_right _ (List.mem_append_left _ h)))) gw_f_X5_stands)
theorem g_f_X7_most_f_X5_quietSites_302 : GoodIn v_f_X7_most (wsV RX7 302 RX5 yX5_quietSites v_f_X5_quietSites) := goodIn_app (goodIn_of _ (by decide +kernel)) (goodIn_sub (fun _ h => List.mem_cons_of_mem _ (List.mem_append_right _ (List.mem_append_right _ (List.mem_append_right _ (List.mem_append_right _ (List.mem_append_left _ h)))))) gw_f_X5_quietSites)
theorem g_f_X7_most_f_X5_slackSites_305 : GoodIn v_f_X7_most (wsV RX7 305 RX5 yX5_slackSites v_f_X5_slackSites) := goodIn_app (goodIn_of _ (by decide +kernel)) (goodIn_sub (fun _ h => List.mem_cons_of_mem _ (List.mem_append_right _ (List.mem_append_right _ (List.mem_append_right _ (List.mem_append_right _ (List.mem_append_right _ (List.mem_append_left _ h))))))) gw_f_X5_slackSites)
theorem g_f_X7_most_f_X5_total_160 : GoodIn v_f_X7_most (wsV RX7 160 RX5 yX5_total v_f_X5_total) := goodIn_app (goodIn_of _ (by decide +kernel)) (goodIn_sub (fun _ h => List.mem_cons_of_mem _ (List.mem_append_right _ (List.mem_append_right _ (List.mem_append_right _ (List.mem_append_right _ (List.mem_append_right _ (List.mem_append_right _ (List.mem_append_left _ h)))))))) gw_f_X5_total)
theorem g_f_X7_most_f_X5_unmovedSites_308 : GoodIn v_f_X7_most (wsV RX7 308 RX5 yX5_unmovedSites v_f_X5_unmovedSites) := goodIn_app (goodIn_of _ (by decide +kernel)) (goodIn_sub (fun _ h => List.mem_cons_of_mem _ (List.mem_append_right _ (List.mem_append_right _ (List.mem_append_right _ (List.mem_append_right _ (List.mem_append_right _ (List.mem_append_right _ (List.mem_append_right _ (List.mem_append_left _ h))))))))) gw_f_X5_unmovedSites)
theorem hd_X7_most : yX7_most.cls = RX7 ∧ yX7_most.cls ≠ "java/lang/invoke/MethodHandle" ∧ yX7_most.cls ≠ "java/lang/invoke/VarHandle" ∧ (parseMethodDescriptor yX7_most.desc).map (fun d => d.parameters.length) = some 1 := by decide +kernel
set_option maxHeartbeats 4000000 in
set_option maxRecDepth 100000 in
theorem f_X7_most (l : Launch) (E : EE) (K : Nat) {a_ a_tape a_reader a_scripts a_now a_trial a_kept a_book a_keptBook a_history a_draws a_refused a_now_row a_now_partners a_now_share a_now_leftOver : Nat} {p1 : Int32} {c_hasImage : Int32} {c_now_askedCount : Int32} {c_now_outcome : Int32} {c_now_row : Nat → Int32} {rr : Int32} (hF : F_X7_most K p1 c_now_row = some rr) : Met l yX7_most v_f_X7_most (({ frames := 4, cells := 0, slots := 0, locals := 93 } : Room)) (va_Pc [.ref a_, .int p1] (pP E (w_X7_most E a_ a_tape a_reader a_scripts a_now a_trial a_kept a_book a_keptBook a_history a_draws a_refused a_now_row a_now_partners a_now_share a_now_leftOver c_hasImage c_now_askedCount c_now_outcome c_now_row))) (vp_Si (fun q : Int32 => q = rr)) 0 0 (fun _ => False) := by
  refine Met.ofW (cc := cX7_most) (maxL := 2) (ret := (some .int)) (by decide) rfl ?_
  intro p e s m args below meth c s₁ B hml hv
  obtain ⟨rfl, ⟨hK, hN⟩, hP⟩ := hv
  have hx := B.exec
  have hb := B.bytes
  have hr := B.returns
  have hts := atoms_spec (ws := v_f_X7_most) B.pre
  have hown : s.vm.findClass RX7 = some m.cls := own_of hd_X7_most.1 (findClass_of_methodNamed B.named)
  have hlocks : meth.locks = false := B.notSynchronized
  replace hP : va_P E.1 vwCl [(a_, .inr (8, [.ref a_tape, .ref a_reader, .ref a_scripts, .ref a_now, .ref a_trial, .ref a_kept, .ref a_book, .ref a_keptBook, .ref a_history, .ref a_draws, .ref a_refused, .int c_hasImage])), (a_now, .inr (6, [.ref a_now_row, .ref a_now_partners, .int c_now_askedCount, .int c_now_outcome, .ref a_now_share, .ref a_now_leftOver])), (a_now_row, .inl (E.2.1, 81, .inl c_now_row))] s.heap := hP
  have hl := lv_entry ([.ref a_, .int p1]) (n := 2) (Nat.le_of_ble_eq_true rfl)
  rw [lg_entry_eq]
  generalize (lg_sl ([.ref a_, .int p1]) ++ List.replicate (2 - (lg_sl ([.ref a_, .int p1])).length) Slot.unset).toArray = ls at hl ⊢
  have hl : lv_has ls 2 [(0, .ref a_), (1, .int p1)] := hl
  obtain ⟨Q, hQ⟩ : ∃ Q : State → Prop, Q = MQ below (vp_Si (fun q : Int32 => q = rr)) #[Value.ref a_, Value.int p1] s 0 0 (fun _ => False) := ⟨_, rfl⟩
  rw [← hQ]
  change W p l e ({ frames := 4, cells := 0, slots := 0, locals := 93 } : Room) s m #[Value.ref a_, Value.int p1] below meth c s.heap [] 0 0 Q (F0 m 0 ls [])
  unfold F_X7_most at hF
  refine lv_aload_n hx hb dX7_most_0 rfl (lv_at hl 0 rfl) ?_
  refine gt_X7_3 (v := .ref a_now) hx hb hts i_f_X7_most_X7 hown hK hP 0 rfl (hts (.fieldLink RX7 35 "HushWatch" "now" "LHushWatch$State;") (List.mem_of_getElem? (i := 1) rfl)) rfl dX7_most_1 ?_
  replace hF := bd1_s hF
  obtain ⟨r_1, hc_2, hF⟩ := hF
  have hPc : va_P E.1 vwCl (w_X5_stands E a_now a_now_row a_now_partners a_now_share a_now_leftOver c_now_askedCount c_now_outcome c_now_row) s.heap := hP.sub (ws' := [(a_now, .inr (6, [.ref a_now_row, .ref a_now_partners, .int c_now_askedCount, .int c_now_outcome, .ref a_now_share, .ref a_now_leftOver])), (a_now_row, .inl (E.2.1, 81, .inl c_now_row))]) [1, 2] rfl
  have hrc := va_recv hK hPc (ci := 6) (q0 := 0) rfl rfl
  refine pE_z (va_runV (As := []) (rest := [])  ⟨hx, hb, hml, hown, hts⟩ (f_X5_stands l E (a_ := a_now) (a_row := a_now_row) (a_partners := a_now_partners) (a_share := a_now_share) (a_leftOver := a_now_leftOver) (c_askedCount := c_now_askedCount) (c_outcome := c_now_outcome) (c_row := c_now_row) hc_2) (cwV 0 hts g_f_X7_most_f_X5_stands_110 rfl rfl rfl hd_X5_stands ⟨Nat.le_of_ble_eq_true rfl, Nat.le_of_ble_eq_true rfl⟩) ⟨pP.blind, hrc, (pP.pre ⟨hK, hN⟩ hPc)⟩ rfl rfl hl.1 rfl (lv_room (Nat.le_of_ble_eq_true rfl)) dX7_most_4 ⟨Nat.le_of_ble_eq_true rfl, Nat.le_of_ble_eq_true rfl⟩) (fun hb_3 => ?_)
  refine lv_if_ne (tgt := 13) hx hb dX7_most_7 (by decide) (fun c_4 => ?_) (fun c_4 => ?_)
  ·
    replace hF := inn c_4 hF
    refine lv_iload_n hx hb dX7_most_13 rfl (lv_at hl 1 rfl) ?_
    rcases Classical.em (p1 = (0 : Int32)) with c_5_0 | c_5_0
    ·
      replace hF := ip c_5_0 hF
      refine lv_tableIn (off := 62) (tgt := 76) hx hb dX7_most_14 (by rw [c_5_0]; decide) (by rw [c_5_0]; decide) (by rw [c_5_0]; decide) (by decide) ?_
      refine lv_aload_n hx hb dX7_most_76 rfl (lv_at hl 0 rfl) ?_
      refine gt_X7_3 (v := .ref a_now) hx hb hts i_f_X7_most_X7 hown hK hP 0 rfl (hts (.fieldLink RX7 35 "HushWatch" "now" "LHushWatch$State;") (List.mem_of_getElem? (i := 1) rfl)) rfl dX7_most_77 ?_
      refine va_getN (D := E.1) (ci := 6) (v := .ref a_now_row) (C := RX5) (T := TX5) (N := 6) hx hb hts i_f_X7_most_X5 hown hK hP 1 rfl rfl 0 (by decide) (nx hN 12 rfl) (fun _ h9 => h9) rfl dX7_most_80 ?_
      refine lv_bipush (v := 11) hx hb dX7_most_83 (by decide) ?_
      refine va_iald hx hb hK hP 2 0 rfl rfl (vin rfl) dX7_most_85 ?_
      refine W.eq (g2 := F0 m 86 ls [.int (c_now_row 11)]) rfl ?_
      rw [hQ]
      obtain e9_0 := inj1 hF
      exact W.iret (v := c_now_row 11) hx hb hr (fun tt ht hW => ⟨_, rfl, e9_0, ht⟩) (fun _ h => by cases h) dX7_most_86
    replace hF := inn c_5_0 hF
    rcases Classical.em (p1 = (1 : Int32)) with c_5_1 | c_5_1
    ·
      replace hF := ip c_5_1 hF
      refine lv_tableIn (off := 73) (tgt := 87) hx hb dX7_most_14 (by rw [c_5_1]; decide) (by rw [c_5_1]; decide) (by rw [c_5_1]; decide) (by decide) ?_
      refine lv_aload_n hx hb dX7_most_87 rfl (lv_at hl 0 rfl) ?_
      refine gt_X7_3 (v := .ref a_now) hx hb hts i_f_X7_most_X7 hown hK hP 0 rfl (hts (.fieldLink RX7 35 "HushWatch" "now" "LHushWatch$State;") (List.mem_of_getElem? (i := 1) rfl)) rfl dX7_most_88 ?_
      refine va_getN (D := E.1) (ci := 6) (v := .ref a_now_row) (C := RX5) (T := TX5) (N := 6) hx hb hts i_f_X7_most_X5 hown hK hP 1 rfl rfl 0 (by decide) (nx hN 12 rfl) (fun _ h9 => h9) rfl dX7_most_91 ?_
      refine lv_bipush (v := 12) hx hb dX7_most_94 (by decide) ?_
      refine va_iald hx hb hK hP 2 0 rfl rfl (vin rfl) dX7_most_96 ?_
      refine W.eq (g2 := F0 m 97 ls [.int (c_now_row 12)]) rfl ?_
      rw [hQ]
      obtain e9_0 := inj1 hF
      exact W.iret (v := c_now_row 12) hx hb hr (fun tt ht hW => ⟨_, rfl, e9_0, ht⟩) (fun _ h => by cases h) dX7_most_97
    replace hF := inn c_5_1 hF
    rcases Classical.em (p1 = (2 : Int32)) with c_5_2 | c_5_2
    ·
      replace hF := ip c_5_2 hF
      refine lv_tableIn (off := 84) (tgt := 98) hx hb dX7_most_14 (by rw [c_5_2]; decide) (by rw [c_5_2]; decide) (by rw [c_5_2]; decide) (by decide) ?_
      refine lv_aload_n hx hb dX7_most_98 rfl (lv_at hl 0 rfl) ?_
      refine gt_X7_3 (v := .ref a_now) hx hb hts i_f_X7_most_X7 hown hK hP 0 rfl (hts (.fieldLink RX7 35 "HushWatch" "now" "LHushWatch$State;") (List.mem_of_getElem? (i := 1) rfl)) rfl dX7_most_99 ?_
      refine va_getN (D := E.1) (ci := 6) (v := .ref a_now_row) (C := RX5) (T := TX5) (N := 6) hx hb hts i_f_X7_most_X5 hown hK hP 1 rfl rfl 0 (by decide) (nx hN 12 rfl) (fun _ h9 => h9) rfl dX7_most_102 ?_
      refine lv_bipush (v := 13) hx hb dX7_most_105 (by decide) ?_
      refine va_iald hx hb hK hP 2 0 rfl rfl (vin rfl) dX7_most_107 ?_
      refine W.eq (g2 := F0 m 108 ls [.int (c_now_row 13)]) rfl ?_
      rw [hQ]
      obtain e9_0 := inj1 hF
      exact W.iret (v := c_now_row 13) hx hb hr (fun tt ht hW => ⟨_, rfl, e9_0, ht⟩) (fun _ h => by cases h) dX7_most_108
    replace hF := inn c_5_2 hF
    rcases Classical.em (p1 = (3 : Int32)) with c_5_3 | c_5_3
    ·
      replace hF := ip c_5_3 hF
      refine lv_tableIn (off := 95) (tgt := 109) hx hb dX7_most_14 (by rw [c_5_3]; decide) (by rw [c_5_3]; decide) (by rw [c_5_3]; decide) (by decide) ?_
      refine lv_aload_n hx hb dX7_most_109 rfl (lv_at hl 0 rfl) ?_
      refine gt_X7_3 (v := .ref a_now) hx hb hts i_f_X7_most_X7 hown hK hP 0 rfl (hts (.fieldLink RX7 35 "HushWatch" "now" "LHushWatch$State;") (List.mem_of_getElem? (i := 1) rfl)) rfl dX7_most_110 ?_
      refine va_getN (D := E.1) (ci := 6) (v := .ref a_now_row) (C := RX5) (T := TX5) (N := 6) hx hb hts i_f_X7_most_X5 hown hK hP 1 rfl rfl 0 (by decide) (nx hN 12 rfl) (fun _ h9 => h9) rfl dX7_most_113 ?_
      refine lv_bipush (v := 14) hx hb dX7_most_116 (by decide) ?_
      refine va_iald hx hb hK hP 2 0 rfl rfl (vin rfl) dX7_most_118 ?_
      refine W.eq (g2 := F0 m 119 ls [.int (c_now_row 14)]) rfl ?_
      rw [hQ]
      obtain e9_0 := inj1 hF
      exact W.iret (v := c_now_row 14) hx hb hr (fun tt ht hW => ⟨_, rfl, e9_0, ht⟩) (fun _ h => by cases h) dX7_most_119
    replace hF := inn c_5_3 hF
    rcases Classical.em (p1 = (4 : Int32)) with c_5_4 | c_5_4
    ·
      replace hF := ip c_5_4 hF
      refine lv_tableIn (off := 106) (tgt := 120) hx hb dX7_most_14 (by rw [c_5_4]; decide) (by rw [c_5_4]; decide) (by rw [c_5_4]; decide) (by decide) ?_
      refine lv_aload_n hx hb dX7_most_120 rfl (lv_at hl 0 rfl) ?_
      refine gt_X7_3 (v := .ref a_now) hx hb hts i_f_X7_most_X7 hown hK hP 0 rfl (hts (.fieldLink RX7 35 "HushWatch" "now" "LHushWatch$State;") (List.mem_of_getElem? (i := 1) rfl)) rfl dX7_most_121 ?_
      refine va_getN (D := E.1) (ci := 6) (v := .ref a_now_row) (C := RX5) (T := TX5) (N := 6) hx hb hts i_f_X7_most_X5 hown hK hP 1 rfl rfl 0 (by decide) (nx hN 12 rfl) (fun _ h9 => h9) rfl dX7_most_124 ?_
      refine lv_bipush (v := 15) hx hb dX7_most_127 (by decide) ?_
      refine va_iald hx hb hK hP 2 0 rfl rfl (vin rfl) dX7_most_129 ?_
      refine W.eq (g2 := F0 m 130 ls [.int (c_now_row 15)]) rfl ?_
      rw [hQ]
      obtain e9_0 := inj1 hF
      exact W.iret (v := c_now_row 15) hx hb hr (fun tt ht hW => ⟨_, rfl, e9_0, ht⟩) (fun _ h => by cases h) dX7_most_130
    replace hF := inn c_5_4 hF
    rcases Classical.em (p1 = (5 : Int32)) with c_5_5 | c_5_5
    ·
      replace hF := ip c_5_5 hF
      refine lv_tableIn (off := 117) (tgt := 131) hx hb dX7_most_14 (by rw [c_5_5]; decide) (by rw [c_5_5]; decide) (by rw [c_5_5]; decide) (by decide) ?_
      refine lv_aload_n hx hb dX7_most_131 rfl (lv_at hl 0 rfl) ?_
      refine gt_X7_3 (v := .ref a_now) hx hb hts i_f_X7_most_X7 hown hK hP 0 rfl (hts (.fieldLink RX7 35 "HushWatch" "now" "LHushWatch$State;") (List.mem_of_getElem? (i := 1) rfl)) rfl dX7_most_132 ?_
      refine va_getN (D := E.1) (ci := 6) (v := .ref a_now_row) (C := RX5) (T := TX5) (N := 6) hx hb hts i_f_X7_most_X5 hown hK hP 1 rfl rfl 0 (by decide) (nx hN 12 rfl) (fun _ h9 => h9) rfl dX7_most_135 ?_
      refine lv_bipush (v := 6) hx hb dX7_most_138 (by decide) ?_
      refine va_iald hx hb hK hP 2 0 rfl rfl (vin rfl) dX7_most_140 ?_
      refine W.eq (g2 := F0 m 141 ls [.int (c_now_row 6)]) rfl ?_
      rw [hQ]
      obtain e9_0 := inj1 hF
      exact W.iret (v := c_now_row 6) hx hb hr (fun tt ht hW => ⟨_, rfl, e9_0, ht⟩) (fun _ h => by cases h) dX7_most_141
    replace hF := inn c_5_5 hF
    rcases Classical.em (p1 = (6 : Int32)) with c_5_6 | c_5_6
    ·
      replace hF := ip c_5_6 hF
      refine lv_tableIn (off := 128) (tgt := 142) hx hb dX7_most_14 (by rw [c_5_6]; decide) (by rw [c_5_6]; decide) (by rw [c_5_6]; decide) (by decide) ?_
      refine lv_aload_n hx hb dX7_most_142 rfl (lv_at hl 0 rfl) ?_
      refine gt_X7_3 (v := .ref a_now) hx hb hts i_f_X7_most_X7 hown hK hP 0 rfl (hts (.fieldLink RX7 35 "HushWatch" "now" "LHushWatch$State;") (List.mem_of_getElem? (i := 1) rfl)) rfl dX7_most_143 ?_
      replace hF := bd1_s hF
      obtain ⟨r_6, hc_7, hF⟩ := hF
      have hPc : va_P E.1 vwCl (w_X5_quietSites E a_now a_now_row a_now_partners a_now_share a_now_leftOver c_now_askedCount c_now_outcome c_now_row) s.heap := hP.sub (ws' := [(a_now, .inr (6, [.ref a_now_row, .ref a_now_partners, .int c_now_askedCount, .int c_now_outcome, .ref a_now_share, .ref a_now_leftOver])), (a_now_row, .inl (E.2.1, 81, .inl c_now_row))]) [1, 2] rfl
      have hrc := va_recv hK hPc (ci := 6) (q0 := 0) rfl rfl
      refine pE_i (va_runV (As := []) (rest := [])  ⟨hx, hb, hml, hown, hts⟩ (f_X5_quietSites l E K (a_ := a_now) (a_row := a_now_row) (a_partners := a_now_partners) (a_share := a_now_share) (a_leftOver := a_now_leftOver) (c_askedCount := c_now_askedCount) (c_outcome := c_now_outcome) (c_row := c_now_row) hc_7) (cwV 0 hts g_f_X7_most_f_X5_quietSites_302 rfl rfl rfl hd_X5_quietSites ⟨Nat.le_of_ble_eq_true rfl, Nat.le_of_ble_eq_true rfl⟩) ⟨pP.blind, hrc, (pP.pre ⟨hK, hN⟩ hPc)⟩ rfl rfl hl.1 rfl (lv_room (Nat.le_of_ble_eq_true rfl)) dX7_most_146 ⟨Nat.le_of_ble_eq_true rfl, Nat.le_of_ble_eq_true rfl⟩) ?_
      rw [hQ]
      obtain e9_0 := inj1 hF
      exact W.iret (v := r_6) hx hb hr (fun tt ht hW => ⟨_, rfl, e9_0, ht⟩) (fun _ h => by cases h) dX7_most_149
    replace hF := inn c_5_6 hF
    rcases Classical.em (p1 = (7 : Int32)) with c_5_7 | c_5_7
    ·
      replace hF := ip c_5_7 hF
      refine lv_tableIn (off := 136) (tgt := 150) hx hb dX7_most_14 (by rw [c_5_7]; decide) (by rw [c_5_7]; decide) (by rw [c_5_7]; decide) (by decide) ?_
      refine lv_aload_n hx hb dX7_most_150 rfl (lv_at hl 0 rfl) ?_
      refine gt_X7_3 (v := .ref a_now) hx hb hts i_f_X7_most_X7 hown hK hP 0 rfl (hts (.fieldLink RX7 35 "HushWatch" "now" "LHushWatch$State;") (List.mem_of_getElem? (i := 1) rfl)) rfl dX7_most_151 ?_
      replace hF := bd1_s hF
      obtain ⟨r_8, hc_9, hF⟩ := hF
      have hPc : va_P E.1 vwCl (w_X5_slackSites E a_now a_now_row a_now_partners a_now_share a_now_leftOver c_now_askedCount c_now_outcome c_now_row) s.heap := hP.sub (ws' := [(a_now, .inr (6, [.ref a_now_row, .ref a_now_partners, .int c_now_askedCount, .int c_now_outcome, .ref a_now_share, .ref a_now_leftOver])), (a_now_row, .inl (E.2.1, 81, .inl c_now_row))]) [1, 2] rfl
      have hrc := va_recv hK hPc (ci := 6) (q0 := 0) rfl rfl
      refine pE_i (va_runV (As := []) (rest := [])  ⟨hx, hb, hml, hown, hts⟩ (f_X5_slackSites l E K (a_ := a_now) (a_row := a_now_row) (a_partners := a_now_partners) (a_share := a_now_share) (a_leftOver := a_now_leftOver) (c_askedCount := c_now_askedCount) (c_outcome := c_now_outcome) (c_row := c_now_row) hc_9) (cwV 0 hts g_f_X7_most_f_X5_slackSites_305 rfl rfl rfl hd_X5_slackSites ⟨Nat.le_of_ble_eq_true rfl, Nat.le_of_ble_eq_true rfl⟩) ⟨pP.blind, hrc, (pP.pre ⟨hK, hN⟩ hPc)⟩ rfl rfl hl.1 rfl (lv_room (Nat.le_of_ble_eq_true rfl)) dX7_most_154 ⟨Nat.le_of_ble_eq_true rfl, Nat.le_of_ble_eq_true rfl⟩) ?_
      rw [hQ]
      obtain e9_0 := inj1 hF
      exact W.iret (v := r_8) hx hb hr (fun tt ht hW => ⟨_, rfl, e9_0, ht⟩) (fun _ h => by cases h) dX7_most_157
    replace hF := inn c_5_7 hF
    rcases Classical.em (p1 = (8 : Int32)) with c_5_8 | c_5_8
    ·
      replace hF := ip c_5_8 hF
      refine lv_tableIn (off := 144) (tgt := 158) hx hb dX7_most_14 (by rw [c_5_8]; decide) (by rw [c_5_8]; decide) (by rw [c_5_8]; decide) (by decide) ?_
      refine lv_aload_n hx hb dX7_most_158 rfl (lv_at hl 0 rfl) ?_
      refine gt_X7_3 (v := .ref a_now) hx hb hts i_f_X7_most_X7 hown hK hP 0 rfl (hts (.fieldLink RX7 35 "HushWatch" "now" "LHushWatch$State;") (List.mem_of_getElem? (i := 1) rfl)) rfl dX7_most_159 ?_
      refine lv_iconst (v := 4) hx hb dX7_most_162 (by decide) ?_
      replace hF := bd1_s hF
      obtain ⟨r_10, hc_11, hF⟩ := hF
      have hPc : va_P E.1 vwCl (w_X5_total E a_now a_now_row a_now_partners a_now_share a_now_leftOver c_now_askedCount c_now_outcome c_now_row) s.heap := hP.sub (ws' := [(a_now, .inr (6, [.ref a_now_row, .ref a_now_partners, .int c_now_askedCount, .int c_now_outcome, .ref a_now_share, .ref a_now_leftOver])), (a_now_row, .inl (E.2.1, 81, .inl c_now_row))]) [1, 2] rfl
      have hrc := va_recv hK hPc (ci := 6) (q0 := 0) rfl rfl
      refine pE_i (va_runV (As := [.int (4 : Int32)]) (rest := [])  ⟨hx, hb, hml, hown, hts⟩ (f_X5_total l E K (a_ := a_now) (a_row := a_now_row) (a_partners := a_now_partners) (a_share := a_now_share) (a_leftOver := a_now_leftOver) (p1 := (4 : Int32)) (c_askedCount := c_now_askedCount) (c_outcome := c_now_outcome) (c_row := c_now_row) hc_11) (cwV 1 hts g_f_X7_most_f_X5_total_160 rfl rfl rfl hd_X5_total ⟨Nat.le_of_ble_eq_true rfl, Nat.le_of_ble_eq_true rfl⟩) ⟨pP.blind, hrc, (pP.pre ⟨hK, hN⟩ hPc)⟩ rfl rfl hl.1 rfl (lv_room (Nat.le_of_ble_eq_true rfl)) dX7_most_163 ⟨Nat.le_of_ble_eq_true rfl, Nat.le_of_ble_eq_true rfl⟩) ?_
      rw [hQ]
      obtain e9_0 := inj1 hF
      exact W.iret (v := r_10) hx hb hr (fun tt ht hW => ⟨_, rfl, e9_0, ht⟩) (fun _ h => by cases h) dX7_most_166
    replace hF := inn c_5_8 hF
    rcases Classical.em (p1 = (9 : Int32)) with c_5_9 | c_5_9
    ·
      replace hF := ip c_5_9 hF
      refine lv_tableIn (off := 153) (tgt := 167) hx hb dX7_most_14 (by rw [c_5_9]; decide) (by rw [c_5_9]; decide) (by rw [c_5_9]; decide) (by decide) ?_
      refine lv_aload_n hx hb dX7_most_167 rfl (lv_at hl 0 rfl) ?_
      refine gt_X7_3 (v := .ref a_now) hx hb hts i_f_X7_most_X7 hown hK hP 0 rfl (hts (.fieldLink RX7 35 "HushWatch" "now" "LHushWatch$State;") (List.mem_of_getElem? (i := 1) rfl)) rfl dX7_most_168 ?_
      refine lv_iconst (v := 5) hx hb dX7_most_171 (by decide) ?_
      replace hF := bd1_s hF
      obtain ⟨r_12, hc_13, hF⟩ := hF
      have hPc : va_P E.1 vwCl (w_X5_total E a_now a_now_row a_now_partners a_now_share a_now_leftOver c_now_askedCount c_now_outcome c_now_row) s.heap := hP.sub (ws' := [(a_now, .inr (6, [.ref a_now_row, .ref a_now_partners, .int c_now_askedCount, .int c_now_outcome, .ref a_now_share, .ref a_now_leftOver])), (a_now_row, .inl (E.2.1, 81, .inl c_now_row))]) [1, 2] rfl
      have hrc := va_recv hK hPc (ci := 6) (q0 := 0) rfl rfl
      refine pE_i (va_runV (As := [.int (5 : Int32)]) (rest := [])  ⟨hx, hb, hml, hown, hts⟩ (f_X5_total l E K (a_ := a_now) (a_row := a_now_row) (a_partners := a_now_partners) (a_share := a_now_share) (a_leftOver := a_now_leftOver) (p1 := (5 : Int32)) (c_askedCount := c_now_askedCount) (c_outcome := c_now_outcome) (c_row := c_now_row) hc_13) (cwV 1 hts g_f_X7_most_f_X5_total_160 rfl rfl rfl hd_X5_total ⟨Nat.le_of_ble_eq_true rfl, Nat.le_of_ble_eq_true rfl⟩) ⟨pP.blind, hrc, (pP.pre ⟨hK, hN⟩ hPc)⟩ rfl rfl hl.1 rfl (lv_room (Nat.le_of_ble_eq_true rfl)) dX7_most_172 ⟨Nat.le_of_ble_eq_true rfl, Nat.le_of_ble_eq_true rfl⟩) ?_
      rw [hQ]
      obtain e9_0 := inj1 hF
      exact W.iret (v := r_12) hx hb hr (fun tt ht hW => ⟨_, rfl, e9_0, ht⟩) (fun _ h => by cases h) dX7_most_175
    replace hF := inn c_5_9 hF
    rcases Classical.em (p1 = (10 : Int32)) with c_5_10 | c_5_10
    ·
      replace hF := ip c_5_10 hF
      refine lv_tableIn (off := 162) (tgt := 176) hx hb dX7_most_14 (by rw [c_5_10]; decide) (by rw [c_5_10]; decide) (by rw [c_5_10]; decide) (by decide) ?_
      refine lv_aload_n hx hb dX7_most_176 rfl (lv_at hl 0 rfl) ?_
      refine gt_X7_3 (v := .ref a_now) hx hb hts i_f_X7_most_X7 hown hK hP 0 rfl (hts (.fieldLink RX7 35 "HushWatch" "now" "LHushWatch$State;") (List.mem_of_getElem? (i := 1) rfl)) rfl dX7_most_177 ?_
      replace hF := bd1_s hF
      obtain ⟨r_14, hc_15, hF⟩ := hF
      have hPc : va_P E.1 vwCl (w_X5_unmovedSites E a_now a_now_row a_now_partners a_now_share a_now_leftOver c_now_askedCount c_now_outcome c_now_row) s.heap := hP.sub (ws' := [(a_now, .inr (6, [.ref a_now_row, .ref a_now_partners, .int c_now_askedCount, .int c_now_outcome, .ref a_now_share, .ref a_now_leftOver])), (a_now_row, .inl (E.2.1, 81, .inl c_now_row))]) [1, 2] rfl
      have hrc := va_recv hK hPc (ci := 6) (q0 := 0) rfl rfl
      refine pE_i (va_runV (As := []) (rest := [])  ⟨hx, hb, hml, hown, hts⟩ (f_X5_unmovedSites l E K (a_ := a_now) (a_row := a_now_row) (a_partners := a_now_partners) (a_share := a_now_share) (a_leftOver := a_now_leftOver) (c_askedCount := c_now_askedCount) (c_outcome := c_now_outcome) (c_row := c_now_row) hc_15) (cwV 0 hts g_f_X7_most_f_X5_unmovedSites_308 rfl rfl rfl hd_X5_unmovedSites ⟨Nat.le_of_ble_eq_true rfl, Nat.le_of_ble_eq_true rfl⟩) ⟨pP.blind, hrc, (pP.pre ⟨hK, hN⟩ hPc)⟩ rfl rfl hl.1 rfl (lv_room (Nat.le_of_ble_eq_true rfl)) dX7_most_180 ⟨Nat.le_of_ble_eq_true rfl, Nat.le_of_ble_eq_true rfl⟩) ?_
      rw [hQ]
      obtain e9_0 := inj1 hF
      exact W.iret (v := r_14) hx hb hr (fun tt ht hW => ⟨_, rfl, e9_0, ht⟩) (fun _ h => by cases h) dX7_most_183
    replace hF := inn c_5_10 hF
    rcases Classical.em (p1 = (11 : Int32)) with c_5_11 | c_5_11
    ·
      replace hF := ip c_5_11 hF
      refine lv_tableIn (off := 170) (tgt := 184) hx hb dX7_most_14 (by rw [c_5_11]; decide) (by rw [c_5_11]; decide) (by rw [c_5_11]; decide) (by decide) ?_
      refine lv_aload_n hx hb dX7_most_184 rfl (lv_at hl 0 rfl) ?_
      refine gt_X7_3 (v := .ref a_now) hx hb hts i_f_X7_most_X7 hown hK hP 0 rfl (hts (.fieldLink RX7 35 "HushWatch" "now" "LHushWatch$State;") (List.mem_of_getElem? (i := 1) rfl)) rfl dX7_most_185 ?_
      refine va_getN (D := E.1) (ci := 6) (v := .ref a_now_row) (C := RX5) (T := TX5) (N := 6) hx hb hts i_f_X7_most_X5 hown hK hP 1 rfl rfl 0 (by decide) (nx hN 12 rfl) (fun _ h9 => h9) rfl dX7_most_188 ?_
      refine lv_bipush (v := 7) hx hb dX7_most_191 (by decide) ?_
      refine va_iald hx hb hK hP 2 0 rfl rfl (vin rfl) dX7_most_193 ?_
      refine W.eq (g2 := F0 m 194 ls [.int (c_now_row 7)]) rfl ?_
      rw [hQ]
      obtain e9_0 := inj1 hF
      exact W.iret (v := c_now_row 7) hx hb hr (fun tt ht hW => ⟨_, rfl, e9_0, ht⟩) (fun _ h => by cases h) dX7_most_194
    replace hF := inn c_5_11 hF
    refine lv_tableOut (tgt := 195) hx hb dX7_most_14 (by have t0 : (0 : Int32).toInt = 0 := (by decide); have t1 : (1 : Int32).toInt = 1 := (by decide); have t2 : (2 : Int32).toInt = 2 := (by decide); have t3 : (3 : Int32).toInt = 3 := (by decide); have t4 : (4 : Int32).toInt = 4 := (by decide); have t5 : (5 : Int32).toInt = 5 := (by decide); have t6 : (6 : Int32).toInt = 6 := (by decide); have t7 : (7 : Int32).toInt = 7 := (by decide); have t8 : (8 : Int32).toInt = 8 := (by decide); have t9 : (9 : Int32).toInt = 9 := (by decide); have t10 : (10 : Int32).toInt = 10 := (by decide); have t11 : (11 : Int32).toInt = 11 := (by decide); simp only [← Int32.toInt_inj, t0, t1, t2, t3, t4, t5, t6, t7, t8, t9, t10, t11] at c_5_0 c_5_1 c_5_2 c_5_3 c_5_4 c_5_5 c_5_6 c_5_7 c_5_8 c_5_9 c_5_10 c_5_11; omega) (by decide) ?_
    refine lv_ldc (v := -100000000) hx hb hown (hts (.constant RX7 113 (-100000000)) (List.mem_of_getElem? (i := 2) rfl)) dX7_most_195 ?_
    rw [hQ]
    obtain e9_0 := inj1 hF
    exact W.iret (v := (-100000000 : Int32)) hx hb hr (fun tt ht hW => ⟨_, rfl, e9_0, ht⟩) (fun _ h => by cases h) dX7_most_197
  ·
    replace hF := ip c_4 hF
    refine lv_ldc (v := -100000000) hx hb hown (hts (.constant RX7 113 (-100000000)) (List.mem_of_getElem? (i := 2) rfl)) dX7_most_10 ?_
    rw [hQ]
    obtain e9_0 := inj1 hF
    exact W.iret (v := (-100000000 : Int32)) hx hb hr (fun tt ht hW => ⟨_, rfl, e9_0, ht⟩) (fun _ h => by cases h) dX7_most_12

def F_X7_move (K : Nat) (p1 : Int32) (p2 : Int32) (p3 : Int32) (c_now_row : Nat → Int32) (c_now_partners : Nat → Int32) (c_now_askedCount : Int32) (c_now_outcome : Int32) (c_now_share : Nat → Int32) (c_now_leftOver : Nat → Int32) (c_book_lines : Nat → Int32) (c_history_rows : Nat → Int32) (c_history_next : Int32) (c_history_held : Int32) (c_refused : Nat → Int32) : Option (Int32 × (Nat → Int32) × (Nat → Int32) × Int32 × Int32 × (Nat → Int32) × (Nat → Int32) × (Nat → Int32) × (Nat → Int32) × Int32 × Int32 × (Nat → Int32)) :=
  bd12 (F_X7_act K (0 : Int32) p1 p2 p3 (1 : Int32) c_now_row c_now_partners c_now_askedCount c_now_outcome c_now_share c_now_leftOver c_book_lines c_history_rows c_history_next c_history_held c_refused) (fun r_1 w_2 w_3 w_4 w_5 w_6 w_7 w_8 w_9 w_10 w_11 w_12 => some (r_1, w_2, w_3, w_4, w_5, w_6, w_7, w_8, w_9, w_10, w_11, w_12))
abbrev w_X7_move (E : EE) (a_ a_tape a_reader a_scripts a_now a_trial a_kept a_book a_keptBook a_history a_draws a_refused a_now_row a_now_partners a_now_share a_now_leftOver a_book_lines a_history_rows : Nat) (c_hasImage : Int32) (c_now_askedCount : Int32) (c_now_outcome : Int32) (c_now_row : Nat → Int32) (c_now_partners : Nat → Int32) (c_now_share : Nat → Int32) (c_now_leftOver : Nat → Int32) (c_book_lines : Nat → Int32) (c_history_next : Int32) (c_history_held : Int32) (c_history_rows : Nat → Int32) (c_refused : Nat → Int32) : va_W := [(a_, .inr (8, [.ref a_tape, .ref a_reader, .ref a_scripts, .ref a_now, .ref a_trial, .ref a_kept, .ref a_book, .ref a_keptBook, .ref a_history, .ref a_draws, .ref a_refused, .int c_hasImage])), (a_now, .inr (6, [.ref a_now_row, .ref a_now_partners, .int c_now_askedCount, .int c_now_outcome, .ref a_now_share, .ref a_now_leftOver])), (a_now_row, .inl (E.2.1, 81, .inl c_now_row)), (a_now_partners, .inl (E.2.1, 8, .inl c_now_partners)), (a_now_share, .inl (E.2.1, 2, .inl c_now_share)), (a_now_leftOver, .inl (E.2.1, 2, .inl c_now_leftOver)), (a_book, .inr (1, [.ref a_book_lines])), (a_book_lines, .inl (E.2.1, 300, .inl c_book_lines)), (a_history, .inr (3, [.ref a_history_rows, .int c_history_next, .int c_history_held])), (a_history_rows, .inl (E.2.1, 3240, .inl c_history_rows)), (a_refused, .inl (E.2.1, 3, .inl c_refused))]
def v_f_X7_move : List Cond := List.cons (.code yX7_move cX7_move 4 (some .int)) (HAppend.hAppend (α := List Cond) (β := List Cond) (γ := List Cond) [.methodLink RX7 163 yX7_act, .instanceMethod yX7_act, .selects RX7 yX7_act yX7_act, .initialized RX7] (HAppend.hAppend (α := List Cond) (β := List Cond) (γ := List Cond) v_f_X7_act []))
theorem gw_f_X7_move : v_f_X7_move.all goodWord = true := by decide +kernel
theorem g_f_X7_move_f_X7_act_163 : GoodIn v_f_X7_move (wsV RX7 163 RX7 yX7_act v_f_X7_act) := goodIn_app (goodIn_of _ (by decide +kernel)) (goodIn_sub (fun _ h => List.mem_cons_of_mem _ (List.mem_append_right _ (List.mem_append_left _ h))) gw_f_X7_act)
theorem hd_X7_move : yX7_move.cls = RX7 ∧ yX7_move.cls ≠ "java/lang/invoke/MethodHandle" ∧ yX7_move.cls ≠ "java/lang/invoke/VarHandle" ∧ (parseMethodDescriptor yX7_move.desc).map (fun d => d.parameters.length) = some 3 := by decide +kernel
set_option maxHeartbeats 4000000 in
set_option maxRecDepth 100000 in
theorem f_X7_move (l : Launch) (E : EE) (sz : Nat) (K : Nat) {a_ a_tape a_reader a_scripts a_now a_trial a_kept a_book a_keptBook a_history a_draws a_refused a_now_row a_now_partners a_now_share a_now_leftOver a_book_lines a_history_rows : Nat} {p1 : Int32} {p2 : Int32} {p3 : Int32} {c_hasImage : Int32} {c_now_askedCount : Int32} {c_now_outcome : Int32} {c_now_row : Nat → Int32} {c_now_partners : Nat → Int32} {c_now_share : Nat → Int32} {c_now_leftOver : Nat → Int32} {c_book_lines : Nat → Int32} {c_history_next : Int32} {c_history_held : Int32} {c_history_rows : Nat → Int32} {c_refused : Nat → Int32} {rr : Int32} {n_now_row : Nat → Int32} {n_now_partners : Nat → Int32} {n_now_askedCount : Int32} {n_now_outcome : Int32} {n_now_share : Nat → Int32} {n_now_leftOver : Nat → Int32} {n_book_lines : Nat → Int32} {n_history_rows : Nat → Int32} {n_history_next : Int32} {n_history_held : Int32} {n_refused : Nat → Int32} (hF : F_X7_move K p1 p2 p3 c_now_row c_now_partners c_now_askedCount c_now_outcome c_now_share c_now_leftOver c_book_lines c_history_rows c_history_next c_history_held c_refused = some (rr, n_now_row, n_now_partners, n_now_askedCount, n_now_outcome, n_now_share, n_now_leftOver, n_book_lines, n_history_rows, n_history_next, n_history_held, n_refused)) : Met l yX7_move v_f_X7_move (({ frames := 6, cells := 0, slots := 0, locals := 151 } : Room)) (va_Pc [.ref a_, .int p1, .int p2, .int p3] (pW E sz (w_X7_move E a_ a_tape a_reader a_scripts a_now a_trial a_kept a_book a_keptBook a_history a_draws a_refused a_now_row a_now_partners a_now_share a_now_leftOver a_book_lines a_history_rows c_hasImage c_now_askedCount c_now_outcome c_now_row c_now_partners c_now_share c_now_leftOver c_book_lines c_history_next c_history_held c_history_rows c_refused))) (va_Qi (fun (q : Int32) (_u : Unit) => q = rr) (fun (_u : Unit) tt => va_P E.1 vwCl (w_X7_move E a_ a_tape a_reader a_scripts a_now a_trial a_kept a_book a_keptBook a_history a_draws a_refused a_now_row a_now_partners a_now_share a_now_leftOver a_book_lines a_history_rows c_hasImage n_now_askedCount n_now_outcome n_now_row n_now_partners n_now_share n_now_leftOver n_book_lines n_history_next n_history_held n_history_rows n_refused) tt.heap ∧ va_D (va_A (w_X7_move E a_ a_tape a_reader a_scripts a_now a_trial a_kept a_book a_keptBook a_history a_draws a_refused a_now_row a_now_partners a_now_share a_now_leftOver a_book_lines a_history_rows c_hasImage c_now_askedCount c_now_outcome c_now_row c_now_partners c_now_share c_now_leftOver c_book_lines c_history_next c_history_held c_history_rows c_refused) sz) (w_X7_move E a_ a_tape a_reader a_scripts a_now a_trial a_kept a_book a_keptBook a_history a_draws a_refused a_now_row a_now_partners a_now_share a_now_leftOver a_book_lines a_history_rows c_hasImage n_now_askedCount n_now_outcome n_now_row n_now_partners n_now_share n_now_leftOver n_book_lines n_history_next n_history_held n_history_rows n_refused)) (va_A (w_X7_move E a_ a_tape a_reader a_scripts a_now a_trial a_kept a_book a_keptBook a_history a_draws a_refused a_now_row a_now_partners a_now_share a_now_leftOver a_book_lines a_history_rows c_hasImage c_now_askedCount c_now_outcome c_now_row c_now_partners c_now_share c_now_leftOver c_book_lines c_history_next c_history_held c_history_rows c_refused) sz)) 0 0 (va_A (w_X7_move E a_ a_tape a_reader a_scripts a_now a_trial a_kept a_book a_keptBook a_history a_draws a_refused a_now_row a_now_partners a_now_share a_now_leftOver a_book_lines a_history_rows c_hasImage c_now_askedCount c_now_outcome c_now_row c_now_partners c_now_share c_now_leftOver c_book_lines c_history_next c_history_held c_history_rows c_refused) sz) := by
  refine Met.ofW (cc := cX7_move) (maxL := 4) (ret := (some .int)) (by decide) rfl ?_
  intro p e s m args below meth c s₁ B hml hv
  obtain ⟨rfl, hsz, ⟨hK, hN⟩, hP, hD0⟩ := hv
  have hx := B.exec
  have hb := B.bytes
  have hr := B.returns
  have hts := atoms_spec (ws := v_f_X7_move) B.pre
  have hown : s.vm.findClass RX7 = some m.cls := own_of hd_X7_move.1 (findClass_of_methodNamed B.named)
  have hlocks : meth.locks = false := B.notSynchronized
  subst hsz
  have hD := hD0.self (sz := s.heap.size)
  generalize hAe : va_A (w_X7_move E a_ a_tape a_reader a_scripts a_now a_trial a_kept a_book a_keptBook a_history a_draws a_refused a_now_row a_now_partners a_now_share a_now_leftOver a_book_lines a_history_rows c_hasImage c_now_askedCount c_now_outcome c_now_row c_now_partners c_now_share c_now_leftOver c_book_lines c_history_next c_history_held c_history_rows c_refused) s.heap.size = A at hD ⊢
  have hA : ∀ q : Nat, s.heap.size ≤ q → A q := fun q h => by rw [← hAe]; exact Or.inr h
  have hS : va_S A s.heap s.heap [] := va_S.rf
  have hl := lv_entry ([.ref a_, .int p1, .int p2, .int p3]) (n := 4) (Nat.le_of_ble_eq_true rfl)
  rw [lg_entry_eq]
  generalize (lg_sl ([.ref a_, .int p1, .int p2, .int p3]) ++ List.replicate (4 - (lg_sl ([.ref a_, .int p1, .int p2, .int p3])).length) Slot.unset).toArray = ls at hl ⊢
  have hl : lv_has ls 4 [(0, .ref a_), (1, .int p1), (2, .int p2), (3, .int p3)] := hl
  obtain ⟨Q, hQ⟩ : ∃ Q : State → Prop, Q = MQ below (va_Qi (fun (q : Int32) (_u : Unit) => q = rr) (fun (_u : Unit) tt => va_P E.1 vwCl (w_X7_move E a_ a_tape a_reader a_scripts a_now a_trial a_kept a_book a_keptBook a_history a_draws a_refused a_now_row a_now_partners a_now_share a_now_leftOver a_book_lines a_history_rows c_hasImage n_now_askedCount n_now_outcome n_now_row n_now_partners n_now_share n_now_leftOver n_book_lines n_history_next n_history_held n_history_rows n_refused) tt.heap ∧ va_D A (w_X7_move E a_ a_tape a_reader a_scripts a_now a_trial a_kept a_book a_keptBook a_history a_draws a_refused a_now_row a_now_partners a_now_share a_now_leftOver a_book_lines a_history_rows c_hasImage n_now_askedCount n_now_outcome n_now_row n_now_partners n_now_share n_now_leftOver n_book_lines n_history_next n_history_held n_history_rows n_refused)) A) #[Value.ref a_, Value.int p1, Value.int p2, Value.int p3] s 0 0 A := ⟨_, rfl⟩
  rw [← hQ]
  change W p l e ({ frames := 6, cells := 0, slots := 0, locals := 151 } : Room) s m #[Value.ref a_, Value.int p1, Value.int p2, Value.int p3] below meth c s.heap [] 0 0 Q (F0 m 0 ls [])
  suffices hh9 : ∀ (H : Heap) (locs : List Loc), va_P E.1 vwCl (w_X7_move E a_ a_tape a_reader a_scripts a_now a_trial a_kept a_book a_keptBook a_history a_draws a_refused a_now_row a_now_partners a_now_share a_now_leftOver a_book_lines a_history_rows c_hasImage c_now_askedCount c_now_outcome c_now_row c_now_partners c_now_share c_now_leftOver c_book_lines c_history_next c_history_held c_history_rows c_refused) H → va_D A (w_X7_move E a_ a_tape a_reader a_scripts a_now a_trial a_kept a_book a_keptBook a_history a_draws a_refused a_now_row a_now_partners a_now_share a_now_leftOver a_book_lines a_history_rows c_hasImage c_now_askedCount c_now_outcome c_now_row c_now_partners c_now_share c_now_leftOver c_book_lines c_history_next c_history_held c_history_rows c_refused) → va_S A s.heap H locs → W p l e ({ frames := 6, cells := 0, slots := 0, locals := 151 } : Room) s m #[Value.ref a_, Value.int p1, Value.int p2, Value.int p3] below meth c H locs 0 0 Q (F0 m 0 ls []) from hh9 s.heap [] hP hD hS
  clear hP hD hS
  intro H locs hP hD hS
  replace hP : va_P E.1 vwCl [(a_, .inr (8, [.ref a_tape, .ref a_reader, .ref a_scripts, .ref a_now, .ref a_trial, .ref a_kept, .ref a_book, .ref a_keptBook, .ref a_history, .ref a_draws, .ref a_refused, .int c_hasImage])), (a_now, .inr (6, [.ref a_now_row, .ref a_now_partners, .int c_now_askedCount, .int c_now_outcome, .ref a_now_share, .ref a_now_leftOver])), (a_now_row, .inl (E.2.1, 81, .inl c_now_row)), (a_now_partners, .inl (E.2.1, 8, .inl c_now_partners)), (a_now_share, .inl (E.2.1, 2, .inl c_now_share)), (a_now_leftOver, .inl (E.2.1, 2, .inl c_now_leftOver)), (a_book, .inr (1, [.ref a_book_lines])), (a_book_lines, .inl (E.2.1, 300, .inl c_book_lines)), (a_history, .inr (3, [.ref a_history_rows, .int c_history_next, .int c_history_held])), (a_history_rows, .inl (E.2.1, 3240, .inl c_history_rows)), (a_refused, .inl (E.2.1, 3, .inl c_refused))] H := hP
  replace hD : va_D A [(a_, .inr (8, [.ref a_tape, .ref a_reader, .ref a_scripts, .ref a_now, .ref a_trial, .ref a_kept, .ref a_book, .ref a_keptBook, .ref a_history, .ref a_draws, .ref a_refused, .int c_hasImage])), (a_now, .inr (6, [.ref a_now_row, .ref a_now_partners, .int c_now_askedCount, .int c_now_outcome, .ref a_now_share, .ref a_now_leftOver])), (a_now_row, .inl (E.2.1, 81, .inl c_now_row)), (a_now_partners, .inl (E.2.1, 8, .inl c_now_partners)), (a_now_share, .inl (E.2.1, 2, .inl c_now_share)), (a_now_leftOver, .inl (E.2.1, 2, .inl c_now_leftOver)), (a_book, .inr (1, [.ref a_book_lines])), (a_book_lines, .inl (E.2.1, 300, .inl c_book_lines)), (a_history, .inr (3, [.ref a_history_rows, .int c_history_next, .int c_history_held])), (a_history_rows, .inl (E.2.1, 3240, .inl c_history_rows)), (a_refused, .inl (E.2.1, 3, .inl c_refused))] := hD
  unfold F_X7_move at hF
  refine lv_aload_n hx hb dX7_move_0 rfl (lv_at hl 0 rfl) ?_
  refine lv_iconst (v := 0) hx hb dX7_move_1 (by decide) ?_
  refine lv_iload_n hx hb dX7_move_2 rfl (lv_at hl 1 rfl) ?_
  refine lv_iload_n hx hb dX7_move_3 rfl (lv_at hl 2 rfl) ?_
  refine lv_iload_n hx hb dX7_move_4 rfl (lv_at hl 3 rfl) ?_
  refine lv_iconst (v := 1) hx hb dX7_move_5 (by decide) ?_
  replace hF := bd12_s hF
  obtain ⟨r_1, w_2, w_3, w_4, w_5, w_6, w_7, w_8, w_9, w_10, w_11, w_12, hc_13, hF⟩ := hF
  obtain ⟨hPc, hDc, hFc⟩ := wcut (wc := (w_X7_act E a_ a_tape a_reader a_scripts a_now a_trial a_kept a_book a_keptBook a_history a_draws a_refused a_now_row a_now_partners a_now_share a_now_leftOver a_book_lines a_history_rows c_hasImage c_now_askedCount c_now_outcome c_now_row c_now_partners c_now_share c_now_leftOver c_book_lines c_history_next c_history_held c_history_rows c_refused)) hP hD hS hA [0, 1, 2, 3, 4, 5, 6, 7, 8, 9, 10] (by decide) rfl
  have hrc := va_recv hK hPc (ci := 8) (q0 := 0) rfl rfl
  refine cE_i (wc := (w_X7_act E a_ a_tape a_reader a_scripts a_now a_trial a_kept a_book a_keptBook a_history a_draws a_refused a_now_row a_now_partners a_now_share a_now_leftOver a_book_lines a_history_rows c_hasImage c_now_askedCount c_now_outcome c_now_row c_now_partners c_now_share c_now_leftOver c_book_lines c_history_next c_history_held c_history_rows c_refused)) (wr := []) (w1 := (w_X7_act E a_ a_tape a_reader a_scripts a_now a_trial a_kept a_book a_keptBook a_history a_draws a_refused a_now_row a_now_partners a_now_share a_now_leftOver a_book_lines a_history_rows c_hasImage w_4 w_5 w_2 w_3 w_6 w_7 w_8 w_10 w_11 w_9 w_12)) (va_runV (As := [.int (0 : Int32), .int p1, .int p2, .int p3, .int (1 : Int32)]) (rest := [])  ⟨hx, hb, hml, hown, hts⟩ (f_X7_act l E H.size K (a_ := a_) (a_tape := a_tape) (a_reader := a_reader) (a_scripts := a_scripts) (a_now := a_now) (a_trial := a_trial) (a_kept := a_kept) (a_book := a_book) (a_keptBook := a_keptBook) (a_history := a_history) (a_draws := a_draws) (a_refused := a_refused) (a_now_row := a_now_row) (a_now_partners := a_now_partners) (a_now_share := a_now_share) (a_now_leftOver := a_now_leftOver) (a_book_lines := a_book_lines) (a_history_rows := a_history_rows) (p1 := (0 : Int32)) (p2 := p1) (p3 := p2) (p4 := p3) (p5 := (1 : Int32)) (c_hasImage := c_hasImage) (c_now_askedCount := c_now_askedCount) (c_now_outcome := c_now_outcome) (c_now_row := c_now_row) (c_now_partners := c_now_partners) (c_now_share := c_now_share) (c_now_leftOver := c_now_leftOver) (c_book_lines := c_book_lines) (c_history_next := c_history_next) (c_history_held := c_history_held) (c_history_rows := c_history_rows) (c_refused := c_refused) hc_13) (cwV 5 hts g_f_X7_move_f_X7_act_163 rfl rfl rfl hd_X7_act ⟨Nat.le_of_ble_eq_true rfl, Nat.le_of_ble_eq_true rfl⟩) ⟨pW.blind, hrc, (pW.pre ⟨hK, hN⟩ hPc hDc)⟩ rfl rfl hl.1 rfl (lv_room (Nat.le_of_ble_eq_true rfl)) dX7_move_6 ⟨Nat.le_of_ble_eq_true rfl, Nat.le_of_ble_eq_true rfl⟩) hS hFc hP hD [0, 1, 2, 3, 4, 5, 6, 7, 8, 9, 10] [] rfl rfl (by decide) (by decide) (fun H locs hP hD hS => ?_)
  replace hP : va_P E.1 vwCl [(a_, .inr (8, [.ref a_tape, .ref a_reader, .ref a_scripts, .ref a_now, .ref a_trial, .ref a_kept, .ref a_book, .ref a_keptBook, .ref a_history, .ref a_draws, .ref a_refused, .int c_hasImage])), (a_now, .inr (6, [.ref a_now_row, .ref a_now_partners, .int w_4, .int w_5, .ref a_now_share, .ref a_now_leftOver])), (a_now_row, .inl (E.2.1, 81, .inl w_2)), (a_now_partners, .inl (E.2.1, 8, .inl w_3)), (a_now_share, .inl (E.2.1, 2, .inl w_6)), (a_now_leftOver, .inl (E.2.1, 2, .inl w_7)), (a_book, .inr (1, [.ref a_book_lines])), (a_book_lines, .inl (E.2.1, 300, .inl w_8)), (a_history, .inr (3, [.ref a_history_rows, .int w_10, .int w_11])), (a_history_rows, .inl (E.2.1, 3240, .inl w_9)), (a_refused, .inl (E.2.1, 3, .inl w_12))] H := hP
  replace hD : va_D A [(a_, .inr (8, [.ref a_tape, .ref a_reader, .ref a_scripts, .ref a_now, .ref a_trial, .ref a_kept, .ref a_book, .ref a_keptBook, .ref a_history, .ref a_draws, .ref a_refused, .int c_hasImage])), (a_now, .inr (6, [.ref a_now_row, .ref a_now_partners, .int w_4, .int w_5, .ref a_now_share, .ref a_now_leftOver])), (a_now_row, .inl (E.2.1, 81, .inl w_2)), (a_now_partners, .inl (E.2.1, 8, .inl w_3)), (a_now_share, .inl (E.2.1, 2, .inl w_6)), (a_now_leftOver, .inl (E.2.1, 2, .inl w_7)), (a_book, .inr (1, [.ref a_book_lines])), (a_book_lines, .inl (E.2.1, 300, .inl w_8)), (a_history, .inr (3, [.ref a_history_rows, .int w_10, .int w_11])), (a_history_rows, .inl (E.2.1, 3240, .inl w_9)), (a_refused, .inl (E.2.1, 3, .inl w_12))] := hD
  rw [hQ]
  have h9 := fin9 (P := fun u9 : Int32 × (Nat → Int32) × (Nat → Int32) × Int32 × Int32 × (Nat → Int32) × (Nat → Int32) × (Nat → Int32) × (Nat → Int32) × Int32 × Int32 × (Nat → Int32) => r_1 = u9.1 ∧ va_P E.1 vwCl (w_X7_move E a_ a_tape a_reader a_scripts a_now a_trial a_kept a_book a_keptBook a_history a_draws a_refused a_now_row a_now_partners a_now_share a_now_leftOver a_book_lines a_history_rows c_hasImage u9.2.2.2.1 u9.2.2.2.2.1 u9.2.1 u9.2.2.1 u9.2.2.2.2.2.1 u9.2.2.2.2.2.2.1 u9.2.2.2.2.2.2.2.1 u9.2.2.2.2.2.2.2.2.2.1 u9.2.2.2.2.2.2.2.2.2.2.1 u9.2.2.2.2.2.2.2.2.1 u9.2.2.2.2.2.2.2.2.2.2.2) H ∧ va_D A (w_X7_move E a_ a_tape a_reader a_scripts a_now a_trial a_kept a_book a_keptBook a_history a_draws a_refused a_now_row a_now_partners a_now_share a_now_leftOver a_book_lines a_history_rows c_hasImage u9.2.2.2.1 u9.2.2.2.2.1 u9.2.1 u9.2.2.1 u9.2.2.2.2.2.1 u9.2.2.2.2.2.2.1 u9.2.2.2.2.2.2.2.1 u9.2.2.2.2.2.2.2.2.2.1 u9.2.2.2.2.2.2.2.2.2.2.1 u9.2.2.2.2.2.2.2.2.1 u9.2.2.2.2.2.2.2.2.2.2.2)) hF ⟨rfl, hP, hD⟩
  obtain ⟨e9_0, hP9, hD9⟩ := h9
  exact W.iret (v := r_1) hx hb hr (fun tt ht hW => ⟨⟨_, (), rfl, e9_0, ht ▸ hP9, hD9⟩, hS.F ht⟩) hS.2.2 dX7_move_9

def F_X7_needs (p1 : Int32) (p2 : Int32) (p3 : Int32) (c_now_row : Nat → Int32) : Option (Int64) :=
  bd1 (F_X5_refusal (0 : Int32) p1 p2 p3 c_now_row) (fun r_1 => if r_1 = (-1 : Int32) then bd1 (F_X5_pointValue p1 p2 p3 c_now_row) (fun r_4 => some (r_4 + (1 : Int64))) else some (-100000000 : Int64))
abbrev w_X7_needs (E : EE) (a_ a_tape a_reader a_scripts a_now a_trial a_kept a_book a_keptBook a_history a_draws a_refused a_now_row a_now_partners a_now_share a_now_leftOver : Nat) (c_hasImage : Int32) (c_now_askedCount : Int32) (c_now_outcome : Int32) (c_now_row : Nat → Int32) : va_W := [(a_, .inr (8, [.ref a_tape, .ref a_reader, .ref a_scripts, .ref a_now, .ref a_trial, .ref a_kept, .ref a_book, .ref a_keptBook, .ref a_history, .ref a_draws, .ref a_refused, .int c_hasImage])), (a_now, .inr (6, [.ref a_now_row, .ref a_now_partners, .int c_now_askedCount, .int c_now_outcome, .ref a_now_share, .ref a_now_leftOver])), (a_now_row, .inl (E.2.1, 81, .inl c_now_row))]
def v_f_X7_needs : List Cond := List.cons (.code yX7_needs cX7_needs 4 (some .long)) (HAppend.hAppend (α := List Cond) (β := List Cond) (γ := List Cond) [.fieldLink RX7 35 "HushWatch" "now" "LHushWatch$State;", .constantLong RX7 154 (-100000000), .methodLink RX7 220 yX5_refusal, .instanceMethod yX5_refusal, .selects RX5 yX5_refusal yX5_refusal, .initialized RX5, .methodLink RX7 254 yX5_pointValue, .instanceMethod yX5_pointValue, .selects RX5 yX5_pointValue yX5_pointValue] (HAppend.hAppend (α := List Cond) (β := List Cond) (γ := List Cond) wsX70 (HAppend.hAppend (α := List Cond) (β := List Cond) (γ := List Cond) v_f_X5_refusal (HAppend.hAppend (α := List Cond) (β := List Cond) (γ := List Cond) v_f_X5_pointValue []))))
theorem gw_f_X7_needs : v_f_X7_needs.all goodWord = true := by decide +kernel
theorem i_f_X7_needs_X7 : ∀ w ∈ wsX70, w ∈ v_f_X7_needs := fun _ h => List.mem_cons_of_mem _ (List.mem_append_right _ (List.mem_append_left _ h))
theorem g_f_X7_needs_f_X5_refusal_220 : GoodIn v_f_X7_needs (wsV RX7 220 RX5 yX5_refusal v_f_X5_refusal) := goodIn_app (goodIn_of _ (by decide +kernel)) (goodIn_sub (fun _ h => List.mem_cons_of_mem _ (List.mem_append_right _ (List.mem_append_right _ (List.mem_append_left _ h)))) gw_f_X5_refusal)
theorem g_f_X7_needs_f_X5_pointValue_254 : GoodIn v_f_X7_needs (wsV RX7 254 RX5 yX5_pointValue v_f_X5_pointValue) := goodIn_app (goodIn_of _ (by decide +kernel)) (goodIn_sub (fun _ h => List.mem_cons_of_mem _ (List.mem_append_right _ (List.mem_append_right _ (List.mem_append_right _ (List.mem_append_left _ h))))) gw_f_X5_pointValue)
theorem hd_X7_needs : yX7_needs.cls = RX7 ∧ yX7_needs.cls ≠ "java/lang/invoke/MethodHandle" ∧ yX7_needs.cls ≠ "java/lang/invoke/VarHandle" ∧ (parseMethodDescriptor yX7_needs.desc).map (fun d => d.parameters.length) = some 3 := by decide +kernel
set_option maxHeartbeats 4000000 in
set_option maxRecDepth 100000 in
theorem f_X7_needs (l : Launch) (E : EE) {a_ a_tape a_reader a_scripts a_now a_trial a_kept a_book a_keptBook a_history a_draws a_refused a_now_row a_now_partners a_now_share a_now_leftOver : Nat} {p1 : Int32} {p2 : Int32} {p3 : Int32} {c_hasImage : Int32} {c_now_askedCount : Int32} {c_now_outcome : Int32} {c_now_row : Nat → Int32} {rr : Int64} (hF : F_X7_needs p1 p2 p3 c_now_row = some rr) : Met l yX7_needs v_f_X7_needs (({ frames := 4, cells := 0, slots := 0, locals := 92 } : Room)) (va_Pc [.ref a_, .int p1, .int p2, .int p3] (pP E (w_X7_needs E a_ a_tape a_reader a_scripts a_now a_trial a_kept a_book a_keptBook a_history a_draws a_refused a_now_row a_now_partners a_now_share a_now_leftOver c_hasImage c_now_askedCount c_now_outcome c_now_row))) (vp_Sl (fun q : Int64 => q = rr)) 0 0 (fun _ => False) := by
  refine Met.ofW (cc := cX7_needs) (maxL := 4) (ret := (some .long)) (by decide) rfl ?_
  intro p e s m args below meth c s₁ B hml hv
  obtain ⟨rfl, ⟨hK, hN⟩, hP⟩ := hv
  have hx := B.exec
  have hb := B.bytes
  have hr := B.returns
  have hts := atoms_spec (ws := v_f_X7_needs) B.pre
  have hown : s.vm.findClass RX7 = some m.cls := own_of hd_X7_needs.1 (findClass_of_methodNamed B.named)
  have hlocks : meth.locks = false := B.notSynchronized
  replace hP : va_P E.1 vwCl [(a_, .inr (8, [.ref a_tape, .ref a_reader, .ref a_scripts, .ref a_now, .ref a_trial, .ref a_kept, .ref a_book, .ref a_keptBook, .ref a_history, .ref a_draws, .ref a_refused, .int c_hasImage])), (a_now, .inr (6, [.ref a_now_row, .ref a_now_partners, .int c_now_askedCount, .int c_now_outcome, .ref a_now_share, .ref a_now_leftOver])), (a_now_row, .inl (E.2.1, 81, .inl c_now_row))] s.heap := hP
  have hl := lv_entry ([.ref a_, .int p1, .int p2, .int p3]) (n := 4) (Nat.le_of_ble_eq_true rfl)
  rw [lg_entry_eq]
  generalize (lg_sl ([.ref a_, .int p1, .int p2, .int p3]) ++ List.replicate (4 - (lg_sl ([.ref a_, .int p1, .int p2, .int p3])).length) Slot.unset).toArray = ls at hl ⊢
  have hl : lv_has ls 4 [(0, .ref a_), (1, .int p1), (2, .int p2), (3, .int p3)] := hl
  obtain ⟨Q, hQ⟩ : ∃ Q : State → Prop, Q = MQ below (vp_Sl (fun q : Int64 => q = rr)) #[Value.ref a_, Value.int p1, Value.int p2, Value.int p3] s 0 0 (fun _ => False) := ⟨_, rfl⟩
  rw [← hQ]
  change W p l e ({ frames := 4, cells := 0, slots := 0, locals := 92 } : Room) s m #[Value.ref a_, Value.int p1, Value.int p2, Value.int p3] below meth c s.heap [] 0 0 Q (F0 m 0 ls [])
  unfold F_X7_needs at hF
  refine lv_aload_n hx hb dX7_needs_0 rfl (lv_at hl 0 rfl) ?_
  refine gt_X7_3 (v := .ref a_now) hx hb hts i_f_X7_needs_X7 hown hK hP 0 rfl (hts (.fieldLink RX7 35 "HushWatch" "now" "LHushWatch$State;") (List.mem_of_getElem? (i := 1) rfl)) rfl dX7_needs_1 ?_
  refine lv_iconst (v := 0) hx hb dX7_needs_4 (by decide) ?_
  refine lv_iload_n hx hb dX7_needs_5 rfl (lv_at hl 1 rfl) ?_
  refine lv_iload_n hx hb dX7_needs_6 rfl (lv_at hl 2 rfl) ?_
  refine lv_iload_n hx hb dX7_needs_7 rfl (lv_at hl 3 rfl) ?_
  replace hF := bd1_s hF
  obtain ⟨r_1, hc_2, hF⟩ := hF
  have hPc : va_P E.1 vwCl (w_X5_refusal E a_now a_now_row a_now_partners a_now_share a_now_leftOver c_now_askedCount c_now_outcome c_now_row) s.heap := hP.sub (ws' := [(a_now, .inr (6, [.ref a_now_row, .ref a_now_partners, .int c_now_askedCount, .int c_now_outcome, .ref a_now_share, .ref a_now_leftOver])), (a_now_row, .inl (E.2.1, 81, .inl c_now_row))]) [1, 2] rfl
  have hrc := va_recv hK hPc (ci := 6) (q0 := 0) rfl rfl
  refine pE_i (va_runV (As := [.int (0 : Int32), .int p1, .int p2, .int p3]) (rest := [])  ⟨hx, hb, hml, hown, hts⟩ (f_X5_refusal l E (a_ := a_now) (a_row := a_now_row) (a_partners := a_now_partners) (a_share := a_now_share) (a_leftOver := a_now_leftOver) (p1 := (0 : Int32)) (p2 := p1) (p3 := p2) (p4 := p3) (c_askedCount := c_now_askedCount) (c_outcome := c_now_outcome) (c_row := c_now_row) hc_2) (cwV 4 hts g_f_X7_needs_f_X5_refusal_220 rfl rfl rfl hd_X5_refusal ⟨Nat.le_of_ble_eq_true rfl, Nat.le_of_ble_eq_true rfl⟩) ⟨pP.blind, hrc, (pP.pre ⟨hK, hN⟩ hPc)⟩ rfl rfl hl.1 rfl (lv_room (Nat.le_of_ble_eq_true rfl)) dX7_needs_8 ⟨Nat.le_of_ble_eq_true rfl, Nat.le_of_ble_eq_true rfl⟩) ?_
  refine lv_iconst (v := -1) hx hb dX7_needs_11 (by decide) ?_
  refine lv_icmp_eq (tgt := 19) hx hb dX7_needs_12 (by decide) (fun c_3 => ?_) (fun c_3 => ?_)
  ·
    replace hF := ip c_3 hF
    refine lv_aload_n hx hb dX7_needs_19 rfl (lv_at hl 0 rfl) ?_
    refine gt_X7_3 (v := .ref a_now) hx hb hts i_f_X7_needs_X7 hown hK hP 0 rfl (hts (.fieldLink RX7 35 "HushWatch" "now" "LHushWatch$State;") (List.mem_of_getElem? (i := 1) rfl)) rfl dX7_needs_20 ?_
    refine lv_iload_n hx hb dX7_needs_23 rfl (lv_at hl 1 rfl) ?_
    refine lv_iload_n hx hb dX7_needs_24 rfl (lv_at hl 2 rfl) ?_
    refine lv_iload_n hx hb dX7_needs_25 rfl (lv_at hl 3 rfl) ?_
    replace hF := bd1_s hF
    obtain ⟨r_4, hc_5, hF⟩ := hF
    have hPc : va_P E.1 vwCl (w_X5_pointValue E a_now a_now_row a_now_partners a_now_share a_now_leftOver c_now_askedCount c_now_outcome c_now_row) s.heap := hP.sub (ws' := [(a_now, .inr (6, [.ref a_now_row, .ref a_now_partners, .int c_now_askedCount, .int c_now_outcome, .ref a_now_share, .ref a_now_leftOver])), (a_now_row, .inl (E.2.1, 81, .inl c_now_row))]) [1, 2] rfl
    have hrc := va_recv hK hPc (ci := 6) (q0 := 0) rfl rfl
    refine pE_l (va_runV (As := [.int p1, .int p2, .int p3]) (rest := [])  ⟨hx, hb, hml, hown, hts⟩ (f_X5_pointValue l E (a_ := a_now) (a_row := a_now_row) (a_partners := a_now_partners) (a_share := a_now_share) (a_leftOver := a_now_leftOver) (p1 := p1) (p2 := p2) (p3 := p3) (c_askedCount := c_now_askedCount) (c_outcome := c_now_outcome) (c_row := c_now_row) hc_5) (cwV 3 hts g_f_X7_needs_f_X5_pointValue_254 rfl rfl rfl hd_X5_pointValue ⟨Nat.le_of_ble_eq_true rfl, Nat.le_of_ble_eq_true rfl⟩) ⟨pP.blind, hrc, (pP.pre ⟨hK, hN⟩ hPc)⟩ rfl rfl hl.1 rfl (lv_room (Nat.le_of_ble_eq_true rfl)) dX7_needs_26 ⟨Nat.le_of_ble_eq_true rfl, Nat.le_of_ble_eq_true rfl⟩) ?_
    refine lv_lconst (v := 1) hx hb dX7_needs_29 (by decide) ?_
    refine lv_ladd hx hb dX7_needs_30 ?_
    rw [hQ]
    obtain e9_0 := inj1 hF
    exact W.lret (v := r_4 + (1 : Int64)) hx hb hr (fun tt ht hW => ⟨_, rfl, e9_0, ht⟩) (fun _ h => by cases h) dX7_needs_31
  ·
    replace hF := inn c_3 hF
    refine lv_ldc2 (v := -100000000) hx hb hown (hts (.constantLong RX7 154 (-100000000)) (List.mem_of_getElem? (i := 2) rfl)) dX7_needs_15 ?_
    rw [hQ]
    obtain e9_0 := inj1 hF
    exact W.lret (v := (-100000000 : Int64)) hx hb hr (fun tt ht hW => ⟨_, rfl, e9_0, ht⟩) (fun _ h => by cases h) dX7_needs_18
