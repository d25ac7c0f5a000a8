def dl_X8_limit_30_md24_0 : List (Nat × Instr × Nat) := [(36, .iload 5, 2), (38, .ifCond .eq 65, 3), (41, .iload 4, 2), (43, .sipush 200, 3), (46, .if_icmp .ge 57, 3), (49, .iinc 4 1, 3), (52, .aload_n 0, 1), (53, .getfield 22, 3), (56, .iconst 0, 1), (57, .iload_n 1, 1), (58, .iadd, 1), (59, .dup2, 1), (60, .iaload, 1), (61, .iload_n 2, 1), (62, .iadd, 1), (63, .iastore, 1), (64, .aload_n 0, 1), (65, .getfield 22, 3), (68, .bipush 8, 2), (70, .iload_n 1, 1), (71, .iadd, 1), (72, .dup2, 1), (73, .iaload, 1), (74, .iload_n 3, 1), (75, .iadd, 1), (76, .iastore, 1), (77, .aload_n 0, 1), (78, .iload_n 1, 1), (79, .invokevirtual 393, 3), (82, .ifCond .eq 15, 3), (97, .iconst 0, 1), (98, .istore 5, 2), (100, .goto (-64), 3), (85, .aload_n 0, 1), (86, .iload_n 1, 1), (87, .invokevirtual 254, 3), (90, .ifCond .eq 7, 3), (93, .iconst 1, 1), (94, .goto 4, 3), (0, .aload_n 0, 1), (1, .iload_n 1, 1), (2, .invokevirtual 278, 3), (5, .ifCond .eq 19, 3), (24, .iconst (-1), 1), (25, .ireturn, 1), (8, .iload_n 2, 1), (9, .iload_n 3, 1), (10, .invokestatic 387, 3), (13, .ifCond .eq 11, 3), (16, .aload_n 0, 1)]
set_option maxRecDepth 100000 in
theorem dall_X8_limit_30_md24_0 : dchk cX8_limit dl_X8_limit_30_md24_0 = true := by decide +kernel
theorem dX8_limit_36 : decode cX8_limit 36 = .ok (.iload 5, 2) := dchk_at dall_X8_limit_30_md24_0 (k := 0) rfl
theorem dX8_limit_38 : decode cX8_limit 38 = .ok (.ifCond .eq 65, 3) := dchk_at dall_X8_limit_30_md24_0 (k := 1) rfl
theorem dX8_limit_41 : decode cX8_limit 41 = .ok (.iload 4, 2) := dchk_at dall_X8_limit_30_md24_0 (k := 2) rfl
theorem dX8_limit_43 : decode cX8_limit 43 = .ok (.sipush 200, 3) := dchk_at dall_X8_limit_30_md24_0 (k := 3) rfl
theorem dX8_limit_46 : decode cX8_limit 46 = .ok (.if_icmp .ge 57, 3) := dchk_at dall_X8_limit_30_md24_0 (k := 4) rfl
theorem dX8_limit_49 : decode cX8_limit 49 = .ok (.iinc 4 1, 3) := dchk_at dall_X8_limit_30_md24_0 (k := 5) rfl
theorem dX8_limit_52 : decode cX8_limit 52 = .ok (.aload_n 0, 1) := dchk_at dall_X8_limit_30_md24_0 (k := 6) rfl
theorem dX8_limit_53 : decode cX8_limit 53 = .ok (.getfield 22, 3) := dchk_at dall_X8_limit_30_md24_0 (k := 7) rfl
theorem dX8_limit_56 : decode cX8_limit 56 = .ok (.iconst 0, 1) := dchk_at dall_X8_limit_30_md24_0 (k := 8) rfl
theorem dX8_limit_57 : decode cX8_limit 57 = .ok (.iload_n 1, 1) := dchk_at dall_X8_limit_30_md24_0 (k := 9) rfl
theorem dX8_limit_58 : decode cX8_limit 58 = .ok (.iadd, 1) := dchk_at dall_X8_limit_30_md24_0 (k := 10) rfl
theorem dX8_limit_59 : decode cX8_limit 59 = .ok (.dup2, 1) := dchk_at dall_X8_limit_30_md24_0 (k := 11) rfl
theorem dX8_limit_60 : decode cX8_limit 60 = .ok (.iaload, 1) := dchk_at dall_X8_limit_30_md24_0 (k := 12) rfl
theorem dX8_limit_61 : decode cX8_limit 61 = .ok (.iload_n 2, 1) := dchk_at dall_X8_limit_30_md24_0 (k := 13) rfl
theorem dX8_limit_62 : decode cX8_limit 62 = .ok (.iadd, 1) := dchk_at dall_X8_limit_30_md24_0 (k := 14) rfl
theorem dX8_limit_63 : decode cX8_limit 63 = .ok (.iastore, 1) := dchk_at dall_X8_limit_30_md24_0 (k := 15) rfl
theorem dX8_limit_64 : decode cX8_limit 64 = .ok (.aload_n 0, 1) := dchk_at dall_X8_limit_30_md24_0 (k := 16) rfl
theorem dX8_limit_65 : decode cX8_limit 65 = .ok (.getfield 22, 3) := dchk_at dall_X8_limit_30_md24_0 (k := 17) rfl
theorem dX8_limit_68 : decode cX8_limit 68 = .ok (.bipush 8, 2) := dchk_at dall_X8_limit_30_md24_0 (k := 18) rfl
theorem dX8_limit_70 : decode cX8_limit 70 = .ok (.iload_n 1, 1) := dchk_at dall_X8_limit_30_md24_0 (k := 19) rfl
theorem dX8_limit_71 : decode cX8_limit 71 = .ok (.iadd, 1) := dchk_at dall_X8_limit_30_md24_0 (k := 20) rfl
theorem dX8_limit_72 : decode cX8_limit 72 = .ok (.dup2, 1) := dchk_at dall_X8_limit_30_md24_0 (k := 21) rfl
theorem dX8_limit_73 : decode cX8_limit 73 = .ok (.iaload, 1) := dchk_at dall_X8_limit_30_md24_0 (k := 22) rfl
theorem dX8_limit_74 : decode cX8_limit 74 = .ok (.iload_n 3, 1) := dchk_at dall_X8_limit_30_md24_0 (k := 23) rfl
theorem dX8_limit_75 : decode cX8_limit 75 = .ok (.iadd, 1) := dchk_at dall_X8_limit_30_md24_0 (k := 24) rfl
theorem dX8_limit_76 : decode cX8_limit 76 = .ok (.iastore, 1) := dchk_at dall_X8_limit_30_md24_0 (k := 25) rfl
theorem dX8_limit_77 : decode cX8_limit 77 = .ok (.aload_n 0, 1) := dchk_at dall_X8_limit_30_md24_0 (k := 26) rfl
theorem dX8_limit_78 : decode cX8_limit 78 = .ok (.iload_n 1, 1) := dchk_at dall_X8_limit_30_md24_0 (k := 27) rfl
theorem dX8_limit_79 : decode cX8_limit 79 = .ok (.invokevirtual 393, 3) := dchk_at dall_X8_limit_30_md24_0 (k := 28) rfl
theorem dX8_limit_82 : decode cX8_limit 82 = .ok (.ifCond .eq 15, 3) := dchk_at dall_X8_limit_30_md24_0 (k := 29) rfl
theorem dX8_limit_97 : decode cX8_limit 97 = .ok (.iconst 0, 1) := dchk_at dall_X8_limit_30_md24_0 (k := 30) rfl
theorem dX8_limit_98 : decode cX8_limit 98 = .ok (.istore 5, 2) := dchk_at dall_X8_limit_30_md24_0 (k := 31) rfl
theorem dX8_limit_100 : decode cX8_limit 100 = .ok (.goto (-64), 3) := dchk_at dall_X8_limit_30_md24_0 (k := 32) rfl
theorem dX8_limit_85 : decode cX8_limit 85 = .ok (.aload_n 0, 1) := dchk_at dall_X8_limit_30_md24_0 (k := 33) rfl
theorem dX8_limit_86 : decode cX8_limit 86 = .ok (.iload_n 1, 1) := dchk_at dall_X8_limit_30_md24_0 (k := 34) rfl
theorem dX8_limit_87 : decode cX8_limit 87 = .ok (.invokevirtual 254, 3) := dchk_at dall_X8_limit_30_md24_0 (k := 35) rfl
theorem dX8_limit_90 : decode cX8_limit 90 = .ok (.ifCond .eq 7, 3) := dchk_at dall_X8_limit_30_md24_0 (k := 36) rfl
theorem dX8_limit_93 : decode cX8_limit 93 = .ok (.iconst 1, 1) := dchk_at dall_X8_limit_30_md24_0 (k := 37) rfl
theorem dX8_limit_94 : decode cX8_limit 94 = .ok (.goto 4, 3) := dchk_at dall_X8_limit_30_md24_0 (k := 38) rfl
theorem dX8_limit_0 : decode cX8_limit 0 = .ok (.aload_n 0, 1) := dchk_at dall_X8_limit_30_md24_0 (k := 39) rfl
theorem dX8_limit_1 : decode cX8_limit 1 = .ok (.iload_n 1, 1) := dchk_at dall_X8_limit_30_md24_0 (k := 40) rfl
theorem dX8_limit_2 : decode cX8_limit 2 = .ok (.invokevirtual 278, 3) := dchk_at dall_X8_limit_30_md24_0 (k := 41) rfl
theorem dX8_limit_5 : decode cX8_limit 5 = .ok (.ifCond .eq 19, 3) := dchk_at dall_X8_limit_30_md24_0 (k := 42) rfl
theorem dX8_limit_24 : decode cX8_limit 24 = .ok (.iconst (-1), 1) := dchk_at dall_X8_limit_30_md24_0 (k := 43) rfl
theorem dX8_limit_25 : decode cX8_limit 25 = .ok (.ireturn, 1) := dchk_at dall_X8_limit_30_md24_0 (k := 44) rfl
theorem dX8_limit_8 : decode cX8_limit 8 = .ok (.iload_n 2, 1) := dchk_at dall_X8_limit_30_md24_0 (k := 45) rfl
theorem dX8_limit_9 : decode cX8_limit 9 = .ok (.iload_n 3, 1) := dchk_at dall_X8_limit_30_md24_0 (k := 46) rfl
theorem dX8_limit_10 : decode cX8_limit 10 = .ok (.invokestatic 387, 3) := dchk_at dall_X8_limit_30_md24_0 (k := 47) rfl
theorem dX8_limit_13 : decode cX8_limit 13 = .ok (.ifCond .eq 11, 3) := dchk_at dall_X8_limit_30_md24_0 (k := 48) rfl
theorem dX8_limit_16 : decode cX8_limit 16 = .ok (.aload_n 0, 1) := dchk_at dall_X8_limit_30_md24_0 (k := 49) rfl
def dl_X8_limit_30_md24_1 : List (Nat × Instr × Nat) := [(17, .iload_n 1, 1), (18, .invokevirtual 257, 3), (21, .ifCond .eq 5, 3), (26, .aload_n 0, 1), (27, .invokevirtual 390, 3), (30, .iconst (-1), 1), (31, .istore 4, 2), (33, .iconst 1, 1), (34, .istore 5, 2), (103, .aload_n 0, 1), (104, .invokevirtual 396, 3), (107, .iload 4, 2), (109, .ireturn, 1)]
set_option maxRecDepth 100000 in
theorem dall_X8_limit_30_md24_1 : dchk cX8_limit dl_X8_limit_30_md24_1 = true := by decide +kernel
theorem dX8_limit_17 : decode cX8_limit 17 = .ok (.iload_n 1, 1) := dchk_at dall_X8_limit_30_md24_1 (k := 0) rfl
theorem dX8_limit_18 : decode cX8_limit 18 = .ok (.invokevirtual 257, 3) := dchk_at dall_X8_limit_30_md24_1 (k := 1) rfl
theorem dX8_limit_21 : decode cX8_limit 21 = .ok (.ifCond .eq 5, 3) := dchk_at dall_X8_limit_30_md24_1 (k := 2) rfl
theorem dX8_limit_26 : decode cX8_limit 26 = .ok (.aload_n 0, 1) := dchk_at dall_X8_limit_30_md24_1 (k := 3) rfl
theorem dX8_limit_27 : decode cX8_limit 27 = .ok (.invokevirtual 390, 3) := dchk_at dall_X8_limit_30_md24_1 (k := 4) rfl
theorem dX8_limit_30 : decode cX8_limit 30 = .ok (.iconst (-1), 1) := dchk_at dall_X8_limit_30_md24_1 (k := 5) rfl
theorem dX8_limit_31 : decode cX8_limit 31 = .ok (.istore 4, 2) := dchk_at dall_X8_limit_30_md24_1 (k := 6) rfl
theorem dX8_limit_33 : decode cX8_limit 33 = .ok (.iconst 1, 1) := dchk_at dall_X8_limit_30_md24_1 (k := 7) rfl
theorem dX8_limit_34 : decode cX8_limit 34 = .ok (.istore 5, 2) := dchk_at dall_X8_limit_30_md24_1 (k := 8) rfl
theorem dX8_limit_103 : decode cX8_limit 103 = .ok (.aload_n 0, 1) := dchk_at dall_X8_limit_30_md24_1 (k := 9) rfl
theorem dX8_limit_104 : decode cX8_limit 104 = .ok (.invokevirtual 396, 3) := dchk_at dall_X8_limit_30_md24_1 (k := 10) rfl
theorem dX8_limit_107 : decode cX8_limit 107 = .ok (.iload 4, 2) := dchk_at dall_X8_limit_30_md24_1 (k := 11) rfl
theorem dX8_limit_109 : decode cX8_limit 109 = .ok (.ireturn, 1) := dchk_at dall_X8_limit_30_md24_1 (k := 12) rfl
def dl_X8_log_30_md24_0 : List (Nat × Instr × Nat) := [(0, .iload_n 1, 1), (1, .i2l, 1), (2, .lconst 0, 1), (3, .aload_n 0, 1), (4, .getfield 22, 3), (7, .bipush 84, 2), (9, .iaload, 1), (10, .iconst 1, 1), (11, .isub, 1), (12, .i2l, 1), (13, .invokestatic 60, 3), (16, .ifCond .eq 41, 3), (57, .ldc 182, 2), (59, .ireturn, 1), (19, .iload_n 2, 1), (20, .i2l, 1), (21, .lconst 0, 1), (22, .ldc2_w 373, 3), (25, .invokestatic 60, 3), (28, .ifCond .eq 29, 3), (31, .aload_n 0, 1), (32, .getfield 22, 3), (35, .bipush 85, 2), (37, .iconst 3, 1), (38, .aload_n 0, 1), (39, .getfield 22, 3), (42, .bipush 84, 2), (44, .iaload, 1), (45, .iconst 1, 1), (46, .isub, 1), (47, .iload_n 1, 1), (48, .isub, 1), (49, .imul, 1), (50, .iadd, 1), (51, .iload_n 2, 1), (52, .iadd, 1), (53, .iaload, 1), (54, .goto 5, 3)]
set_option maxRecDepth 100000 in
theorem dall_X8_log_30_md24_0 : dchk cX8_log dl_X8_log_30_md24_0 = true := by decide +kernel
theorem dX8_log_0 : decode cX8_log 0 = .ok (.iload_n 1, 1) := dchk_at dall_X8_log_30_md24_0 (k := 0) rfl
theorem dX8_log_1 : decode cX8_log 1 = .ok (.i2l, 1) := dchk_at dall_X8_log_30_md24_0 (k := 1) rfl
theorem dX8_log_2 : decode cX8_log 2 = .ok (.lconst 0, 1) := dchk_at dall_X8_log_30_md24_0 (k := 2) rfl
theorem dX8_log_3 : decode cX8_log 3 = .ok (.aload_n 0, 1) := dchk_at dall_X8_log_30_md24_0 (k := 3) rfl
theorem dX8_log_4 : decode cX8_log 4 = .ok (.getfield 22, 3) := dchk_at dall_X8_log_30_md24_0 (k := 4) rfl
theorem dX8_log_7 : decode cX8_log 7 = .ok (.bipush 84, 2) := dchk_at dall_X8_log_30_md24_0 (k := 5) rfl
theorem dX8_log_9 : decode cX8_log 9 = .ok (.iaload, 1) := dchk_at dall_X8_log_30_md24_0 (k := 6) rfl
theorem dX8_log_10 : decode cX8_log 10 = .ok (.iconst 1, 1) := dchk_at dall_X8_log_30_md24_0 (k := 7) rfl
theorem dX8_log_11 : decode cX8_log 11 = .ok (.isub, 1) := dchk_at dall_X8_log_30_md24_0 (k := 8) rfl
theorem dX8_log_12 : decode cX8_log 12 = .ok (.i2l, 1) := dchk_at dall_X8_log_30_md24_0 (k := 9) rfl
theorem dX8_log_13 : decode cX8_log 13 = .ok (.invokestatic 60, 3) := dchk_at dall_X8_log_30_md24_0 (k := 10) rfl
theorem dX8_log_16 : decode cX8_log 16 = .ok (.ifCond .eq 41, 3) := dchk_at dall_X8_log_30_md24_0 (k := 11) rfl
theorem dX8_log_57 : decode cX8_log 57 = .ok (.ldc 182, 2) := dchk_at dall_X8_log_30_md24_0 (k := 12) rfl
theorem dX8_log_59 : decode cX8_log 59 = .ok (.ireturn, 1) := dchk_at dall_X8_log_30_md24_0 (k := 13) rfl
theorem dX8_log_19 : decode cX8_log 19 = .ok (.iload_n 2, 1) := dchk_at dall_X8_log_30_md24_0 (k := 14) rfl
theorem dX8_log_20 : decode cX8_log 20 = .ok (.i2l, 1) := dchk_at dall_X8_log_30_md24_0 (k := 15) rfl
theorem dX8_log_21 : decode cX8_log 21 = .ok (.lconst 0, 1) := dchk_at dall_X8_log_30_md24_0 (k := 16) rfl
theorem dX8_log_22 : decode cX8_log 22 = .ok (.ldc2_w 373, 3) := dchk_at dall_X8_log_30_md24_0 (k := 17) rfl
theorem dX8_log_25 : decode cX8_log 25 = .ok (.invokestatic 60, 3) := dchk_at dall_X8_log_30_md24_0 (k := 18) rfl
theorem dX8_log_28 : decode cX8_log 28 = .ok (.ifCond .eq 29, 3) := dchk_at dall_X8_log_30_md24_0 (k := 19) rfl
theorem dX8_log_31 : decode cX8_log 31 = .ok (.aload_n 0, 1) := dchk_at dall_X8_log_30_md24_0 (k := 20) rfl
theorem dX8_log_32 : decode cX8_log 32 = .ok (.getfield 22, 3) := dchk_at dall_X8_log_30_md24_0 (k := 21) rfl
theorem dX8_log_35 : decode cX8_log 35 = .ok (.bipush 85, 2) := dchk_at dall_X8_log_30_md24_0 (k := 22) rfl
theorem dX8_log_37 : decode cX8_log 37 = .ok (.iconst 3, 1) := dchk_at dall_X8_log_30_md24_0 (k := 23) rfl
theorem dX8_log_38 : decode cX8_log 38 = .ok (.aload_n 0, 1) := dchk_at dall_X8_log_30_md24_0 (k := 24) rfl
theorem dX8_log_39 : decode cX8_log 39 = .ok (.getfield 22, 3) := dchk_at dall_X8_log_30_md24_0 (k := 25) rfl
theorem dX8_log_42 : decode cX8_log 42 = .ok (.bipush 84, 2) := dchk_at dall_X8_log_30_md24_0 (k := 26) rfl
theorem dX8_log_44 : decode cX8_log 44 = .ok (.iaload, 1) := dchk_at dall_X8_log_30_md24_0 (k := 27) rfl
theorem dX8_log_45 : decode cX8_log 45 = .ok (.iconst 1, 1) := dchk_at dall_X8_log_30_md24_0 (k := 28) rfl
theorem dX8_log_46 : decode cX8_log 46 = .ok (.isub, 1) := dchk_at dall_X8_log_30_md24_0 (k := 29) rfl
theorem dX8_log_47 : decode cX8_log 47 = .ok (.iload_n 1, 1) := dchk_at dall_X8_log_30_md24_0 (k := 30) rfl
theorem dX8_log_48 : decode cX8_log 48 = .ok (.isub, 1) := dchk_at dall_X8_log_30_md24_0 (k := 31) rfl
theorem dX8_log_49 : decode cX8_log 49 = .ok (.imul, 1) := dchk_at dall_X8_log_30_md24_0 (k := 32) rfl
theorem dX8_log_50 : decode cX8_log 50 = .ok (.iadd, 1) := dchk_at dall_X8_log_30_md24_0 (k := 33) rfl
theorem dX8_log_51 : decode cX8_log 51 = .ok (.iload_n 2, 1) := dchk_at dall_X8_log_30_md24_0 (k := 34) rfl
theorem dX8_log_52 : decode cX8_log 52 = .ok (.iadd, 1) := dchk_at dall_X8_log_30_md24_0 (k := 35) rfl
theorem dX8_log_53 : decode cX8_log 53 = .ok (.iaload, 1) := dchk_at dall_X8_log_30_md24_0 (k := 36) rfl
theorem dX8_log_54 : decode cX8_log 54 = .ok (.goto 5, 3) := dchk_at dall_X8_log_30_md24_0 (k := 37) rfl
def dl_X8_quietOnes_30_md24_0 : List (Nat × Instr × Nat) := [(4, .iload_n 2, 1), (5, .aload_n 0, 1), (6, .getfield 196, 3), (9, .if_icmp .ge 27, 3), (12, .iload_n 1, 1), (13, .aload_n 0, 1), (14, .iload_n 2, 1), (15, .invokevirtual 254, 3), (18, .ifCond .eq 9, 3), (27, .iconst 0, 1), (28, .ior, 1), (29, .istore_n 1, 1), (30, .iinc 2 1, 3), (33, .goto (-29), 3), (21, .iconst 1, 1), (22, .iload_n 2, 1), (23, .ishl, 1), (24, .goto 4, 3), (0, .iconst 0, 1), (1, .istore_n 1, 1), (2, .iconst 0, 1), (3, .istore_n 2, 1), (36, .iload_n 1, 1), (37, .ireturn, 1)]
set_option maxRecDepth 100000 in
theorem dall_X8_quietOnes_30_md24_0 : dchk cX8_quietOnes dl_X8_quietOnes_30_md24_0 = true := by decide +kernel
theorem dX8_quietOnes_4 : decode cX8_quietOnes 4 = .ok (.iload_n 2, 1) := dchk_at dall_X8_quietOnes_30_md24_0 (k := 0) rfl
theorem dX8_quietOnes_5 : decode cX8_quietOnes 5 = .ok (.aload_n 0, 1) := dchk_at dall_X8_quietOnes_30_md24_0 (k := 1) rfl
theorem dX8_quietOnes_6 : decode cX8_quietOnes 6 = .ok (.getfield 196, 3) := dchk_at dall_X8_quietOnes_30_md24_0 (k := 2) rfl
theorem dX8_quietOnes_9 : decode cX8_quietOnes 9 = .ok (.if_icmp .ge 27, 3) := dchk_at dall_X8_quietOnes_30_md24_0 (k := 3) rfl
theorem dX8_quietOnes_12 : decode cX8_quietOnes 12 = .ok (.iload_n 1, 1) := dchk_at dall_X8_quietOnes_30_md24_0 (k := 4) rfl
theorem dX8_quietOnes_13 : decode cX8_quietOnes 13 = .ok (.aload_n 0, 1) := dchk_at dall_X8_quietOnes_30_md24_0 (k := 5) rfl
theorem dX8_quietOnes_14 : decode cX8_quietOnes 14 = .ok (.iload_n 2, 1) := dchk_at dall_X8_quietOnes_30_md24_0 (k := 6) rfl
theorem dX8_quietOnes_15 : decode cX8_quietOnes 15 = .ok (.invokevirtual 254, 3) := dchk_at dall_X8_quietOnes_30_md24_0 (k := 7) rfl
theorem dX8_quietOnes_18 : decode cX8_quietOnes 18 = .ok (.ifCond .eq 9, 3) := dchk_at dall_X8_quietOnes_30_md24_0 (k := 8) rfl
theorem dX8_quietOnes_27 : decode cX8_quietOnes 27 = .ok (.iconst 0, 1) := dchk_at dall_X8_quietOnes_30_md24_0 (k := 9) rfl
theorem dX8_quietOnes_28 : decode cX8_quietOnes 28 = .ok (.ior, 1) := dchk_at dall_X8_quietOnes_30_md24_0 (k := 10) rfl
theorem dX8_quietOnes_29 : decode cX8_quietOnes 29 = .ok (.istore_n 1, 1) := dchk_at dall_X8_quietOnes_30_md24_0 (k := 11) rfl
theorem dX8_quietOnes_30 : decode cX8_quietOnes 30 = .ok (.iinc 2 1, 3) := dchk_at dall_X8_quietOnes_30_md24_0 (k := 12) rfl
theorem dX8_quietOnes_33 : decode cX8_quietOnes 33 = .ok (.goto (-29), 3) := dchk_at dall_X8_quietOnes_30_md24_0 (k := 13) rfl
theorem dX8_quietOnes_21 : decode cX8_quietOnes 21 = .ok (.iconst 1, 1) := dchk_at dall_X8_quietOnes_30_md24_0 (k := 14) rfl
theorem dX8_quietOnes_22 : decode cX8_quietOnes 22 = .ok (.iload_n 2, 1) := dchk_at dall_X8_quietOnes_30_md24_0 (k := 15) rfl
theorem dX8_quietOnes_23 : decode cX8_quietOnes 23 = .ok (.ishl, 1) := dchk_at dall_X8_quietOnes_30_md24_0 (k := 16) rfl
theorem dX8_quietOnes_24 : decode cX8_quietOnes 24 = .ok (.goto 4, 3) := dchk_at dall_X8_quietOnes_30_md24_0 (k := 17) rfl
theorem dX8_quietOnes_0 : decode cX8_quietOnes 0 = .ok (.iconst 0, 1) := dchk_at dall_X8_quietOnes_30_md24_0 (k := 18) rfl
theorem dX8_quietOnes_1 : decode cX8_quietOnes 1 = .ok (.istore_n 1, 1) := dchk_at dall_X8_quietOnes_30_md24_0 (k := 19) rfl
theorem dX8_quietOnes_2 : decode cX8_quietOnes 2 = .ok (.iconst 0, 1) := dchk_at dall_X8_quietOnes_30_md24_0 (k := 20) rfl
theorem dX8_quietOnes_3 : decode cX8_quietOnes 3 = .ok (.istore_n 2, 1) := dchk_at dall_X8_quietOnes_30_md24_0 (k := 21) rfl
theorem dX8_quietOnes_36 : decode cX8_quietOnes 36 = .ok (.iload_n 1, 1) := dchk_at dall_X8_quietOnes_30_md24_0 (k := 22) rfl
theorem dX8_quietOnes_37 : decode cX8_quietOnes 37 = .ok (.ireturn, 1) := dchk_at dall_X8_quietOnes_30_md24_0 (k := 23) rfl
def dl_X8_slackOnes_30_md24_0 : List (Nat × Instr × Nat) := [(4, .iload_n 2, 1), (5, .aload_n 0, 1), (6, .getfield 196, 3), (9, .if_icmp .ge 27, 3), (12, .iload_n 1, 1), (13, .aload_n 0, 1), (14, .iload_n 2, 1), (15, .invokevirtual 420, 3), (18, .ifCond .le 9, 3), (27, .iconst 0, 1), (28, .ior, 1), (29, .istore_n 1, 1), (30, .iinc 2 1, 3), (33, .goto (-29), 3), (21, .iconst 1, 1), (22, .iload_n 2, 1), (23, .ishl, 1), (24, .goto 4, 3), (0, .iconst 0, 1), (1, .istore_n 1, 1), (2, .iconst 0, 1), (3, .istore_n 2, 1), (36, .iload_n 1, 1), (37, .ireturn, 1)]
set_option maxRecDepth 100000 in
theorem dall_X8_slackOnes_30_md24_0 : dchk cX8_slackOnes dl_X8_slackOnes_30_md24_0 = true := by decide +kernel
theorem dX8_slackOnes_4 : decode cX8_slackOnes 4 = .ok (.iload_n 2, 1) := dchk_at dall_X8_slackOnes_30_md24_0 (k := 0) rfl
theorem dX8_slackOnes_5 : decode cX8_slackOnes 5 = .ok (.aload_n 0, 1) := dchk_at dall_X8_slackOnes_30_md24_0 (k := 1) rfl
theorem dX8_slackOnes_6 : decode cX8_slackOnes 6 = .ok (.getfield 196, 3) := dchk_at dall_X8_slackOnes_30_md24_0 (k := 2) rfl
theorem dX8_slackOnes_9 : decode cX8_slackOnes 9 = .ok (.if_icmp .ge 27, 3) := dchk_at dall_X8_slackOnes_30_md24_0 (k := 3) rfl
theorem dX8_slackOnes_12 : decode cX8_slackOnes 12 = .ok (.iload_n 1, 1) := dchk_at dall_X8_slackOnes_30_md24_0 (k := 4) rfl
theorem dX8_slackOnes_13 : decode cX8_slackOnes 13 = .ok (.aload_n 0, 1) := dchk_at dall_X8_slackOnes_30_md24_0 (k := 5) rfl
theorem dX8_slackOnes_14 : decode cX8_slackOnes 14 = .ok (.iload_n 2, 1) := dchk_at dall_X8_slackOnes_30_md24_0 (k := 6) rfl
theorem dX8_slackOnes_15 : decode cX8_slackOnes 15 = .ok (.invokevirtual 420, 3) := dchk_at dall_X8_slackOnes_30_md24_0 (k := 7) rfl
theorem dX8_slackOnes_18 : decode cX8_slackOnes 18 = .ok (.ifCond .le 9, 3) := dchk_at dall_X8_slackOnes_30_md24_0 (k := 8) rfl
theorem dX8_slackOnes_27 : decode cX8_slackOnes 27 = .ok (.iconst 0, 1) := dchk_at dall_X8_slackOnes_30_md24_0 (k := 9) rfl
theorem dX8_slackOnes_28 : decode cX8_slackOnes 28 = .ok (.ior, 1) := dchk_at dall_X8_slackOnes_30_md24_0 (k := 10) rfl
theorem dX8_slackOnes_29 : decode cX8_slackOnes 29 = .ok (.istore_n 1, 1) := dchk_at dall_X8_slackOnes_30_md24_0 (k := 11) rfl
theorem dX8_slackOnes_30 : decode cX8_slackOnes 30 = .ok (.iinc 2 1, 3) := dchk_at dall_X8_slackOnes_30_md24_0 (k := 12) rfl
theorem dX8_slackOnes_33 : decode cX8_slackOnes 33 = .ok (.goto (-29), 3) := dchk_at dall_X8_slackOnes_30_md24_0 (k := 13) rfl
theorem dX8_slackOnes_21 : decode cX8_slackOnes 21 = .ok (.iconst 1, 1) := dchk_at dall_X8_slackOnes_30_md24_0 (k := 14) rfl
theorem dX8_slackOnes_22 : decode cX8_slackOnes 22 = .ok (.iload_n 2, 1) := dchk_at dall_X8_slackOnes_30_md24_0 (k := 15) rfl
theorem dX8_slackOnes_23 : decode cX8_slackOnes 23 = .ok (.ishl, 1) := dchk_at dall_X8_slackOnes_30_md24_0 (k := 16) rfl
theorem dX8_slackOnes_24 : decode cX8_slackOnes 24 = .ok (.goto 4, 3) := dchk_at dall_X8_slackOnes_30_md24_0 (k := 17) rfl
theorem dX8_slackOnes_0 : decode cX8_slackOnes 0 = .ok (.iconst 0, 1) := dchk_at dall_X8_slackOnes_30_md24_0 (k := 18) rfl
theorem dX8_slackOnes_1 : decode cX8_slackOnes 1 = .ok (.istore_n 1, 1) := dchk_at dall_X8_slackOnes_30_md24_0 (k := 19) rfl
theorem dX8_slackOnes_2 : decode cX8_slackOnes 2 = .ok (.iconst 0, 1) := dchk_at dall_X8_slackOnes_30_md24_0 (k := 20) rfl
theorem dX8_slackOnes_3 : decode cX8_slackOnes 3 = .ok (.istore_n 2, 1) := dchk_at dall_X8_slackOnes_30_md24_0 (k := 21) rfl
theorem dX8_slackOnes_36 : decode cX8_slackOnes 36 = .ok (.iload_n 1, 1) := dchk_at dall_X8_slackOnes_30_md24_0 (k := 22) rfl
theorem dX8_slackOnes_37 : decode cX8_slackOnes 37 = .ok (.ireturn, 1) := dchk_at dall_X8_slackOnes_30_md24_0 (k := 23) rfl
def dl_X8_stillOnes_30_md24_0 : List (Nat × Instr × Nat) := [(4, .iload_n 2, 1), (5, .aload_n 0, 1), (6, .getfield 196, 3), (9, .if_icmp .ge 60, 3), (12, .iload_n 1, 1), (13, .aload_n 0, 1), (14, .getfield 22, 3), (17, .iconst 0, 1), (18, .iload_n 2, 1), (19, .iadd, 1), (20, .iaload, 1), (21, .aload_n 0, 1), (22, .getfield 22, 3), (25, .bipush 16, 2), (27, .iload_n 2, 1), (28, .iadd, 1), (29, .iaload, 1), (30, .if_icmp .ne 30, 3), (60, .iconst 0, 1), (61, .ior, 1), (62, .istore_n 1, 1), (63, .iinc 2 1, 3), (66, .goto (-62), 3), (33, .aload_n 0, 1), (34, .getfield 22, 3), (37, .bipush 8, 2), (39, .iload_n 2, 1), (40, .iadd, 1), (41, .iaload, 1), (42, .aload_n 0, 1), (43, .getfield 22, 3), (46, .bipush 24, 2), (48, .iload_n 2, 1), (49, .iadd, 1), (50, .iaload, 1), (51, .if_icmp .ne 9, 3), (54, .iconst 1, 1), (55, .iload_n 2, 1), (56, .ishl, 1), (57, .goto 4, 3), (0, .iconst 0, 1), (1, .istore_n 1, 1), (2, .iconst 0, 1), (3, .istore_n 2, 1), (69, .iload_n 1, 1), (70, .ireturn, 1)]
set_option maxRecDepth 100000 in
theorem dall_X8_stillOnes_30_md24_0 : dchk cX8_stillOnes dl_X8_stillOnes_30_md24_0 = true := by decide +kernel
theorem dX8_stillOnes_4 : decode cX8_stillOnes 4 = .ok (.iload_n 2, 1) := dchk_at dall_X8_stillOnes_30_md24_0 (k := 0) rfl
theorem dX8_stillOnes_5 : decode cX8_stillOnes 5 = .ok (.aload_n 0, 1) := dchk_at dall_X8_stillOnes_30_md24_0 (k := 1) rfl
theorem dX8_stillOnes_6 : decode cX8_stillOnes 6 = .ok (.getfield 196, 3) := dchk_at dall_X8_stillOnes_30_md24_0 (k := 2) rfl
theorem dX8_stillOnes_9 : decode cX8_stillOnes 9 = .ok (.if_icmp .ge 60, 3) := dchk_at dall_X8_stillOnes_30_md24_0 (k := 3) rfl
theorem dX8_stillOnes_12 : decode cX8_stillOnes 12 = .ok (.iload_n 1, 1) := dchk_at dall_X8_stillOnes_30_md24_0 (k := 4) rfl
theorem dX8_stillOnes_13 : decode cX8_stillOnes 13 = .ok (.aload_n 0, 1) := dchk_at dall_X8_stillOnes_30_md24_0 (k := 5) rfl
theorem dX8_stillOnes_14 : decode cX8_stillOnes 14 = .ok (.getfield 22, 3) := dchk_at dall_X8_stillOnes_30_md24_0 (k := 6) rfl
theorem dX8_stillOnes_17 : decode cX8_stillOnes 17 = .ok (.iconst 0, 1) := dchk_at dall_X8_stillOnes_30_md24_0 (k := 7) rfl
theorem dX8_stillOnes_18 : decode cX8_stillOnes 18 = .ok (.iload_n 2, 1) := dchk_at dall_X8_stillOnes_30_md24_0 (k := 8) rfl
theorem dX8_stillOnes_19 : decode cX8_stillOnes 19 = .ok (.iadd, 1) := dchk_at dall_X8_stillOnes_30_md24_0 (k := 9) rfl
theorem dX8_stillOnes_20 : decode cX8_stillOnes 20 = .ok (.iaload, 1) := dchk_at dall_X8_stillOnes_30_md24_0 (k := 10) rfl
theorem dX8_stillOnes_21 : decode cX8_stillOnes 21 = .ok (.aload_n 0, 1) := dchk_at dall_X8_stillOnes_30_md24_0 (k := 11) rfl
theorem dX8_stillOnes_22 : decode cX8_stillOnes 22 = .ok (.getfield 22, 3) := dchk_at dall_X8_stillOnes_30_md24_0 (k := 12) rfl
theorem dX8_stillOnes_25 : decode cX8_stillOnes 25 = .ok (.bipush 16, 2) := dchk_at dall_X8_stillOnes_30_md24_0 (k := 13) rfl
theorem dX8_stillOnes_27 : decode cX8_stillOnes 27 = .ok (.iload_n 2, 1) := dchk_at dall_X8_stillOnes_30_md24_0 (k := 14) rfl
theorem dX8_stillOnes_28 : decode cX8_stillOnes 28 = .ok (.iadd, 1) := dchk_at dall_X8_stillOnes_30_md24_0 (k := 15) rfl
theorem dX8_stillOnes_29 : decode cX8_stillOnes 29 = .ok (.iaload, 1) := dchk_at dall_X8_stillOnes_30_md24_0 (k := 16) rfl
theorem dX8_stillOnes_30 : decode cX8_stillOnes 30 = .ok (.if_icmp .ne 30, 3) := dchk_at dall_X8_stillOnes_30_md24_0 (k := 17) rfl
theorem dX8_stillOnes_60 : decode cX8_stillOnes 60 = .ok (.iconst 0, 1) := dchk_at dall_X8_stillOnes_30_md24_0 (k := 18) rfl
theorem dX8_stillOnes_61 : decode cX8_stillOnes 61 = .ok (.ior, 1) := dchk_at dall_X8_stillOnes_30_md24_0 (k := 19) rfl
theorem dX8_stillOnes_62 : decode cX8_stillOnes 62 = .ok (.istore_n 1, 1) := dchk_at dall_X8_stillOnes_30_md24_0 (k := 20) rfl
theorem dX8_stillOnes_63 : decode cX8_stillOnes 63 = .ok (.iinc 2 1, 3) := dchk_at dall_X8_stillOnes_30_md24_0 (k := 21) rfl
theorem dX8_stillOnes_66 : decode cX8_stillOnes 66 = .ok (.goto (-62), 3) := dchk_at dall_X8_stillOnes_30_md24_0 (k := 22) rfl
theorem dX8_stillOnes_33 : decode cX8_stillOnes 33 = .ok (.aload_n 0, 1) := dchk_at dall_X8_stillOnes_30_md24_0 (k := 23) rfl
theorem dX8_stillOnes_34 : decode cX8_stillOnes 34 = .ok (.getfield 22, 3) := dchk_at dall_X8_stillOnes_30_md24_0 (k := 24) rfl
theorem dX8_stillOnes_37 : decode cX8_stillOnes 37 = .ok (.bipush 8, 2) := dchk_at dall_X8_stillOnes_30_md24_0 (k := 25) rfl
theorem dX8_stillOnes_39 : decode cX8_stillOnes 39 = .ok (.iload_n 2, 1) := dchk_at dall_X8_stillOnes_30_md24_0 (k := 26) rfl
theorem dX8_stillOnes_40 : decode cX8_stillOnes 40 = .ok (.iadd, 1) := dchk_at dall_X8_stillOnes_30_md24_0 (k := 27) rfl
theorem dX8_stillOnes_41 : decode cX8_stillOnes 41 = .ok (.iaload, 1) := dchk_at dall_X8_stillOnes_30_md24_0 (k := 28) rfl
theorem dX8_stillOnes_42 : decode cX8_stillOnes 42 = .ok (.aload_n 0, 1) := dchk_at dall_X8_stillOnes_30_md24_0 (k := 29) rfl
theorem dX8_stillOnes_43 : decode cX8_stillOnes 43 = .ok (.getfield 22, 3) := dchk_at dall_X8_stillOnes_30_md24_0 (k := 30) rfl
theorem dX8_stillOnes_46 : decode cX8_stillOnes 46 = .ok (.bipush 24, 2) := dchk_at dall_X8_stillOnes_30_md24_0 (k := 31) rfl
theorem dX8_stillOnes_48 : decode cX8_stillOnes 48 = .ok (.iload_n 2, 1) := dchk_at dall_X8_stillOnes_30_md24_0 (k := 32) rfl
theorem dX8_stillOnes_49 : decode cX8_stillOnes 49 = .ok (.iadd, 1) := dchk_at dall_X8_stillOnes_30_md24_0 (k := 33) rfl
theorem dX8_stillOnes_50 : decode cX8_stillOnes 50 = .ok (.iaload, 1) := dchk_at dall_X8_stillOnes_30_md24_0 (k := 34) rfl
theorem dX8_stillOnes_51 : decode cX8_stillOnes 51 = .ok (.if_icmp .ne 9, 3) := dchk_at dall_X8_stillOnes_30_md24_0 (k := 35) rfl
theorem dX8_stillOnes_54 : decode cX8_stillOnes 54 = .ok (.iconst 1, 1) := dchk_at dall_X8_stillOnes_30_md24_0 (k := 36) rfl
theorem dX8_stillOnes_55 : decode cX8_stillOnes 55 = .ok (.iload_n 2, 1) := dchk_at dall_X8_stillOnes_30_md24_0 (k := 37) rfl
theorem dX8_stillOnes_56 : decode cX8_stillOnes 56 = .ok (.ishl, 1) := dchk_at dall_X8_stillOnes_30_md24_0 (k := 38) rfl
theorem dX8_stillOnes_57 : decode cX8_stillOnes 57 = .ok (.goto 4, 3) := dchk_at dall_X8_stillOnes_30_md24_0 (k := 39) rfl
theorem dX8_stillOnes_0 : decode cX8_stillOnes 0 = .ok (.iconst 0, 1) := dchk_at dall_X8_stillOnes_30_md24_0 (k := 40) rfl
theorem dX8_stillOnes_1 : decode cX8_stillOnes 1 = .ok (.istore_n 1, 1) := dchk_at dall_X8_stillOnes_30_md24_0 (k := 41) rfl
theorem dX8_stillOnes_2 : decode cX8_stillOnes 2 = .ok (.iconst 0, 1) := dchk_at dall_X8_stillOnes_30_md24_0 (k := 42) rfl
theorem dX8_stillOnes_3 : decode cX8_stillOnes 3 = .ok (.istore_n 2, 1) := dchk_at dall_X8_stillOnes_30_md24_0 (k := 43) rfl
theorem dX8_stillOnes_69 : decode cX8_stillOnes 69 = .ok (.iload_n 1, 1) := dchk_at dall_X8_stillOnes_30_md24_0 (k := 44) rfl
theorem dX8_stillOnes_70 : decode cX8_stillOnes 70 = .ok (.ireturn, 1) := dchk_at dall_X8_stillOnes_30_md24_0 (k := 45) rfl
def B_X8_limit_36 (K : Nat) (p1 : Int32) (p2 : Int32) (p3 : Int32) (c_sites : Int32) (x4 : Int32) (x5 : Int32) (c_now : Nat → Int32) : Option ((Int32 × Int32 × (Nat → Int32)) ⊕ (Int32 × (Nat → Int32))) :=
  if x5 = (0 : Int32) then some (.inr (x4, c_now)) else if (200 : Int32) ≤ x4 then some (.inr (x4, c_now)) else ixF ((0 : Int32) + p1) 265 (ixF ((0 : Int32) + p1) 265 (nmF (upd c_now ((0 : Int32) + p1).toNatClampNeg ((c_now ((0 : Int32) + p1).toNatClampNeg) + p2)) (fun f_19 => ixF ((8 : Int32) + p1) 265 (ixF ((8 : Int32) + p1) 265 (nmF (upd f_19 ((8 : Int32) + p1).toNatClampNeg ((f_19 ((8 : Int32) + p1).toNatClampNeg) + p3)) (fun f_22 => bd1 (F_X8_canStand p1 f_22) (fun r_23 => if r_23 = (0 : Int32) then some (.inl (x4 + (1 : Int32), (0 : Int32), f_22)) else bd1 (F_X8_isQuiet K p1 f_22 c_sites) (fun r_27 => if r_27 = (0 : Int32) then some (.inl (x4 + (1 : Int32), (0 : Int32), f_22)) else some (.inl (x4 + (1 : Int32), (1 : Int32), f_22))))))))))
def F_X8_limit (K : Nat) (p1 : Int32) (p2 : Int32) (p3 : Int32) (c_now : Nat → Int32) (c_sites : Int32) (c_aside : Nat → Int32) : Option (Int32 × (Nat → Int32) × (Nat → Int32)) :=
  bd1 (F_X8_isSite p1 c_sites) (fun r_1 => if r_1 = (0 : Int32) then some ((-1 : Int32), c_now, c_aside) else bd1 (F_X8_isWay p2 p3) (fun r_5 => if r_5 = (0 : Int32) then some ((-1 : Int32), c_now, c_aside) else bd1 (F_X8_isFrozen p1 c_now) (fun r_9 => if r_9 = (0 : Int32) then bd1 (F_X8_putAside K c_now c_aside) (fun w_13 => bd2 (lpF (fun u9 : Int32 × Int32 × (Nat → Int32) => B_X8_limit_36 K p1 p2 p3 c_sites u9.1 u9.2.1 u9.2.2) K ((-1 : Int32), (1 : Int32), c_now)) (fun x4_31 c_now_32 => bd1 (F_X8_bringBack K c_now_32 w_13) (fun w_34 => some (x4_31, w_34, w_13)))) else some ((-1 : Int32), c_now, c_aside))))
abbrev w_X8_limit (E : EE) (a_ a_tape a_readPlace a_script a_scriptLong a_now a_refused a_shareX a_shareY a_askedRow a_kept a_aside a_spelled a_image : Nat) (c_thrown : Int32) (c_taped : Int32) (c_at : Int32) (c_part : Int32) (c_partFrom : Int32) (c_partNumber : Int32) (c_wrong : Int32) (c_partWord : Int64) (c_readLaw : Int32) (c_readBound : Int32) (c_readGoal : Int32) (c_readSites : Int32) (c_scripts : Int32) (c_sites : Int32) (c_asked : Int32) (c_outcome : Int32) (c_took : Int32) (c_acts : Int32) (c_drawn : Int64) (c_racer : Int32) (c_raced : Int32) (c_spelledMany : Int32) (c_hasImage : Int32) (c_now : Nat → Int32) (c_aside : Nat → Int32) : va_W := [(a_, .inr (9, [.int c_thrown, .ref a_tape, .int c_taped, .int c_at, .int c_part, .int c_partFrom, .int c_partNumber, .int c_wrong, .long c_partWord, .int c_readLaw, .int c_readBound, .int c_readGoal, .int c_readSites, .ref a_readPlace, .ref a_script, .ref a_scriptLong, .int c_scripts, .ref a_now, .ref a_refused, .int c_sites, .ref a_shareX, .ref a_shareY, .int c_asked, .int c_outcome, .ref a_askedRow, .int c_took, .ref a_kept, .int c_acts, .long c_drawn, .ref a_aside, .int c_racer, .int c_raced, .ref a_spelled, .int c_spelledMany, .ref a_image, .int c_hasImage])), (a_now, .inl (E.2.1, 265, .inl c_now)), (a_aside, .inl (E.2.1, 84, .inl c_aside))]
def v_f_X8_limit : List Cond := List.cons (.code yX8_limit cX8_limit 6 (some .int)) (HAppend.hAppend (α := List Cond) (β := List Cond) (γ := List Cond) [.fieldLink RX8 22 "HushWatchModel" "now" "[I", .methodLink RX8 278 yX8_isSite, .instanceMethod yX8_isSite, .selects RX8 yX8_isSite yX8_isSite, .initialized RX8, .methodLink RX8 387 yX8_isWay, .static yX8_isWay, .methodLink RX8 257 yX8_isFrozen, .instanceMethod yX8_isFrozen, .selects RX8 yX8_isFrozen yX8_isFrozen, .methodLink RX8 390 yX8_putAside, .instanceMethod yX8_putAside, .selects RX8 yX8_putAside yX8_putAside, .methodLink RX8 393 yX8_canStand, .instanceMethod yX8_canStand, .selects RX8 yX8_canStand yX8_canStand, .methodLink RX8 254 yX8_isQuiet, .instanceMethod yX8_isQuiet, .selects RX8 yX8_isQuiet yX8_isQuiet, .methodLink RX8 396 yX8_bringBack, .instanceMethod yX8_bringBack, .selects RX8 yX8_bringBack yX8_bringBack] (HAppend.hAppend (α := List Cond) (β := List Cond) (γ := List Cond) v_f_X8_isSite (HAppend.hAppend (α := List Cond) (β := List Cond) (γ := List Cond) v_f_X8_isWay (HAppend.hAppend (α := List Cond) (β := List Cond) (γ := List Cond) v_f_X8_isFrozen (HAppend.hAppend (α := List Cond) (β := List Cond) (γ := List Cond) v_f_X8_putAside (HAppend.hAppend (α := List Cond) (β := List Cond) (γ := List Cond) wsX80 (HAppend.hAppend (α := List Cond) (β := List Cond) (γ := List Cond) v_f_X8_canStand (HAppend.hAppend (α := List Cond) (β := List Cond) (γ := List Cond) v_f_X8_isQuiet (HAppend.hAppend (α := List Cond) (β := List Cond) (γ := List Cond) v_f_X8_bringBack [])))))))))
theorem gw_f_X8_limit : v_f_X8_limit.all goodWord = true := by decide +kernel
theorem i_f_X8_limit_X8 : ∀ w ∈ wsX80, w ∈ v_f_X8_limit := fun _ h => List.mem_cons_of_mem _ (List.mem_append_right _ (List.mem_append_right _ (List.mem_append_right _ (List.mem_append_right _ (List.mem_append_right _ (List.mem_append_left _ h))))))
theorem g_f_X8_limit_f_X8_isSite_278 : GoodIn v_f_X8_limit (wsV RX8 278 RX8 yX8_isSite v_f_X8_isSite) := goodIn_app (goodIn_of _ (by decide +kernel)) (goodIn_sub (fun _ h => List.mem_cons_of_mem _ (List.mem_append_right _ (List.mem_append_left _ h))) gw_f_X8_isSite)
theorem g_f_X8_limit_f_X8_isWay_387 : GoodIn v_f_X8_limit (va_wsS RX8 387 yX8_isWay v_f_X8_isWay) := goodIn_app (goodIn_of _ (by decide +kernel)) (goodIn_sub (fun _ h => List.mem_cons_of_mem _ (List.mem_append_right _ (List.mem_append_right _ (List.mem_append_left _ h)))) gw_f_X8_isWay)
theorem g_f_X8_limit_f_X8_isFrozen_257 : GoodIn v_f_X8_limit (wsV RX8 257 RX8 yX8_isFrozen v_f_X8_isFrozen) := goodIn_app (goodIn_of _ (by decide +kernel)) (goodIn_sub (fun _ h => List.mem_cons_of_mem _ (List.mem_append_right _ (List.mem_append_right _ (List.mem_append_right _ (List.mem_append_left _ h))))) gw_f_X8_isFrozen)
theorem g_f_X8_limit_f_X8_putAside_390 : GoodIn v_f_X8_limit (wsV RX8 390 RX8 yX8_putAside v_f_X8_putAside) := goodIn_app (goodIn_of _ (by decide +kernel)) (goodIn_sub (fun _ h => List.mem_cons_of_mem _ (List.mem_append_right _ (List.mem_append_right _ (List.mem_append_right _ (List.mem_append_right _ (List.mem_append_left _ h)))))) gw_f_X8_putAside)
theorem g_f_X8_limit_f_X8_canStand_393 : GoodIn v_f_X8_limit (wsV RX8 393 RX8 yX8_canStand v_f_X8_canStand) := goodIn_app (goodIn_of _ (by decide +kernel)) (goodIn_sub (fun _ h => List.mem_cons_of_mem _ (List.mem_append_right _ (List.mem_append_right _ (List.mem_append_right _ (List.mem_append_right _ (List.mem_append_right _ (List.mem_append_right _ (List.mem_append_left _ h)))))))) gw_f_X8_canStand)
theorem g_f_X8_limit_f_X8_isQuiet_254 : GoodIn v_f_X8_limit (wsV RX8 254 RX8 yX8_isQuiet v_f_X8_isQuiet) := goodIn_app (goodIn_of _ (by decide +kernel)) (goodIn_sub (fun _ h => List.mem_cons_of_mem _ (List.mem_append_right _ (List.mem_append_right _ (List.mem_append_right _ (List.mem_append_right _ (List.mem_append_right _ (List.mem_append_right _ (List.mem_append_right _ (List.mem_append_left _ h))))))))) gw_f_X8_isQuiet)
theorem g_f_X8_limit_f_X8_bringBack_396 : GoodIn v_f_X8_limit (wsV RX8 396 RX8 yX8_bringBack v_f_X8_bringBack) := goodIn_app (goodIn_of _ (by decide +kernel)) (goodIn_sub (fun _ h => List.mem_cons_of_mem _ (List.mem_append_right _ (List.mem_append_right _ (List.mem_append_right _ (List.mem_append_right _ (List.mem_append_right _ (List.mem_append_right _ (List.mem_append_right _ (List.mem_append_right _ (List.mem_append_left _ h)))))))))) gw_f_X8_bringBack)
theorem hd_X8_limit : yX8_limit.cls = RX8 ∧ yX8_limit.cls ≠ "java/lang/invoke/MethodHandle" ∧ yX8_limit.cls ≠ "java/lang/invoke/VarHandle" ∧ (parseMethodDescriptor yX8_limit.desc).map (fun d => d.parameters.length) = some 3 := by decide +kernel
set_option maxHeartbeats 4000000 in
set_option maxRecDepth 100000 in
theorem wb_X8_limit_36 {p : Program} (l : Launch) {e : Env} {s : State} {m : MethodId} {below : List Frame} {meth : Method} {c : Code} {Q : State → Prop} (E : EE) (K : Nat) {a_ a_tape a_readPlace a_script a_scriptLong a_now a_refused a_shareX a_shareY a_askedRow a_kept a_aside a_spelled a_image : Nat} {p1 : Int32} {p2 : Int32} {p3 : Int32} {c_thrown : Int32} {c_taped : Int32} {c_at : Int32} {c_part : Int32} {c_partFrom : Int32} {c_partNumber : Int32} {c_wrong : Int32} {c_partWord : Int64} {c_readLaw : Int32} {c_readBound : Int32} {c_readGoal : Int32} {c_readSites : Int32} {c_scripts : Int32} {c_sites : Int32} {c_asked : Int32} {c_outcome : Int32} {c_took : Int32} {c_acts : Int32} {c_drawn : Int64} {c_racer : Int32} {c_raced : Int32} {c_spelledMany : Int32} {c_hasImage : Int32} {x4 : Int32} {x5 : Int32} {c_now : Nat → Int32} {c_aside : Nat → Int32} (hx : p.tables.exec = Jvm.exec) (hb : c.code = cX8_limit) (hml : c.maxLocals = 6) (hown : s.vm.findClass RX8 = some m.cls) (hts : ∀ w ∈ v_f_X8_limit, w.before #[Value.ref a_, Value.int p1, Value.int p2, Value.int p3] s = true) (hK : va_K E.1 vwCl (TY E) s) (hN : NX s) {A : Nat → Prop} (hA : ∀ q : Nat, s.heap.size ≤ q → A q) {xx : (Int32 × Int32 × (Nat → Int32)) ⊕ (Int32 × (Nat → Int32))} (hC : ∀ (x4 : Int32), ∀ (x5 : Int32), ∀ (c_now : Nat → Int32), xx = .inl (x4, x5, c_now) → ∀ (H : Heap) (locs : List Loc) (ls : Array Slot), va_P E.1 vwCl (w_X8_limit E a_ a_tape a_readPlace a_script a_scriptLong a_now a_refused a_shareX a_shareY a_askedRow a_kept a_aside a_spelled a_image c_thrown c_taped c_at c_part c_partFrom c_partNumber c_wrong c_partWord c_readLaw c_readBound c_readGoal c_readSites c_scripts c_sites c_asked c_outcome c_took c_acts c_drawn c_racer c_raced c_spelledMany c_hasImage c_now c_aside) H → va_D A (w_X8_limit E a_ a_tape a_readPlace a_script a_scriptLong a_now a_refused a_shareX a_shareY a_askedRow a_kept a_aside a_spelled a_image c_thrown c_taped c_at c_part c_partFrom c_partNumber c_wrong c_partWord c_readLaw c_readBound c_readGoal c_readSites c_scripts c_sites c_asked c_outcome c_took c_acts c_drawn c_racer c_raced c_spelledMany c_hasImage c_now c_aside) → va_S A s.heap H locs → lv_has ls 6 [(0, .ref a_), (1, .int p1), (2, .int p2), (3, .int p3), (4, .int x4), (5, .int x5)] → W p l e ({ frames := 4, cells := 0, slots := 0, locals := 93 } : Room) s m #[Value.ref a_, Value.int p1, Value.int p2, Value.int p3] below meth c H locs 0 0 Q (F0 m 36 ls [])) (hE : ∀ (x4 : Int32), ∀ (c_now : Nat → Int32), xx = .inr (x4, c_now) → ((∀ (H : Heap) (locs : List Loc) (ls : Array Slot), va_P E.1 vwCl (w_X8_limit E a_ a_tape a_readPlace a_script a_scriptLong a_now a_refused a_shareX a_shareY a_askedRow a_kept a_aside a_spelled a_image c_thrown c_taped c_at c_part c_partFrom c_partNumber c_wrong c_partWord c_readLaw c_readBound c_readGoal c_readSites c_scripts c_sites c_asked c_outcome c_took c_acts c_drawn c_racer c_raced c_spelledMany c_hasImage c_now c_aside) H → va_D A (w_X8_limit E a_ a_tape a_readPlace a_script a_scriptLong a_now a_refused a_shareX a_shareY a_askedRow a_kept a_aside a_spelled a_image c_thrown c_taped c_at c_part c_partFrom c_partNumber c_wrong c_partWord c_readLaw c_readBound c_readGoal c_readSites c_scripts c_sites c_asked c_outcome c_took c_acts c_drawn c_racer c_raced c_spelledMany c_hasImage c_now c_aside) → va_S A s.heap H locs → lv_has ls 6 [(0, .ref a_), (4, .int x4)] → W p l e ({ frames := 4, cells := 0, slots := 0, locals := 93 } : Room) s m #[Value.ref a_, Value.int p1, Value.int p2, Value.int p3] below meth c H locs 0 0 Q (F0 m 103 ls [])))) (hF : B_X8_limit_36 K p1 p2 p3 c_sites x4 x5 c_now = some xx) : ∀ (H : Heap) (locs : List Loc) (ls : Array Slot), va_P E.1 vwCl (w_X8_limit E a_ a_tape a_readPlace a_script a_scriptLong a_now a_refused a_shareX a_shareY a_askedRow a_kept a_aside a_spelled a_image c_thrown c_taped c_at c_part c_partFrom c_partNumber c_wrong c_partWord c_readLaw c_readBound c_readGoal c_readSites c_scripts c_sites c_asked c_outcome c_took c_acts c_drawn c_racer c_raced c_spelledMany c_hasImage c_now c_aside) H → va_D A (w_X8_limit E a_ a_tape a_readPlace a_script a_scriptLong a_now a_refused a_shareX a_shareY a_askedRow a_kept a_aside a_spelled a_image c_thrown c_taped c_at c_part c_partFrom c_partNumber c_wrong c_partWord c_readLaw c_readBound c_readGoal c_readSites c_scripts c_sites c_asked c_outcome c_took c_acts c_drawn c_racer c_raced c_spelledMany c_hasImage c_now c_aside) → va_S A s.heap H locs → lv_has ls 6 [(0, .ref a_), (1, .int p1), (2, .int p2), (3, .int p3), (4, .int x4), (5, .int x5)] → W p l e ({ frames := 4, cells := 0, slots := 0, locals := 93 } : Room) s m #[Value.ref a_, Value.int p1, Value.int p2, Value.int p3] below meth c H locs 0 0 Q (F0 m 36 ls []) := by
  unfold B_X8_limit_36 at hF
  intro H locs ls hP hD hS hl
  replace hP : va_P E.1 vwCl [(a_, .inr (9, [.int c_thrown, .ref a_tape, .int c_taped, .int c_at, .int c_part, .int c_partFrom, .int c_partNumber, .int c_wrong, .long c_partWord, .int c_readLaw, .int c_readBound, .int c_readGoal, .int c_readSites, .ref a_readPlace, .ref a_script, .ref a_scriptLong, .int c_scripts, .ref a_now, .ref a_refused, .int c_sites, .ref a_shareX, .ref a_shareY, .int c_asked, .int c_outcome, .ref a_askedRow, .int c_took, .ref a_kept, .int c_acts, .long c_drawn, .ref a_aside, .int c_racer, .int c_raced, .ref a_spelled, .int c_spelledMany, .ref a_image, .int c_hasImage])), (a_now, .inl (E.2.1, 265, .inl c_now)), (a_aside, .inl (E.2.1, 84, .inl c_aside))] H := hP
  replace hD : va_D A [(a_, .inr (9, [.int c_thrown, .ref a_tape, .int c_taped, .int c_at, .int c_part, .int c_partFrom, .int c_partNumber, .int c_wrong, .long c_partWord, .int c_readLaw, .int c_readBound, .int c_readGoal, .int c_readSites, .ref a_readPlace, .ref a_script, .ref a_scriptLong, .int c_scripts, .ref a_now, .ref a_refused, .int c_sites, .ref a_shareX, .ref a_shareY, .int c_asked, .int c_outcome, .ref a_askedRow, .int c_took, .ref a_kept, .int c_acts, .long c_drawn, .ref a_aside, .int c_racer, .int c_raced, .ref a_spelled, .int c_spelledMany, .ref a_image, .int c_hasImage])), (a_now, .inl (E.2.1, 265, .inl c_now)), (a_aside, .inl (E.2.1, 84, .inl c_aside))] := hD
  refine lv_iload hx hb dX8_limit_36 (lv_at hl 5 rfl) ?_
  refine lv_if_eq (tgt := 103) hx hb dX8_limit_38 (by decide) (fun c_15 => ?_) (fun c_15 => ?_)
  ·
    replace hF := ip c_15 hF
    cases hF
    exact hE x4 c_now rfl H locs ls (hP.sub [0, 1, 2] rfl) (hD.sub [0, 1, 2] (by decide) rfl) hS (lv_sub hl [0, 4] rfl)
  ·
    replace hF := inn c_15 hF
    refine lv_iload hx hb dX8_limit_41 (lv_at hl 4 rfl) ?_
    refine lv_sipush (v := 200) hx hb dX8_limit_43 (by decide) ?_
    refine lv_icmp_ge (tgt := 103) hx hb dX8_limit_46 (by decide) (fun c_16 => ?_) (fun c_16 => ?_)
    ·
      replace hF := ip c_16 hF
      cases hF
      exact hE x4 c_now rfl H locs ls (hP.sub [0, 1, 2] rfl) (hD.sub [0, 1, 2] (by decide) rfl) hS (lv_sub hl [0, 4] rfl)
    ·
      replace hF := inn c_16 hF
      refine lv_iinc (v := x4 + (1 : Int32)) (lv' := [(4, .int (x4 + (1 : Int32))), (0, .ref a_), (1, .int p1), (2, .int p2), (3, .int p3), (5, .int x5)]) hx hb dX8_limit_49 hl (k := 4) rfl (rfl) (by decide) rfl (fun ls hl => ?_)
      refine lv_aload_n hx hb dX8_limit_52 rfl (lv_at hl 1 rfl) ?_
      refine gt_X8_17 (v := .ref a_now) hx hb hts i_f_X8_limit_X8 hown hK hP 0 rfl (hts (.fieldLink RX8 22 "HushWatchModel" "now" "[I") (List.mem_of_getElem? (i := 1) rfl)) rfl dX8_limit_53 ?_
      refine lv_iconst (v := 0) hx hb dX8_limit_56 (by decide) ?_
      refine lv_iload_n hx hb dX8_limit_57 rfl (lv_at hl 2 rfl) ?_
      refine lv_iadd hx hb dX8_limit_58 ?_
      refine lv_dup2_11 hx hb dX8_limit_59 rfl rfl ?_
      replace hF := ix_s hF
      obtain ⟨hi_17, hF⟩ := hF
      refine va_iald hx hb hK hP 1 0 rfl rfl hi_17 dX8_limit_60 ?_
      refine lv_iload_n hx hb dX8_limit_61 rfl (lv_at hl 3 rfl) ?_
      refine lv_iadd hx hb dX8_limit_62 ?_
      replace hF := ix_s hF
      obtain ⟨hi_18, hF⟩ := hF
      refine va_iast hx hb hK hP hD hS 1 0 rfl rfl hi_18 dX8_limit_63 (fun H locs hP hD hS => ?_)
      replace hP : va_P E.1 vwCl [(a_, .inr (9, [.int c_thrown, .ref a_tape, .int c_taped, .int c_at, .int c_part, .int c_partFrom, .int c_partNumber, .int c_wrong, .long c_partWord, .int c_readLaw, .int c_readBound, .int c_readGoal, .int c_readSites, .ref a_readPlace, .ref a_script, .ref a_scriptLong, .int c_scripts, .ref a_now, .ref a_refused, .int c_sites, .ref a_shareX, .ref a_shareY, .int c_asked, .int c_outcome, .ref a_askedRow, .int c_took, .ref a_kept, .int c_acts, .long c_drawn, .ref a_aside, .int c_racer, .int c_raced, .ref a_spelled, .int c_spelledMany, .ref a_image, .int c_hasImage])), (a_now, .inl (E.2.1, 265, .inl (upd c_now ((0 : Int32) + p1).toNatClampNeg ((c_now ((0 : Int32) + p1).toNatClampNeg) + p2)))), (a_aside, .inl (E.2.1, 84, .inl c_aside))] H := hP
      replace hD : va_D A [(a_, .inr (9, [.int c_thrown, .ref a_tape, .int c_taped, .int c_at, .int c_part, .int c_partFrom, .int c_partNumber, .int c_wrong, .long c_partWord, .int c_readLaw, .int c_readBound, .int c_readGoal, .int c_readSites, .ref a_readPlace, .ref a_script, .ref a_scriptLong, .int c_scripts, .ref a_now, .ref a_refused, .int c_sites, .ref a_shareX, .ref a_shareY, .int c_asked, .int c_outcome, .ref a_askedRow, .int c_took, .ref a_kept, .int c_acts, .long c_drawn, .ref a_aside, .int c_racer, .int c_raced, .ref a_spelled, .int c_spelledMany, .ref a_image, .int c_hasImage])), (a_now, .inl (E.2.1, 265, .inl (upd c_now ((0 : Int32) + p1).toNatClampNeg ((c_now ((0 : Int32) + p1).toNatClampNeg) + p2)))), (a_aside, .inl (E.2.1, 84, .inl c_aside))] := hD
      replace hF := nm_s hF
      obtain ⟨f_19, hf_19, hF⟩ := hF
      rw [← hf_19] at hP hD
      refine lv_aload_n hx hb dX8_limit_64 rfl (lv_at hl 1 rfl) ?_
      refine gt_X8_17 (v := .ref a_now) hx hb hts i_f_X8_limit_X8 hown hK hP 0 rfl (hts (.fieldLink RX8 22 "HushWatchModel" "now" "[I") (List.mem_of_getElem? (i := 1) rfl)) rfl dX8_limit_65 ?_
      refine lv_bipush (v := 8) hx hb dX8_limit_68 (by decide) ?_
      refine lv_iload_n hx hb dX8_limit_70 rfl (lv_at hl 2 rfl) ?_
      refine lv_iadd hx hb dX8_limit_71 ?_
      refine lv_dup2_11 hx hb dX8_limit_72 rfl rfl ?_
      replace hF := ix_s hF
      obtain ⟨hi_20, hF⟩ := hF
      refine va_iald hx hb hK hP 1 0 rfl rfl hi_20 dX8_limit_73 ?_
      refine lv_iload_n hx hb dX8_limit_74 rfl (lv_at hl 4 rfl) ?_
      refine lv_iadd hx hb dX8_limit_75 ?_
      replace hF := ix_s hF
      obtain ⟨hi_21, hF⟩ := hF
      refine va_iast hx hb hK hP hD hS 1 0 rfl rfl hi_21 dX8_limit_76 (fun H locs hP hD hS => ?_)
      replace hP : va_P E.1 vwCl [(a_, .inr (9, [.int c_thrown, .ref a_tape, .int c_taped, .int c_at, .int c_part, .int c_partFrom, .int c_partNumber, .int c_wrong, .long c_partWord, .int c_readLaw, .int c_readBound, .int c_readGoal, .int c_readSites, .ref a_readPlace, .ref a_script, .ref a_scriptLong, .int c_scripts, .ref a_now, .ref a_refused, .int c_sites, .ref a_shareX, .ref a_shareY, .int c_asked, .int c_outcome, .ref a_askedRow, .int c_took, .ref a_kept, .int c_acts, .long c_drawn, .ref a_aside, .int c_racer, .int c_raced, .ref a_spelled, .int c_spelledMany, .ref a_image, .int c_hasImage])), (a_now, .inl (E.2.1, 265, .inl (upd f_19 ((8 : Int32) + p1).toNatClampNeg ((f_19 ((8 : Int32) + p1).toNatClampNeg) + p3)))), (a_aside, .inl (E.2.1, 84, .inl c_aside))] H := hP
      replace hD : va_D A [(a_, .inr (9, [.int c_thrown, .ref a_tape, .int c_taped, .int c_at, .int c_part, .int c_partFrom, .int c_partNumber, .int c_wrong, .long c_partWord, .int c_readLaw, .int c_readBound, .int c_readGoal, .int c_readSites, .ref a_readPlace, .ref a_script, .ref a_scriptLong, .int c_scripts, .ref a_now, .ref a_refused, .int c_sites, .ref a_shareX, .ref a_shareY, .int c_asked, .int c_outcome, .ref a_askedRow, .int c_took, .ref a_kept, .int c_acts, .long c_drawn, .ref a_aside, .int c_racer, .int c_raced, .ref a_spelled, .int c_spelledMany, .ref a_image, .int c_hasImage])), (a_now, .inl (E.2.1, 265, .inl (upd f_19 ((8 : Int32) + p1).toNatClampNeg ((f_19 ((8 : Int32) + p1).toNatClampNeg) + p3)))), (a_aside, .inl (E.2.1, 84, .inl c_aside))] := hD
      replace hF := nm_s hF
      obtain ⟨f_22, hf_22, hF⟩ := hF
      rw [← hf_22] at hP hD
      refine lv_aload_n hx hb dX8_limit_77 rfl (lv_at hl 1 rfl) ?_
      refine lv_iload_n hx hb dX8_limit_78 rfl (lv_at hl 2 rfl) ?_
      replace hF := bd1_s hF
      obtain ⟨r_23, hc_24, hF⟩ := hF
      have hPc : va_P E.1 vwCl (w_X8_canStand E a_ a_tape a_readPlace a_script a_scriptLong a_now a_refused a_shareX a_shareY a_askedRow a_kept a_aside a_spelled a_image c_thrown c_taped c_at c_part c_partFrom c_partNumber c_wrong c_partWord c_readLaw c_readBound c_readGoal c_readSites c_scripts c_sites c_asked c_outcome c_took c_acts c_drawn c_racer c_raced c_spelledMany c_hasImage f_22) H := hP.sub (ws' := [(a_, .inr (9, [.int c_thrown, .ref a_tape, .int c_taped, .int c_at, .int c_part, .int c_partFrom, .int c_partNumber, .int c_wrong, .long c_partWord, .int c_readLaw, .int c_readBound, .int c_readGoal, .int c_readSites, .ref a_readPlace, .ref a_script, .ref a_scriptLong, .int c_scripts, .ref a_now, .ref a_refused, .int c_sites, .ref a_shareX, .ref a_shareY, .int c_asked, .int c_outcome, .ref a_askedRow, .int c_took, .ref a_kept, .int c_acts, .long c_drawn, .ref a_aside, .int c_racer, .int c_raced, .ref a_spelled, .int c_spelledMany, .ref a_image, .int c_hasImage])), (a_now, .inl (E.2.1, 265, .inl f_22))]) [0, 1] rfl
      have hrc := va_recv hK hPc (ci := 9) (q0 := 0) rfl rfl
      refine pE_z (va_runV (As := [.int p1]) (rest := [])  ⟨hx, hb, hml, hown, hts⟩ (f_X8_canStand l E (a_ := a_) (a_tape := a_tape) (a_readPlace := a_readPlace) (a_script := a_script) (a_scriptLong := a_scriptLong) (a_now := a_now) (a_refused := a_refused) (a_shareX := a_shareX) (a_shareY := a_shareY) (a_askedRow := a_askedRow) (a_kept := a_kept) (a_aside := a_aside) (a_spelled := a_spelled) (a_image := a_image) (p1 := p1) (c_thrown := c_thrown) (c_taped := c_taped) (c_at := c_at) (c_part := c_part) (c_partFrom := c_partFrom) (c_partNumber := c_partNumber) (c_wrong := c_wrong) (c_partWord := c_partWord) (c_readLaw := c_readLaw) (c_readBound := c_readBound) (c_readGoal := c_readGoal) (c_readSites := c_readSites) (c_scripts := c_scripts) (c_sites := c_sites) (c_asked := c_asked) (c_outcome := c_outcome) (c_took := c_took) (c_acts := c_acts) (c_drawn := c_drawn) (c_racer := c_racer) (c_raced := c_raced) (c_spelledMany := c_spelledMany) (c_hasImage := c_hasImage) (c_now := f_22) hc_24) (cwV 1 hts g_f_X8_limit_f_X8_canStand_393 rfl rfl rfl hd_X8_canStand ⟨Nat.le_of_ble_eq_true rfl, Nat.le_of_ble_eq_true rfl⟩) ⟨pP.blind, hrc, (pP.pre ⟨hK, hN⟩ hPc)⟩ rfl rfl hl.1 rfl (lv_room (Nat.le_of_ble_eq_true rfl)) dX8_limit_79 ⟨Nat.le_of_ble_eq_true rfl, Nat.le_of_ble_eq_true rfl⟩) (fun hb_25 => ?_)
      refine lv_if_eq (tgt := 97) hx hb dX8_limit_82 (by decide) (fun c_26 => ?_) (fun c_26 => ?_)
      ·
        replace hF := ip c_26 hF
        refine lv_iconst (v := 0) hx hb dX8_limit_97 (by decide) ?_
        refine lv_istore (lv' := [(5, .int (0 : Int32)), (4, .int (x4 + (1 : Int32))), (0, .ref a_), (1, .int p1), (2, .int p2), (3, .int p3)]) hx hb dX8_limit_98 hl (by decide) rfl (fun ls hl => ?_)
        refine lv_goto (tgt := 36) hx hb dX8_limit_100 (by decide) ?_
        cases hF
        exact hC (x4 + (1 : Int32)) (0 : Int32) f_22 rfl H locs ls (hP.sub [0, 1, 2] rfl) (hD.sub [0, 1, 2] (by decide) rfl) hS (lv_sub hl [2, 3, 4, 5, 1, 0] rfl)
      ·
        replace hF := inn c_26 hF
        refine lv_aload_n hx hb dX8_limit_85 rfl (lv_at hl 1 rfl) ?_
        refine lv_iload_n hx hb dX8_limit_86 rfl (lv_at hl 2 rfl) ?_
        replace hF := bd1_s hF
        obtain ⟨r_27, hc_28, hF⟩ := hF
        have hPc : va_P E.1 vwCl (w_X8_isQuiet E a_ a_tape a_readPlace a_script a_scriptLong a_now a_refused a_shareX a_shareY a_askedRow a_kept a_aside a_spelled a_image c_thrown c_taped c_at c_part c_partFrom c_partNumber c_wrong c_partWord c_readLaw c_readBound c_readGoal c_readSites c_scripts c_sites c_asked c_outcome c_took c_acts c_drawn c_racer c_raced c_spelledMany c_hasImage f_22) H := hP.sub (ws' := [(a_, .inr (9, [.int c_thrown, .ref a_tape, .int c_taped, .int c_at, .int c_part, .int c_partFrom, .int c_partNumber, .int c_wrong, .long c_partWord, .int c_readLaw, .int c_readBound, .int c_readGoal, .int c_readSites, .ref a_readPlace, .ref a_script, .ref a_scriptLong, .int c_scripts, .ref a_now, .ref a_refused, .int c_sites, .ref a_shareX, .ref a_shareY, .int c_asked, .int c_outcome, .ref a_askedRow, .int c_took, .ref a_kept, .int c_acts, .long c_drawn, .ref a_aside, .int c_racer, .int c_raced, .ref a_spelled, .int c_spelledMany, .ref a_image, .int c_hasImage])), (a_now, .inl (E.2.1, 265, .inl f_22))]) [0, 1] rfl
        have hrc := va_recv hK hPc (ci := 9) (q0 := 0) rfl rfl
        refine pE_z (va_runV (As := [.int p1]) (rest := [])  ⟨hx, hb, hml, hown, hts⟩ (f_X8_isQuiet l E K (a_ := a_) (a_tape := a_tape) (a_readPlace := a_readPlace) (a_script := a_script) (a_scriptLong := a_scriptLong) (a_now := a_now) (a_refused := a_refused) (a_shareX := a_shareX) (a_shareY := a_shareY) (a_askedRow := a_askedRow) (a_kept := a_kept) (a_aside := a_aside) (a_spelled := a_spelled) (a_image := a_image) (p1 := p1) (c_thrown := c_thrown) (c_taped := c_taped) (c_at := c_at) (c_part := c_part) (c_partFrom := c_partFrom) (c_partNumber := c_partNumber) (c_wrong := c_wrong) (c_partWord := c_partWord) (c_readLaw := c_readLaw) (c_readBound := c_readBound) (c_readGoal := c_readGoal) (c_readSites := c_readSites) (c_scripts := c_scripts) (c_sites := c_sites) (c_asked := c_asked) (c_outcome := c_outcome) (c_took := c_took) (c_acts := c_acts) (c_drawn := c_drawn) (c_racer := c_racer) (c_raced := c_raced) (c_spelledMany := c_spelledMany) (c_hasImage := c_hasImage) (c_now := f_22) hc_28) (cwV 1 hts g_f_X8_limit_f_X8_isQuiet_254 rfl rfl rfl hd_X8_isQuiet ⟨Nat.le_of_ble_eq_true rfl, Nat.le_of_ble_eq_true rfl⟩) ⟨pP.blind, hrc, (pP.pre ⟨hK, hN⟩ hPc)⟩ rfl rfl hl.1 rfl (lv_room (Nat.le_of_ble_eq_true rfl)) dX8_limit_87 ⟨Nat.le_of_ble_eq_true rfl, Nat.le_of_ble_eq_true rfl⟩) (fun hb_29 => ?_)
        refine lv_if_eq (tgt := 97) hx hb dX8_limit_90 (by decide) (fun c_30 => ?_) (fun c_30 => ?_)
        ·
          replace hF := ip c_30 hF
          refine lv_iconst (v := 0) hx hb dX8_limit_97 (by decide) ?_
          refine lv_istore (lv' := [(5, .int (0 : Int32)), (4, .int (x4 + (1 : Int32))), (0, .ref a_), (1, .int p1), (2, .int p2), (3, .int p3)]) hx hb dX8_limit_98 hl (by decide) rfl (fun ls hl => ?_)
          refine lv_goto (tgt := 36) hx hb dX8_limit_100 (by decide) ?_
          cases hF
          exact hC (x4 + (1 : Int32)) (0 : Int32) f_22 rfl H locs ls (hP.sub [0, 1, 2] rfl) (hD.sub [0, 1, 2] (by decide) rfl) hS (lv_sub hl [2, 3, 4, 5, 1, 0] rfl)
        ·
          replace hF := inn c_30 hF
          refine lv_iconst (v := 1) hx hb dX8_limit_93 (by decide) ?_
          refine lv_goto (tgt := 98) hx hb dX8_limit_94 (by decide) ?_
          refine lv_istore (lv' := [(5, .int (1 : Int32)), (4, .int (x4 + (1 : Int32))), (0, .ref a_), (1, .int p1), (2, .int p2), (3, .int p3)]) hx hb dX8_limit_98 hl (by decide) rfl (fun ls hl => ?_)
          refine lv_goto (tgt := 36) hx hb dX8_limit_100 (by decide) ?_
          cases hF
          exact hC (x4 + (1 : Int32)) (1 : Int32) f_22 rfl H locs ls (hP.sub [0, 1, 2] rfl) (hD.sub [0, 1, 2] (by decide) rfl) hS (lv_sub hl [2, 3, 4, 5, 1, 0] rfl)

set_option maxHeartbeats 4000000 in
set_option maxRecDepth 100000 in
theorem lw_X8_limit_36 {p : Program} (l : Launch) {e : Env} {s : State} {m : MethodId} {below : List Frame} {meth : Method} {c : Code} {Q : State → Prop} (E : EE) (K : Nat) {a_ a_tape a_readPlace a_script a_scriptLong a_now a_refused a_shareX a_shareY a_askedRow a_kept a_aside a_spelled a_image : Nat} {p1 : Int32} {p2 : Int32} {p3 : Int32} {c_thrown : Int32} {c_taped : Int32} {c_at : Int32} {c_part : Int32} {c_partFrom : Int32} {c_partNumber : Int32} {c_wrong : Int32} {c_partWord : Int64} {c_readLaw : Int32} {c_readBound : Int32} {c_readGoal : Int32} {c_readSites : Int32} {c_scripts : Int32} {c_sites : Int32} {c_asked : Int32} {c_outcome : Int32} {c_took : Int32} {c_acts : Int32} {c_drawn : Int64} {c_racer : Int32} {c_raced : Int32} {c_spelledMany : Int32} {c_hasImage : Int32} {c_aside : Nat → Int32} (hx : p.tables.exec = Jvm.exec) (hb : c.code = cX8_limit) (hml : c.maxLocals = 6) (hown : s.vm.findClass RX8 = some m.cls) (hts : ∀ w ∈ v_f_X8_limit, w.before #[Value.ref a_, Value.int p1, Value.int p2, Value.int p3] s = true) (hK : va_K E.1 vwCl (TY E) s) (hN : NX s) {A : Nat → Prop} (hA : ∀ q : Nat, s.heap.size ≤ q → A q) (j9 : Nat) (x4 : Int32) (x5 : Int32) (c_now : Nat → Int32) (x4' : Int32) (c_now' : Nat → Int32) (hL : lpF (fun u9 : Int32 × Int32 × (Nat → Int32) => B_X8_limit_36 K p1 p2 p3 c_sites u9.1 u9.2.1 u9.2.2) j9 (x4, x5, c_now) = some (x4', c_now')) (hX : (∀ (H : Heap) (locs : List Loc) (ls : Array Slot), va_P E.1 vwCl (w_X8_limit E a_ a_tape a_readPlace a_script a_scriptLong a_now a_refused a_shareX a_shareY a_askedRow a_kept a_aside a_spelled a_image c_thrown c_taped c_at c_part c_partFrom c_partNumber c_wrong c_partWord c_readLaw c_readBound c_readGoal c_readSites c_scripts c_sites c_asked c_outcome c_took c_acts c_drawn c_racer c_raced c_spelledMany c_hasImage c_now' c_aside) H → va_D A (w_X8_limit E a_ a_tape a_readPlace a_script a_scriptLong a_now a_refused a_shareX a_shareY a_askedRow a_kept a_aside a_spelled a_image c_thrown c_taped c_at c_part c_partFrom c_partNumber c_wrong c_partWord c_readLaw c_readBound c_readGoal c_readSites c_scripts c_sites c_asked c_outcome c_took c_acts c_drawn c_racer c_raced c_spelledMany c_hasImage c_now' c_aside) → va_S A s.heap H locs → lv_has ls 6 [(0, .ref a_), (4, .int x4')] → W p l e ({ frames := 4, cells := 0, slots := 0, locals := 93 } : Room) s m #[Value.ref a_, Value.int p1, Value.int p2, Value.int p3] below meth c H locs 0 0 Q (F0 m 103 ls []))) : ∀ (H : Heap) (locs : List Loc) (ls : Array Slot), va_P E.1 vwCl (w_X8_limit E a_ a_tape a_readPlace a_script a_scriptLong a_now a_refused a_shareX a_shareY a_askedRow a_kept a_aside a_spelled a_image c_thrown c_taped c_at c_part c_partFrom c_partNumber c_wrong c_partWord c_readLaw c_readBound c_readGoal c_readSites c_scripts c_sites c_asked c_outcome c_took c_acts c_drawn c_racer c_raced c_spelledMany c_hasImage c_now c_aside) H → va_D A (w_X8_limit E a_ a_tape a_readPlace a_script a_scriptLong a_now a_refused a_shareX a_shareY a_askedRow a_kept a_aside a_spelled a_image c_thrown c_taped c_at c_part c_partFrom c_partNumber c_wrong c_partWord c_readLaw c_readBound c_readGoal c_readSites c_scripts c_sites c_asked c_outcome c_took c_acts c_drawn c_racer c_raced c_spelledMany c_hasImage c_now c_aside) → va_S A s.heap H locs → lv_has ls 6 [(0, .ref a_), (1, .int p1), (2, .int p2), (3, .int p3), (4, .int x4), (5, .int x5)] → W p l e ({ frames := 4, cells := 0, slots := 0, locals := 93 } : Room) s m #[Value.ref a_, Value.int p1, Value.int p2, Value.int p3] below meth c H locs 0 0 Q (F0 m 36 ls []) := by
  exact lp_rule (P := (fun u9 : Int32 × Int32 × (Nat → Int32) => ∀ (H : Heap) (locs : List Loc) (ls : Array Slot), va_P E.1 vwCl (w_X8_limit E a_ a_tape a_readPlace a_script a_scriptLong a_now a_refused a_shareX a_shareY a_askedRow a_kept a_aside a_spelled a_image c_thrown c_taped c_at c_part c_partFrom c_partNumber c_wrong c_partWord c_readLaw c_readBound c_readGoal c_readSites c_scripts c_sites c_asked c_outcome c_took c_acts c_drawn c_racer c_raced c_spelledMany c_hasImage u9.2.2 c_aside) H → va_D A (w_X8_limit E a_ a_tape a_readPlace a_script a_scriptLong a_now a_refused a_shareX a_shareY a_askedRow a_kept a_aside a_spelled a_image c_thrown c_taped c_at c_part c_partFrom c_partNumber c_wrong c_partWord c_readLaw c_readBound c_readGoal c_readSites c_scripts c_sites c_asked c_outcome c_took c_acts c_drawn c_racer c_raced c_spelledMany c_hasImage u9.2.2 c_aside) → va_S A s.heap H locs → lv_has ls 6 [(0, .ref a_), (1, .int p1), (2, .int p2), (3, .int p3), (4, .int u9.1), (5, .int u9.2.1)] → W p l e ({ frames := 4, cells := 0, slots := 0, locals := 93 } : Room) s m #[Value.ref a_, Value.int p1, Value.int p2, Value.int p3] below meth c H locs 0 0 Q (F0 m 36 ls []))) (R := (fun r9 : Int32 × (Nat → Int32) => (∀ (H : Heap) (locs : List Loc) (ls : Array Slot), va_P E.1 vwCl (w_X8_limit E a_ a_tape a_readPlace a_script a_scriptLong a_now a_refused a_shareX a_shareY a_askedRow a_kept a_aside a_spelled a_image c_thrown c_taped c_at c_part c_partFrom c_partNumber c_wrong c_partWord c_readLaw c_readBound c_readGoal c_readSites c_scripts c_sites c_asked c_outcome c_took c_acts c_drawn c_racer c_raced c_spelledMany c_hasImage r9.2 c_aside) H → va_D A (w_X8_limit E a_ a_tape a_readPlace a_script a_scriptLong a_now a_refused a_shareX a_shareY a_askedRow a_kept a_aside a_spelled a_image c_thrown c_taped c_at c_part c_partFrom c_partNumber c_wrong c_partWord c_readLaw c_readBound c_readGoal c_readSites c_scripts c_sites c_asked c_outcome c_took c_acts c_drawn c_racer c_raced c_spelledMany c_hasImage r9.2 c_aside) → va_S A s.heap H locs → lv_has ls 6 [(0, .ref a_), (4, .int r9.1)] → W p l e ({ frames := 4, cells := 0, slots := 0, locals := 93 } : Room) s m #[Value.ref a_, Value.int p1, Value.int p2, Value.int p3] below meth c H locs 0 0 Q (F0 m 103 ls [])))) (fun u9 xx hF hC hE => wb_X8_limit_36 l E K (p1 := p1) (p2 := p2) (p3 := p3) (c_thrown := c_thrown) (c_taped := c_taped) (c_at := c_at) (c_part := c_part) (c_partFrom := c_partFrom) (c_partNumber := c_partNumber) (c_wrong := c_wrong) (c_partWord := c_partWord) (c_readLaw := c_readLaw) (c_readBound := c_readBound) (c_readGoal := c_readGoal) (c_readSites := c_readSites) (c_scripts := c_scripts) (c_sites := c_sites) (c_asked := c_asked) (c_outcome := c_outcome) (c_took := c_took) (c_acts := c_acts) (c_drawn := c_drawn) (c_racer := c_racer) (c_raced := c_raced) (c_spelledMany := c_spelledMany) (c_hasImage := c_hasImage) (x4 := u9.1) (x5 := u9.2.1) (c_now := u9.2.2) (c_aside := c_aside) hx hb hml hown hts hK hN hA (fun x4 x5 c_now q9 => hC _ q9) (fun x4 c_now q9 => hE _ q9) hF) j9 (x4, x5, c_now) (x4', c_now') hL hX

set_option maxHeartbeats 4000000 in
set_option maxRecDepth 100000 in
theorem f_X8_limit (l : Launch) (E : EE) (sz : Nat) (K : Nat) {a_ a_tape a_readPlace a_script a_scriptLong a_now a_refused a_shareX a_shareY a_askedRow a_kept a_aside a_spelled a_image : Nat} {p1 : Int32} {p2 : Int32} {p3 : Int32} {c_thrown : Int32} {c_taped : Int32} {c_at : Int32} {c_part : Int32} {c_partFrom : Int32} {c_partNumber : Int32} {c_wrong : Int32} {c_partWord : Int64} {c_readLaw : Int32} {c_readBound : Int32} {c_readGoal : Int32} {c_readSites : Int32} {c_scripts : Int32} {c_sites : Int32} {c_asked : Int32} {c_outcome : Int32} {c_took : Int32} {c_acts : Int32} {c_drawn : Int64} {c_racer : Int32} {c_raced : Int32} {c_spelledMany : Int32} {c_hasImage : Int32} {c_now : Nat → Int32} {c_aside : Nat → Int32} {rr : Int32} {n_now : Nat → Int32} {n_aside : Nat → Int32} (hF : F_X8_limit K p1 p2 p3 c_now c_sites c_aside = some (rr, n_now, n_aside)) : Met l yX8_limit v_f_X8_limit (({ frames := 4, cells := 0, slots := 0, locals := 93 } : Room)) (va_Pc [.ref a_, .int p1, .int p2, .int p3] (pW E sz (w_X8_limit E a_ a_tape a_readPlace a_script a_scriptLong a_now a_refused a_shareX a_shareY a_askedRow a_kept a_aside a_spelled a_image c_thrown c_taped c_at c_part c_partFrom c_partNumber c_wrong c_partWord c_readLaw c_readBound c_readGoal c_readSites c_scripts c_sites c_asked c_outcome c_took c_acts c_drawn c_racer c_raced c_spelledMany c_hasImage c_now c_aside))) (va_Qi (fun (q : Int32) (_u : Unit) => q = rr) (fun (_u : Unit) tt => va_P E.1 vwCl (w_X8_limit E a_ a_tape a_readPlace a_script a_scriptLong a_now a_refused a_shareX a_shareY a_askedRow a_kept a_aside a_spelled a_image c_thrown c_taped c_at c_part c_partFrom c_partNumber c_wrong c_partWord c_readLaw c_readBound c_readGoal c_readSites c_scripts c_sites c_asked c_outcome c_took c_acts c_drawn c_racer c_raced c_spelledMany c_hasImage n_now n_aside) tt.heap ∧ va_D (va_A (w_X8_limit E a_ a_tape a_readPlace a_script a_scriptLong a_now a_refused a_shareX a_shareY a_askedRow a_kept a_aside a_spelled a_image c_thrown c_taped c_at c_part c_partFrom c_partNumber c_wrong c_partWord c_readLaw c_readBound c_readGoal c_readSites c_scripts c_sites c_asked c_outcome c_took c_acts c_drawn c_racer c_raced c_spelledMany c_hasImage c_now c_aside) sz) (w_X8_limit E a_ a_tape a_readPlace a_script a_scriptLong a_now a_refused a_shareX a_shareY a_askedRow a_kept a_aside a_spelled a_image c_thrown c_taped c_at c_part c_partFrom c_partNumber c_wrong c_partWord c_readLaw c_readBound c_readGoal c_readSites c_scripts c_sites c_asked c_outcome c_took c_acts c_drawn c_racer c_raced c_spelledMany c_hasImage n_now n_aside)) (va_A (w_X8_limit E a_ a_tape a_readPlace a_script a_scriptLong a_now a_refused a_shareX a_shareY a_askedRow a_kept a_aside a_spelled a_image c_thrown c_taped c_at c_part c_partFrom c_partNumber c_wrong c_partWord c_readLaw c_readBound c_readGoal c_readSites c_scripts c_sites c_asked c_outcome c_took c_acts c_drawn c_racer c_raced c_spelledMany c_hasImage c_now c_aside) sz)) 0 0 (va_A (w_X8_limit E a_ a_tape a_readPlace a_script a_scriptLong a_now a_refused a_shareX a_shareY a_askedRow a_kept a_aside a_spelled a_image c_thrown c_taped c_at c_part c_partFrom c_partNumber c_wrong c_partWord c_readLaw c_readBound c_readGoal c_readSites c_scripts c_sites c_asked c_outcome c_took c_acts c_drawn c_racer c_raced c_spelledMany c_hasImage c_now c_aside) sz) := by
  refine Met.ofW (cc := cX8_limit) (maxL := 6) (ret := (some .int)) (by decide) rfl ?_
  intro p e s m args below meth c s₁ B hml hv
  obtain ⟨rfl, hsz, ⟨hK, hN⟩, hP, hD0⟩ := hv
  have hx := B.exec
  have hb := B.bytes
  have hr := B.returns
  have hts := atoms_spec (ws := v_f_X8_limit) B.pre
  have hown : s.vm.findClass RX8 = some m.cls := own_of hd_X8_limit.1 (findClass_of_methodNamed B.named)
  have hlocks : meth.locks = false := B.notSynchronized
  subst hsz
  have hD := hD0.self (sz := s.heap.size)
  generalize hAe : va_A (w_X8_limit E a_ a_tape a_readPlace a_script a_scriptLong a_now a_refused a_shareX a_shareY a_askedRow a_kept a_aside a_spelled a_image c_thrown c_taped c_at c_part c_partFrom c_partNumber c_wrong c_partWord c_readLaw c_readBound c_readGoal c_readSites c_scripts c_sites c_asked c_outcome c_took c_acts c_drawn c_racer c_raced c_spelledMany c_hasImage c_now c_aside) s.heap.size = A at hD ⊢
  have hA : ∀ q : Nat, s.heap.size ≤ q → A q := fun q h => by rw [← hAe]; exact Or.inr h
  have hS : va_S A s.heap s.heap [] := va_S.rf
  have hl := lv_entry ([.ref a_, .int p1, .int p2, .int p3]) (n := 6) (Nat.le_of_ble_eq_true rfl)
  rw [lg_entry_eq]
  generalize (lg_sl ([.ref a_, .int p1, .int p2, .int p3]) ++ List.replicate (6 - (lg_sl ([.ref a_, .int p1, .int p2, .int p3])).length) Slot.unset).toArray = ls at hl ⊢
  have hl : lv_has ls 6 [(0, .ref a_), (1, .int p1), (2, .int p2), (3, .int p3)] := hl
  obtain ⟨Q, hQ⟩ : ∃ Q : State → Prop, Q = MQ below (va_Qi (fun (q : Int32) (_u : Unit) => q = rr) (fun (_u : Unit) tt => va_P E.1 vwCl (w_X8_limit E a_ a_tape a_readPlace a_script a_scriptLong a_now a_refused a_shareX a_shareY a_askedRow a_kept a_aside a_spelled a_image c_thrown c_taped c_at c_part c_partFrom c_partNumber c_wrong c_partWord c_readLaw c_readBound c_readGoal c_readSites c_scripts c_sites c_asked c_outcome c_took c_acts c_drawn c_racer c_raced c_spelledMany c_hasImage n_now n_aside) tt.heap ∧ va_D A (w_X8_limit E a_ a_tape a_readPlace a_script a_scriptLong a_now a_refused a_shareX a_shareY a_askedRow a_kept a_aside a_spelled a_image c_thrown c_taped c_at c_part c_partFrom c_partNumber c_wrong c_partWord c_readLaw c_readBound c_readGoal c_readSites c_scripts c_sites c_asked c_outcome c_took c_acts c_drawn c_racer c_raced c_spelledMany c_hasImage n_now n_aside)) A) #[Value.ref a_, Value.int p1, Value.int p2, Value.int p3] s 0 0 A := ⟨_, rfl⟩
  rw [← hQ]
  change W p l e ({ frames := 4, cells := 0, slots := 0, locals := 93 } : Room) s m #[Value.ref a_, Value.int p1, Value.int p2, Value.int p3] below meth c s.heap [] 0 0 Q (F0 m 0 ls [])
  suffices hh9 : ∀ (H : Heap) (locs : List Loc), va_P E.1 vwCl (w_X8_limit E a_ a_tape a_readPlace a_script a_scriptLong a_now a_refused a_shareX a_shareY a_askedRow a_kept a_aside a_spelled a_image c_thrown c_taped c_at c_part c_partFrom c_partNumber c_wrong c_partWord c_readLaw c_readBound c_readGoal c_readSites c_scripts c_sites c_asked c_outcome c_took c_acts c_drawn c_racer c_raced c_spelledMany c_hasImage c_now c_aside) H → va_D A (w_X8_limit E a_ a_tape a_readPlace a_script a_scriptLong a_now a_refused a_shareX a_shareY a_askedRow a_kept a_aside a_spelled a_image c_thrown c_taped c_at c_part c_partFrom c_partNumber c_wrong c_partWord c_readLaw c_readBound c_readGoal c_readSites c_scripts c_sites c_asked c_outcome c_took c_acts c_drawn c_racer c_raced c_spelledMany c_hasImage c_now c_aside) → va_S A s.heap H locs → W p l e ({ frames := 4, cells := 0, slots := 0, locals := 93 } : Room) s m #[Value.ref a_, Value.int p1, Value.int p2, Value.int p3] below meth c H locs 0 0 Q (F0 m 0 ls []) from hh9 s.heap [] hP hD hS
  clear hP hD hS
  intro H locs hP hD hS
  replace hP : va_P E.1 vwCl [(a_, .inr (9, [.int c_thrown, .ref a_tape, .int c_taped, .int c_at, .int c_part, .int c_partFrom, .int c_partNumber, .int c_wrong, .long c_partWord, .int c_readLaw, .int c_readBound, .int c_readGoal, .int c_readSites, .ref a_readPlace, .ref a_script, .ref a_scriptLong, .int c_scripts, .ref a_now, .ref a_refused, .int c_sites, .ref a_shareX, .ref a_shareY, .int c_asked, .int c_outcome, .ref a_askedRow, .int c_took, .ref a_kept, .int c_acts, .long c_drawn, .ref a_aside, .int c_racer, .int c_raced, .ref a_spelled, .int c_spelledMany, .ref a_image, .int c_hasImage])), (a_now, .inl (E.2.1, 265, .inl c_now)), (a_aside, .inl (E.2.1, 84, .inl c_aside))] H := hP
  replace hD : va_D A [(a_, .inr (9, [.int c_thrown, .ref a_tape, .int c_taped, .int c_at, .int c_part, .int c_partFrom, .int c_partNumber, .int c_wrong, .long c_partWord, .int c_readLaw, .int c_readBound, .int c_readGoal, .int c_readSites, .ref a_readPlace, .ref a_script, .ref a_scriptLong, .int c_scripts, .ref a_now, .ref a_refused, .int c_sites, .ref a_shareX, .ref a_shareY, .int c_asked, .int c_outcome, .ref a_askedRow, .int c_took, .ref a_kept, .int c_acts, .long c_drawn, .ref a_aside, .int c_racer, .int c_raced, .ref a_spelled, .int c_spelledMany, .ref a_image, .int c_hasImage])), (a_now, .inl (E.2.1, 265, .inl c_now)), (a_aside, .inl (E.2.1, 84, .inl c_aside))] := hD
  unfold F_X8_limit at hF
  refine lv_aload_n hx hb dX8_limit_0 rfl (lv_at hl 0 rfl) ?_
  refine lv_iload_n hx hb dX8_limit_1 rfl (lv_at hl 1 rfl) ?_
  replace hF := bd1_s hF
  obtain ⟨r_1, hc_2, hF⟩ := hF
  have hPc : va_P E.1 vwCl (w_X8_isSite E a_ a_tape a_readPlace a_script a_scriptLong a_now a_refused a_shareX a_shareY a_askedRow a_kept a_aside a_spelled a_image c_thrown c_taped c_at c_part c_partFrom c_partNumber c_wrong c_partWord c_readLaw c_readBound c_readGoal c_readSites c_scripts c_sites c_asked c_outcome c_took c_acts c_drawn c_racer c_raced c_spelledMany c_hasImage) H := hP.sub (ws' := [(a_, .inr (9, [.int c_thrown, .ref a_tape, .int c_taped, .int c_at, .int c_part, .int c_partFrom, .int c_partNumber, .int c_wrong, .long c_partWord, .int c_readLaw, .int c_readBound, .int c_readGoal, .int c_readSites, .ref a_readPlace, .ref a_script, .ref a_scriptLong, .int c_scripts, .ref a_now, .ref a_refused, .int c_sites, .ref a_shareX, .ref a_shareY, .int c_asked, .int c_outcome, .ref a_askedRow, .int c_took, .ref a_kept, .int c_acts, .long c_drawn, .ref a_aside, .int c_racer, .int c_raced, .ref a_spelled, .int c_spelledMany, .ref a_image, .int c_hasImage]))]) [0] rfl
  have hrc := va_recv hK hPc (ci := 9) (q0 := 0) rfl rfl
  refine pE_z (va_runV (As := [.int p1]) (rest := [])  ⟨hx, hb, hml, hown, hts⟩ (f_X8_isSite l E (a_ := a_) (a_tape := a_tape) (a_readPlace := a_readPlace) (a_script := a_script) (a_scriptLong := a_scriptLong) (a_now := a_now) (a_refused := a_refused) (a_shareX := a_shareX) (a_shareY := a_shareY) (a_askedRow := a_askedRow) (a_kept := a_kept) (a_aside := a_aside) (a_spelled := a_spelled) (a_image := a_image) (p1 := p1) (c_thrown := c_thrown) (c_taped := c_taped) (c_at := c_at) (c_part := c_part) (c_partFrom := c_partFrom) (c_partNumber := c_partNumber) (c_wrong := c_wrong) (c_partWord := c_partWord) (c_readLaw := c_readLaw) (c_readBound := c_readBound) (c_readGoal := c_readGoal) (c_readSites := c_readSites) (c_scripts := c_scripts) (c_sites := c_sites) (c_asked := c_asked) (c_outcome := c_outcome) (c_took := c_took) (c_acts := c_acts) (c_drawn := c_drawn) (c_racer := c_racer) (c_raced := c_raced) (c_spelledMany := c_spelledMany) (c_hasImage := c_hasImage) hc_2) (cwV 1 hts g_f_X8_limit_f_X8_isSite_278 rfl rfl rfl hd_X8_isSite ⟨Nat.le_of_ble_eq_true rfl, Nat.le_of_ble_eq_true rfl⟩) ⟨pP.blind, hrc, (pP.pre ⟨hK, hN⟩ hPc)⟩ rfl rfl hl.1 rfl (lv_room (Nat.le_of_ble_eq_true rfl)) dX8_limit_2 ⟨Nat.le_of_ble_eq_true rfl, Nat.le_of_ble_eq_true rfl⟩) (fun hb_3 => ?_)
  refine lv_if_eq (tgt := 24) hx hb dX8_limit_5 (by decide) (fun c_4 => ?_) (fun c_4 => ?_)
  ·
    replace hF := ip c_4 hF
    refine lv_iconst (v := -1) hx hb dX8_limit_24 (by decide) ?_
    rw [hQ]
    have h9 := fin9 (P := fun u9 : Int32 × (Nat → Int32) × (Nat → Int32) => (-1 : Int32) = u9.1 ∧ va_P E.1 vwCl (w_X8_limit E a_ a_tape a_readPlace a_script a_scriptLong a_now a_refused a_shareX a_shareY a_askedRow a_kept a_aside a_spelled a_image c_thrown c_taped c_at c_part c_partFrom c_partNumber c_wrong c_partWord c_readLaw c_readBound c_readGoal c_readSites c_scripts c_sites c_asked c_outcome c_took c_acts c_drawn c_racer c_raced c_spelledMany c_hasImage u9.2.1 u9.2.2) H ∧ va_D A (w_X8_limit E a_ a_tape a_readPlace a_script a_scriptLong a_now a_refused a_shareX a_shareY a_askedRow a_kept a_aside a_spelled a_image c_thrown c_taped c_at c_part c_partFrom c_partNumber c_wrong c_partWord c_readLaw c_readBound c_readGoal c_readSites c_scripts c_sites c_asked c_outcome c_took c_acts c_drawn c_racer c_raced c_spelledMany c_hasImage u9.2.1 u9.2.2)) hF ⟨rfl, hP, hD⟩
    obtain ⟨e9_0, hP9, hD9⟩ := h9
    exact W.iret (v := (-1 : Int32)) hx hb hr (fun tt ht hW => ⟨⟨_, (), rfl, e9_0, ht ▸ hP9, hD9⟩, hS.F ht⟩) hS.2.2 dX8_limit_25
  ·
    replace hF := inn c_4 hF
    refine lv_iload_n hx hb dX8_limit_8 rfl (lv_at hl 2 rfl) ?_
    refine lv_iload_n hx hb dX8_limit_9 rfl (lv_at hl 3 rfl) ?_
    replace hF := bd1_s hF
    obtain ⟨r_5, hc_6, hF⟩ := hF
    have hPc : va_P E.1 vwCl [] H := fun k q h => by simp at h
    refine pE_z (va_runS (As := [.int p2, .int p3]) (rest := [])  ⟨hx, hb, hml, hown, hts⟩ (f_X8_isWay l E (p0 := p2) (p1 := p3) hc_6) (va_cwS 2 hts g_f_X8_limit_f_X8_isWay_387 rfl rfl rfl hd_X8_isWay.2 ⟨Nat.le_of_ble_eq_true rfl, Nat.le_of_ble_eq_true rfl⟩) ⟨pP.blind, (pP.pre ⟨hK, hN⟩ hPc)⟩ rfl rfl hl.1 rfl (lv_room (Nat.le_of_ble_eq_true rfl)) dX8_limit_10 ⟨Nat.le_of_ble_eq_true rfl, Nat.le_of_ble_eq_true rfl⟩) (fun hb_7 => ?_)
    refine lv_if_eq (tgt := 24) hx hb dX8_limit_13 (by decide) (fun c_8 => ?_) (fun c_8 => ?_)
    ·
      replace hF := ip c_8 hF
      refine lv_iconst (v := -1) hx hb dX8_limit_24 (by decide) ?_
      rw [hQ]
      have h9 := fin9 (P := fun u9 : Int32 × (Nat → Int32) × (Nat → Int32) => (-1 : Int32) = u9.1 ∧ va_P E.1 vwCl (w_X8_limit E a_ a_tape a_readPlace a_script a_scriptLong a_now a_refused a_shareX a_shareY a_askedRow a_kept a_aside a_spelled a_image c_thrown c_taped c_at c_part c_partFrom c_partNumber c_wrong c_partWord c_readLaw c_readBound c_readGoal c_readSites c_scripts c_sites c_asked c_outcome c_took c_acts c_drawn c_racer c_raced c_spelledMany c_hasImage u9.2.1 u9.2.2) H ∧ va_D A (w_X8_limit E a_ a_tape a_readPlace a_script a_scriptLong a_now a_refused a_shareX a_shareY a_askedRow a_kept a_aside a_spelled a_image c_thrown c_taped c_at c_part c_partFrom c_partNumber c_wrong c_partWord c_readLaw c_readBound c_readGoal c_readSites c_scripts c_sites c_asked c_outcome c_took c_acts c_drawn c_racer c_raced c_spelledMany c_hasImage u9.2.1 u9.2.2)) hF ⟨rfl, hP, hD⟩
      obtain ⟨e9_0, hP9, hD9⟩ := h9
      exact W.iret (v := (-1 : Int32)) hx hb hr (fun tt ht hW => ⟨⟨_, (), rfl, e9_0, ht ▸ hP9, hD9⟩, hS.F ht⟩) hS.2.2 dX8_limit_25
    ·
      replace hF := inn c_8 hF
      refine lv_aload_n hx hb dX8_limit_16 rfl (lv_at hl 0 rfl) ?_
      refine lv_iload_n hx hb dX8_limit_17 rfl (lv_at hl 1 rfl) ?_
      replace hF := bd1_s hF
      obtain ⟨r_9, hc_10, hF⟩ := hF
      have hPc : va_P E.1 vwCl (w_X8_isFrozen E a_ a_tape a_readPlace a_script a_scriptLong a_now a_refused a_shareX a_shareY a_askedRow a_kept a_aside a_spelled a_image c_thrown c_taped c_at c_part c_partFrom c_partNumber c_wrong c_partWord c_readLaw c_readBound c_readGoal c_readSites c_scripts c_sites c_asked c_outcome c_took c_acts c_drawn c_racer c_raced c_spelledMany c_hasImage c_now) H := hP.sub (ws' := [(a_, .inr (9, [.int c_thrown, .ref a_tape, .int c_taped, .int c_at, .int c_part, .int c_partFrom, .int c_partNumber, .int c_wrong, .long c_partWord, .int c_readLaw, .int c_readBound, .int c_readGoal, .int c_readSites, .ref a_readPlace, .ref a_script, .ref a_scriptLong, .int c_scripts, .ref a_now, .ref a_refused, .int c_sites, .ref a_shareX, .ref a_shareY, .int c_asked, .int c_outcome, .ref a_askedRow, .int c_took, .ref a_kept, .int c_acts, .long c_drawn, .ref a_aside, .int c_racer, .int c_raced, .ref a_spelled, .int c_spelledMany, .ref a_image, .int c_hasImage])), (a_now, .inl (E.2.1, 265, .inl c_now))]) [0, 1] rfl
      have hrc := va_recv hK hPc (ci := 9) (q0 := 0) rfl rfl
      refine pE_z (va_runV (As := [.int p1]) (rest := [])  ⟨hx, hb, hml, hown, hts⟩ (f_X8_isFrozen l E (a_ := a_) (a_tape := a_tape) (a_readPlace := a_readPlace) (a_script := a_script) (a_scriptLong := a_scriptLong) (a_now := a_now) (a_refused := a_refused) (a_shareX := a_shareX) (a_shareY := a_shareY) (a_askedRow := a_askedRow) (a_kept := a_kept) (a_aside := a_aside) (a_spelled := a_spelled) (a_image := a_image) (p1 := p1) (c_thrown := c_thrown) (c_taped := c_taped) (c_at := c_at) (c_part := c_part) (c_partFrom := c_partFrom) (c_partNumber := c_partNumber) (c_wrong := c_wrong) (c_partWord := c_partWord) (c_readLaw := c_readLaw) (c_readBound := c_readBound) (c_readGoal := c_readGoal) (c_readSites := c_readSites) (c_scripts := c_scripts) (c_sites := c_sites) (c_asked := c_asked) (c_outcome := c_outcome) (c_took := c_took) (c_acts := c_acts) (c_drawn := c_drawn) (c_racer := c_racer) (c_raced := c_raced) (c_spelledMany := c_spelledMany) (c_hasImage := c_hasImage) (c_now := c_now) hc_10) (cwV 1 hts g_f_X8_limit_f_X8_isFrozen_257 rfl rfl rfl hd_X8_isFrozen ⟨Nat.le_of_ble_eq_true rfl, Nat.le_of_ble_eq_true rfl⟩) ⟨pP.blind, hrc, (pP.pre ⟨hK, hN⟩ hPc)⟩ rfl rfl hl.1 rfl (lv_room (Nat.le_of_ble_eq_true rfl)) dX8_limit_18 ⟨Nat.le_of_ble_eq_true rfl, Nat.le_of_ble_eq_true rfl⟩) (fun hb_11 => ?_)
      refine lv_if_eq (tgt := 26) hx hb dX8_limit_21 (by decide) (fun c_12 => ?_) (fun c_12 => ?_)
      ·
        replace hF := ip c_12 hF
        refine lv_aload_n hx hb dX8_limit_26 rfl (lv_at hl 0 rfl) ?_
        replace hF := bd1_s hF
        obtain ⟨w_13, hc_14, hF⟩ := hF
        obtain ⟨hPc, hDc, hFc⟩ := wcut (wc := (w_X8_putAside E a_ a_tape a_readPlace a_script a_scriptLong a_now a_refused a_shareX a_shareY a_askedRow a_kept a_aside a_spelled a_image c_thrown c_taped c_at c_part c_partFrom c_partNumber c_wrong c_partWord c_readLaw c_readBound c_readGoal c_readSites c_scripts c_sites c_asked c_outcome c_took c_acts c_drawn c_racer c_raced c_spelledMany c_hasImage c_now c_aside)) hP hD hS hA [0, 1, 2] (by decide) rfl
        have hrc := va_recv hK hPc (ci := 9) (q0 := 0) rfl rfl
        refine cE_v (wc := (w_X8_putAside E a_ a_tape a_readPlace a_script a_scriptLong a_now a_refused a_shareX a_shareY a_askedRow a_kept a_aside a_spelled a_image c_thrown c_taped c_at c_part c_partFrom c_partNumber c_wrong c_partWord c_readLaw c_readBound c_readGoal c_readSites c_scripts c_sites c_asked c_outcome c_took c_acts c_drawn c_racer c_raced c_spelledMany c_hasImage c_now c_aside)) (wr := []) (w1 := (w_X8_putAside E a_ a_tape a_readPlace a_script a_scriptLong a_now a_refused a_shareX a_shareY a_askedRow a_kept a_aside a_spelled a_image c_thrown c_taped c_at c_part c_partFrom c_partNumber c_wrong c_partWord c_readLaw c_readBound c_readGoal c_readSites c_scripts c_sites c_asked c_outcome c_took c_acts c_drawn c_racer c_raced c_spelledMany c_hasImage c_now w_13)) (va_runV (As := []) (rest := [])  ⟨hx, hb, hml, hown, hts⟩ (f_X8_putAside l E H.size K (a_ := a_) (a_tape := a_tape) (a_readPlace := a_readPlace) (a_script := a_script) (a_scriptLong := a_scriptLong) (a_now := a_now) (a_refused := a_refused) (a_shareX := a_shareX) (a_shareY := a_shareY) (a_askedRow := a_askedRow) (a_kept := a_kept) (a_aside := a_aside) (a_spelled := a_spelled) (a_image := a_image) (c_thrown := c_thrown) (c_taped := c_taped) (c_at := c_at) (c_part := c_part) (c_partFrom := c_partFrom) (c_partNumber := c_partNumber) (c_wrong := c_wrong) (c_partWord := c_partWord) (c_readLaw := c_readLaw) (c_readBound := c_readBound) (c_readGoal := c_readGoal) (c_readSites := c_readSites) (c_scripts := c_scripts) (c_sites := c_sites) (c_asked := c_asked) (c_outcome := c_outcome) (c_took := c_took) (c_acts := c_acts) (c_drawn := c_drawn) (c_racer := c_racer) (c_raced := c_raced) (c_spelledMany := c_spelledMany) (c_hasImage := c_hasImage) (c_now := c_now) (c_aside := c_aside) hc_14) (cwV 0 hts g_f_X8_limit_f_X8_putAside_390 rfl rfl rfl hd_X8_putAside ⟨Nat.le_of_ble_eq_true rfl, Nat.le_of_ble_eq_true rfl⟩) ⟨pW.blind, hrc, (pW.pre ⟨hK, hN⟩ hPc hDc)⟩ rfl rfl hl.1 rfl (lv_room (Nat.le_of_ble_eq_true rfl)) dX8_limit_27 ⟨Nat.le_of_ble_eq_true rfl, Nat.le_of_ble_eq_true rfl⟩) hS hFc hP hD [0, 1, 2] [] rfl rfl (by decide) (by decide) (fun H locs hP hD hS => ?_)
        replace hP : va_P E.1 vwCl [(a_, .inr (9, [.int c_thrown, .ref a_tape, .int c_taped, .int c_at, .int c_part, .int c_partFrom, .int c_partNumber, .int c_wrong, .long c_partWord, .int c_readLaw, .int c_readBound, .int c_readGoal, .int c_readSites, .ref a_readPlace, .ref a_script, .ref a_scriptLong, .int c_scripts, .ref a_now, .ref a_refused, .int c_sites, .ref a_shareX, .ref a_shareY, .int c_asked, .int c_outcome, .ref a_askedRow, .int c_took, .ref a_kept, .int c_acts, .long c_drawn, .ref a_aside, .int c_racer, .int c_raced, .ref a_spelled, .int c_spelledMany, .ref a_image, .int c_hasImage])), (a_now, .inl (E.2.1, 265, .inl c_now)), (a_aside, .inl (E.2.1, 84, .inl w_13))] H := hP
        replace hD : va_D A [(a_, .inr (9, [.int c_thrown, .ref a_tape, .int c_taped, .int c_at, .int c_part, .int c_partFrom, .int c_partNumber, .int c_wrong, .long c_partWord, .int c_readLaw, .int c_readBound, .int c_readGoal, .int c_readSites, .ref a_readPlace, .ref a_script, .ref a_scriptLong, .int c_scripts, .ref a_now, .ref a_refused, .int c_sites, .ref a_shareX, .ref a_shareY, .int c_asked, .int c_outcome, .ref a_askedRow, .int c_took, .ref a_kept, .int c_acts, .long c_drawn, .ref a_aside, .int c_racer, .int c_raced, .ref a_spelled, .int c_spelledMany, .ref a_image, .int c_hasImage])), (a_now, .inl (E.2.1, 265, .inl c_now)), (a_aside, .inl (E.2.1, 84, .inl w_13))] := hD
        refine lv_iconst (v := -1) hx hb dX8_limit_30 (by decide) ?_
        refine lv_istore (lv' := [(4, .int (-1 : Int32)), (0, .ref a_), (1, .int p1), (2, .int p2), (3, .int p3)]) hx hb dX8_limit_31 hl (by decide) rfl (fun ls hl => ?_)
        refine lv_iconst (v := 1) hx hb dX8_limit_33 (by decide) ?_
        refine lv_istore (lv' := [(5, .int (1 : Int32)), (4, .int (-1 : Int32)), (0, .ref a_), (1, .int p1), (2, .int p2), (3, .int p3)]) hx hb dX8_limit_34 hl (by decide) rfl (fun ls hl => ?_)
        replace hF := bd2_s hF
        obtain ⟨x4_31, c_now_32, hL_33, hF⟩ := hF
        refine lw_X8_limit_36 l E K (p1 := p1) (p2 := p2) (p3 := p3) (c_thrown := c_thrown) (c_taped := c_taped) (c_at := c_at) (c_part := c_part) (c_partFrom := c_partFrom) (c_partNumber := c_partNumber) (c_wrong := c_wrong) (c_partWord := c_partWord) (c_readLaw := c_readLaw) (c_readBound := c_readBound) (c_readGoal := c_readGoal) (c_readSites := c_readSites) (c_scripts := c_scripts) (c_sites := c_sites) (c_asked := c_asked) (c_outcome := c_outcome) (c_took := c_took) (c_acts := c_acts) (c_drawn := c_drawn) (c_racer := c_racer) (c_raced := c_raced) (c_spelledMany := c_spelledMany) (c_hasImage := c_hasImage) (c_aside := w_13) hx hb hml hown hts hK hN hA K (-1 : Int32) (1 : Int32) c_now x4_31 c_now_32 hL_33 ?_ H locs ls (hP.sub [0, 1, 2] rfl) (hD.sub [0, 1, 2] (by decide) rfl) hS (lv_sub hl [2, 3, 4, 5, 1, 0] rfl)
        ·
          intro H locs ls hP hD hS hl
          replace hP : va_P E.1 vwCl [(a_, .inr (9, [.int c_thrown, .ref a_tape, .int c_taped, .int c_at, .int c_part, .int c_partFrom, .int c_partNumber, .int c_wrong, .long c_partWord, .int c_readLaw, .int c_readBound, .int c_readGoal, .int c_readSites, .ref a_readPlace, .ref a_script, .ref a_scriptLong, .int c_scripts, .ref a_now, .ref a_refused, .int c_sites, .ref a_shareX, .ref a_shareY, .int c_asked, .int c_outcome, .ref a_askedRow, .int c_took, .ref a_kept, .int c_acts, .long c_drawn, .ref a_aside, .int c_racer, .int c_raced, .ref a_spelled, .int c_spelledMany, .ref a_image, .int c_hasImage])), (a_now, .inl (E.2.1, 265, .inl c_now_32)), (a_aside, .inl (E.2.1, 84, .inl w_13))] H := hP
          replace hD : va_D A [(a_, .inr (9, [.int c_thrown, .ref a_tape, .int c_taped, .int c_at, .int c_part, .int c_partFrom, .int c_partNumber, .int c_wrong, .long c_partWord, .int c_readLaw, .int c_readBound, .int c_readGoal, .int c_readSites, .ref a_readPlace, .ref a_script, .ref a_scriptLong, .int c_scripts, .ref a_now, .ref a_refused, .int c_sites, .ref a_shareX, .ref a_shareY, .int c_asked, .int c_outcome, .ref a_askedRow, .int c_took, .ref a_kept, .int c_acts, .long c_drawn, .ref a_aside, .int c_racer, .int c_raced, .ref a_spelled, .int c_spelledMany, .ref a_image, .int c_hasImage])), (a_now, .inl (E.2.1, 265, .inl c_now_32)), (a_aside, .inl (E.2.1, 84, .inl w_13))] := hD
          refine lv_aload_n hx hb dX8_limit_103 rfl (lv_at hl 0 rfl) ?_
          replace hF := bd1_s hF
          obtain ⟨w_34, hc_35, hF⟩ := hF
          obtain ⟨hPc, hDc, hFc⟩ := wcut (wc := (w_X8_bringBack E a_ a_tape a_readPlace a_script a_scriptLong a_now a_refused a_shareX a_shareY a_askedRow a_kept a_aside a_spelled a_image c_thrown c_taped c_at c_part c_partFrom c_partNumber c_wrong c_partWord c_readLaw c_readBound c_readGoal c_readSites c_scripts c_sites c_asked c_outcome c_took c_acts c_drawn c_racer c_raced c_spelledMany c_hasImage c_now_32 w_13)) hP hD hS hA [0, 1, 2] (by decide) rfl
          have hrc := va_recv hK hPc (ci := 9) (q0 := 0) rfl rfl
          refine cE_v (wc := (w_X8_bringBack E a_ a_tape a_readPlace a_script a_scriptLong a_now a_refused a_shareX a_shareY a_askedRow a_kept a_aside a_spelled a_image c_thrown c_taped c_at c_part c_partFrom c_partNumber c_wrong c_partWord c_readLaw c_readBound c_readGoal c_readSites c_scripts c_sites c_asked c_outcome c_took c_acts c_drawn c_racer c_raced c_spelledMany c_hasImage c_now_32 w_13)) (wr := []) (w1 := (w_X8_bringBack E a_ a_tape a_readPlace a_script a_scriptLong a_now a_refused a_shareX a_shareY a_askedRow a_kept a_aside a_spelled a_image c_thrown c_taped c_at c_part c_partFrom c_partNumber c_wrong c_partWord c_readLaw c_readBound c_readGoal c_readSites c_scripts c_sites c_asked c_outcome c_took c_acts c_drawn c_racer c_raced c_spelledMany c_hasImage w_34 w_13)) (va_runV (As := []) (rest := [])  ⟨hx, hb, hml, hown, hts⟩ (f_X8_bringBack l E H.size K (a_ := a_) (a_tape := a_tape) (a_readPlace := a_readPlace) (a_script := a_script) (a_scriptLong := a_scriptLong) (a_now := a_now) (a_refused := a_refused) (a_shareX := a_shareX) (a_shareY := a_shareY) (a_askedRow := a_askedRow) (a_kept := a_kept) (a_aside := a_aside) (a_spelled := a_spelled) (a_image := a_image) (c_thrown := c_thrown) (c_taped := c_taped) (c_at := c_at) (c_part := c_part) (c_partFrom := c_partFrom) (c_partNumber := c_partNumber) (c_wrong := c_wrong) (c_partWord := c_partWord) (c_readLaw := c_readLaw) (c_readBound := c_readBound) (c_readGoal := c_readGoal) (c_readSites := c_readSites) (c_scripts := c_scripts) (c_sites := c_sites) (c_asked := c_asked) (c_outcome := c_outcome) (c_took := c_took) (c_acts := c_acts) (c_drawn := c_drawn) (c_racer := c_racer) (c_raced := c_raced) (c_spelledMany := c_spelledMany) (c_hasImage := c_hasImage) (c_now := c_now_32) (c_aside := w_13) hc_35) (cwV 0 hts g_f_X8_limit_f_X8_bringBack_396 rfl rfl rfl hd_X8_bringBack ⟨Nat.le_of_ble_eq_true rfl, Nat.le_of_ble_eq_true rfl⟩) ⟨pW.blind, hrc, (pW.pre ⟨hK, hN⟩ hPc hDc)⟩ rfl rfl hl.1 rfl (lv_room (Nat.le_of_ble_eq_true rfl)) dX8_limit_104 ⟨Nat.le_of_ble_eq_true rfl, Nat.le_of_ble_eq_true rfl⟩) hS hFc hP hD [0, 1, 2] [] rfl rfl (by decide) (by decide) (fun H locs hP hD hS => ?_)
          replace hP : va_P E.1 vwCl [(a_, .inr (9, [.int c_thrown, .ref a_tape, .int c_taped, .int c_at, .int c_part, .int c_partFrom, .int c_partNumber, .int c_wrong, .long c_partWord, .int c_readLaw, .int c_readBound, .int c_readGoal, .int c_readSites, .ref a_readPlace, .ref a_script, .ref a_scriptLong, .int c_scripts, .ref a_now, .ref a_refused, .int c_sites, .ref a_shareX, .ref a_shareY, .int c_asked, .int c_outcome, .ref a_askedRow, .int c_took, .ref a_kept, .int c_acts, .long c_drawn, .ref a_aside, .int c_racer, .int c_raced, .ref a_spelled, .int c_spelledMany, .ref a_image, .int c_hasImage])), (a_now, .inl (E.2.1, 265, .inl w_34)), (a_aside, .inl (E.2.1, 84, .inl w_13))] H := hP
          replace hD : va_D A [(a_, .inr (9, [.int c_thrown, .ref a_tape, .int c_taped, .int c_at, .int c_part, .int c_partFrom, .int c_partNumber, .int c_wrong, .long c_partWord, .int c_readLaw, .int c_readBound, .int c_readGoal, .int c_readSites, .ref a_readPlace, .ref a_script, .ref a_scriptLong, .int c_scripts, .ref a_now, .ref a_refused, .int c_sites, .ref a_shareX, .ref a_shareY, .int c_asked, .int c_outcome, .ref a_askedRow, .int c_took, .ref a_kept, .int c_acts, .long c_drawn, .ref a_aside, .int c_racer, .int c_raced, .ref a_spelled, .int c_spelledMany, .ref a_image, .int c_hasImage])), (a_now, .inl (E.2.1, 265, .inl w_34)), (a_aside, .inl (E.2.1, 84, .inl w_13))] := hD
          refine lv_iload hx hb dX8_limit_107 (lv_at hl 1 rfl) ?_
          rw [hQ]
          have h9 := fin9 (P := fun u9 : Int32 × (Nat → Int32) × (Nat → Int32) => x4_31 = u9.1 ∧ va_P E.1 vwCl (w_X8_limit E a_ a_tape a_readPlace a_script a_scriptLong a_now a_refused a_shareX a_shareY a_askedRow a_kept a_aside a_spelled a_image c_thrown c_taped c_at c_part c_partFrom c_partNumber c_wrong c_partWord c_readLaw c_readBound c_readGoal c_readSites c_scripts c_sites c_asked c_outcome c_took c_acts c_drawn c_racer c_raced c_spelledMany c_hasImage u9.2.1 u9.2.2) H ∧ va_D A (w_X8_limit E a_ a_tape a_readPlace a_script a_scriptLong a_now a_refused a_shareX a_shareY a_askedRow a_kept a_aside a_spelled a_image c_thrown c_taped c_at c_part c_partFrom c_partNumber c_wrong c_partWord c_readLaw c_readBound c_readGoal c_readSites c_scripts c_sites c_asked c_outcome c_took c_acts c_drawn c_racer c_raced c_spelledMany c_hasImage u9.2.1 u9.2.2)) hF ⟨rfl, hP, hD⟩
          obtain ⟨e9_0, hP9, hD9⟩ := h9
          exact W.iret (v := x4_31) hx hb hr (fun tt ht hW => ⟨⟨_, (), rfl, e9_0, ht ▸ hP9, hD9⟩, hS.F ht⟩) hS.2.2 dX8_limit_109
      ·
        replace hF := inn c_12 hF
        refine lv_iconst (v := -1) hx hb dX8_limit_24 (by decide) ?_
        rw [hQ]
        have h9 := fin9 (P := fun u9 : Int32 × (Nat → Int32) × (Nat → Int32) => (-1 : Int32) = u9.1 ∧ va_P E.1 vwCl (w_X8_limit E a_ a_tape a_readPlace a_script a_scriptLong a_now a_refused a_shareX a_shareY a_askedRow a_kept a_aside a_spelled a_image c_thrown c_taped c_at c_part c_partFrom c_partNumber c_wrong c_partWord c_readLaw c_readBound c_readGoal c_readSites c_scripts c_sites c_asked c_outcome c_took c_acts c_drawn c_racer c_raced c_spelledMany c_hasImage u9.2.1 u9.2.2) H ∧ va_D A (w_X8_limit E a_ a_tape a_readPlace a_script a_scriptLong a_now a_refused a_shareX a_shareY a_askedRow a_kept a_aside a_spelled a_image c_thrown c_taped c_at c_part c_partFrom c_partNumber c_wrong c_partWord c_readLaw c_readBound c_readGoal c_readSites c_scripts c_sites c_asked c_outcome c_took c_acts c_drawn c_racer c_raced c_spelledMany c_hasImage u9.2.1 u9.2.2)) hF ⟨rfl, hP, hD⟩
        obtain ⟨e9_0, hP9, hD9⟩ := h9
        exact W.iret (v := (-1 : Int32)) hx hb hr (fun tt ht hW => ⟨⟨_, (), rfl, e9_0, ht ▸ hP9, hD9⟩, hS.F ht⟩) hS.2.2 dX8_limit_25

def F_X8_log (p1 : Int32) (p2 : Int32) (c_now : Nat → Int32) : Option (Int32) :=
  bd1 (F_X8_in p1.toInt64 (0 : Int64) (((c_now 84) - (1 : Int32)).toInt64)) (fun r_1 => if r_1 = (0 : Int32) then some (-100000000 : Int32) else bd1 (F_X8_in p2.toInt64 (0 : Int64) (2 : Int64)) (fun r_5 => if r_5 = (0 : Int32) then some (-100000000 : Int32) else ixF (((85 : Int32) + ((3 : Int32) * (((c_now 84) - (1 : Int32)) - p1))) + p2) 265 (some (c_now (((85 : Int32) + ((3 : Int32) * (((c_now 84) - (1 : Int32)) - p1))) + p2).toNatClampNeg))))
abbrev w_X8_log (E : EE) (a_ a_tape a_readPlace a_script a_scriptLong a_now a_refused a_shareX a_shareY a_askedRow a_kept a_aside a_spelled a_image : Nat) (c_thrown : Int32) (c_taped : Int32) (c_at : Int32) (c_part : Int32) (c_partFrom : Int32) (c_partNumber : Int32) (c_wrong : Int32) (c_partWord : Int64) (c_readLaw : Int32) (c_readBound : Int32) (c_readGoal : Int32) (c_readSites : Int32) (c_scripts : Int32) (c_sites : Int32) (c_asked : Int32) (c_outcome : Int32) (c_took : Int32) (c_acts : Int32) (c_drawn : Int64) (c_racer : Int32) (c_raced : Int32) (c_spelledMany : Int32) (c_hasImage : Int32) (c_now : Nat → Int32) : va_W := [(a_, .inr (9, [.int c_thrown, .ref a_tape, .int c_taped, .int c_at, .int c_part, .int c_partFrom, .int c_partNumber, .int c_wrong, .long c_partWord, .int c_readLaw, .int c_readBound, .int c_readGoal, .int c_readSites, .ref a_readPlace, .ref a_script, .ref a_scriptLong, .int c_scripts, .ref a_now, .ref a_refused, .int c_sites, .ref a_shareX, .ref a_shareY, .int c_asked, .int c_outcome, .ref a_askedRow, .int c_took, .ref a_kept, .int c_acts, .long c_drawn, .ref a_aside, .int c_racer, .int c_raced, .ref a_spelled, .int c_spelledMany, .ref a_image, .int c_hasImage])), (a_now, .inl (E.2.1, 265, .inl c_now))]
def v_f_X8_log : List Cond := List.cons (.code yX8_log cX8_log 3 (some .int)) (HAppend.hAppend (α := List Cond) (β := List Cond) (γ := List Cond) [.fieldLink RX8 22 "HushWatchModel" "now" "[I", .constant RX8 182 (-100000000), .constantLong RX8 373 (2), .methodLink RX8 60 yX8_in, .static yX8_in, .initialized RX8] (HAppend.hAppend (α := List Cond) (β := List Cond) (γ := List Cond) wsX80 (HAppend.hAppend (α := List Cond) (β := List Cond) (γ := List Cond) v_f_X8_in [])))
theorem gw_f_X8_log : v_f_X8_log.all goodWord = true := by decide +kernel
theorem i_f_X8_log_X8 : ∀ w ∈ wsX80, w ∈ v_f_X8_log := fun _ h => List.mem_cons_of_mem _ (List.mem_append_right _ (List.mem_append_left _ h))
theorem g_f_X8_log_f_X8_in_60 : GoodIn v_f_X8_log (va_wsS RX8 60 yX8_in v_f_X8_in) := goodIn_app (goodIn_of _ (by decide +kernel)) (goodIn_sub (fun _ h => List.mem_cons_of_mem _ (List.mem_append_right _ (List.mem_append_right _ (List.mem_append_left _ h)))) gw_f_X8_in)
theorem hd_X8_log : yX8_log.cls = RX8 ∧ yX8_log.cls ≠ "java/lang/invoke/MethodHandle" ∧ yX8_log.cls ≠ "java/lang/invoke/VarHandle" ∧ (parseMethodDescriptor yX8_log.desc).map (fun d => d.parameters.length) = some 2 := by decide +kernel
set_option maxHeartbeats 4000000 in
set_option maxRecDepth 100000 in
theorem f_X8_log (l : Launch) (E : EE) {a_ a_tape a_readPlace a_script a_scriptLong a_now a_refused a_shareX a_shareY a_askedRow a_kept a_aside a_spelled a_image : Nat} {p1 : Int32} {p2 : Int32} {c_thrown : Int32} {c_taped : Int32} {c_at : Int32} {c_part : Int32} {c_partFrom : Int32} {c_partNumber : Int32} {c_wrong : Int32} {c_partWord : Int64} {c_readLaw : Int32} {c_readBound : Int32} {c_readGoal : Int32} {c_readSites : Int32} {c_scripts : Int32} {c_sites : Int32} {c_asked : Int32} {c_outcome : Int32} {c_took : Int32} {c_acts : Int32} {c_drawn : Int64} {c_racer : Int32} {c_raced : Int32} {c_spelledMany : Int32} {c_hasImage : Int32} {c_now : Nat → Int32} {rr : Int32} (hF : F_X8_log p1 p2 c_now = some rr) : Met l yX8_log v_f_X8_log (({ frames := 1, cells := 0, slots := 0, locals := 25 } : Room)) (va_Pc [.ref a_, .int p1, .int p2] (pP E (w_X8_log E a_ a_tape a_readPlace a_script a_scriptLong a_now a_refused a_shareX a_shareY a_askedRow a_kept a_aside a_spelled a_image c_thrown c_taped c_at c_part c_partFrom c_partNumber c_wrong c_partWord c_readLaw c_readBound c_readGoal c_readSites c_scripts c_sites c_asked c_outcome c_took c_acts c_drawn c_racer c_raced c_spelledMany c_hasImage c_now))) (vp_Si (fun q : Int32 => q = rr)) 0 0 (fun _ => False) := by
  refine Met.ofW (cc := cX8_log) (maxL := 3) (ret := (some .int)) (by decide) rfl ?_
  intro p e s m args below meth c s₁ B hml hv
  obtain ⟨rfl, ⟨hK, hN⟩, hP⟩ := hv
  have hx := B.exec
  have hb := B.bytes
  have hr := B.returns
  have hts := atoms_spec (ws := v_f_X8_log) B.pre
  have hown : s.vm.findClass RX8 = some m.cls := own_of hd_X8_log.1 (findClass_of_methodNamed B.named)
  have hlocks : meth.locks = false := B.notSynchronized
  replace hP : va_P E.1 vwCl [(a_, .inr (9, [.int c_thrown, .ref a_tape, .int c_taped, .int c_at, .int c_part, .int c_partFrom, .int c_partNumber, .int c_wrong, .long c_partWord, .int c_readLaw, .int c_readBound, .int c_readGoal, .int c_readSites, .ref a_readPlace, .ref a_script, .ref a_scriptLong, .int c_scripts, .ref a_now, .ref a_refused, .int c_sites, .ref a_shareX, .ref a_shareY, .int c_asked, .int c_outcome, .ref a_askedRow, .int c_took, .ref a_kept, .int c_acts, .long c_drawn, .ref a_aside, .int c_racer, .int c_raced, .ref a_spelled, .int c_spelledMany, .ref a_image, .int c_hasImage])), (a_now, .inl (E.2.1, 265, .inl c_now))] s.heap := hP
  have hl := lv_entry ([.ref a_, .int p1, .int p2]) (n := 3) (Nat.le_of_ble_eq_true rfl)
  rw [lg_entry_eq]
  generalize (lg_sl ([.ref a_, .int p1, .int p2]) ++ List.replicate (3 - (lg_sl ([.ref a_, .int p1, .int p2])).length) Slot.unset).toArray = ls at hl ⊢
  have hl : lv_has ls 3 [(0, .ref a_), (1, .int p1), (2, .int p2)] := hl
  obtain ⟨Q, hQ⟩ : ∃ Q : State → Prop, Q = MQ below (vp_Si (fun q : Int32 => q = rr)) #[Value.ref a_, Value.int p1, Value.int p2] s 0 0 (fun _ => False) := ⟨_, rfl⟩
  rw [← hQ]
  change W p l e ({ frames := 1, cells := 0, slots := 0, locals := 25 } : Room) s m #[Value.ref a_, Value.int p1, Value.int p2] below meth c s.heap [] 0 0 Q (F0 m 0 ls [])
  unfold F_X8_log at hF
  refine lv_iload_n hx hb dX8_log_0 rfl (lv_at hl 1 rfl) ?_
  refine lv_i2l (v := p1.toInt64) hx hb dX8_log_1 rfl ?_
  refine lv_lconst (v := 0) hx hb dX8_log_2 (by decide) ?_
  refine lv_aload_n hx hb dX8_log_3 rfl (lv_at hl 0 rfl) ?_
  refine gt_X8_17 (v := .ref a_now) hx hb hts i_f_X8_log_X8 hown hK hP 0 rfl (hts (.fieldLink RX8 22 "HushWatchModel" "now" "[I") (List.mem_of_getElem? (i := 1) rfl)) rfl dX8_log_4 ?_
  refine lv_bipush (v := 84) hx hb dX8_log_7 (by decide) ?_
  refine va_iald hx hb hK hP 1 0 rfl rfl (vin rfl) dX8_log_9 ?_
  refine W.eq (g2 := F0 m 10 ls [.int (c_now 84), .long (0 : Int64), .long p1.toInt64]) rfl ?_
  refine lv_iconst (v := 1) hx hb dX8_log_10 (by decide) ?_
  refine lv_isub hx hb dX8_log_11 ?_
  refine lv_i2l (v := ((c_now 84) - (1 : Int32)).toInt64) hx hb dX8_log_12 rfl ?_
  replace hF := bd1_s hF
  obtain ⟨r_1, hc_2, hF⟩ := hF
  have hPc : va_P E.1 vwCl [] s.heap := fun k q h => by simp at h
  refine pE_z (va_runS (As := [.long p1.toInt64, .long (0 : Int64), .long (((c_now 84) - (1 : Int32)).toInt64)]) (rest := [])  ⟨hx, hb, hml, hown, hts⟩ (f_X8_in l E (p0 := p1.toInt64) (p1 := (0 : Int64)) (p2 := ((c_now 84) - (1 : Int32)).toInt64) hc_2) (va_cwS 3 hts g_f_X8_log_f_X8_in_60 rfl rfl rfl hd_X8_in.2 ⟨Nat.le_of_ble_eq_true rfl, Nat.le_of_ble_eq_true rfl⟩) ⟨pP.blind, (pP.pre ⟨hK, hN⟩ hPc)⟩ rfl rfl hl.1 rfl (lv_room (Nat.le_of_ble_eq_true rfl)) dX8_log_13 ⟨Nat.le_of_ble_eq_true rfl, Nat.le_of_ble_eq_true rfl⟩) (fun hb_3 => ?_)
  refine lv_if_eq (tgt := 57) hx hb dX8_log_16 (by decide) (fun c_4 => ?_) (fun c_4 => ?_)
  ·
    replace hF := ip c_4 hF
    refine lv_ldc (v := -100000000) hx hb hown (hts (.constant RX8 182 (-100000000)) (List.mem_of_getElem? (i := 2) rfl)) dX8_log_57 ?_
    rw [hQ]
    obtain e9_0 := inj1 hF
    exact W.iret (v := (-100000000 : Int32)) hx hb hr (fun tt ht hW => ⟨_, rfl, e9_0, ht⟩) (fun _ h => by cases h) dX8_log_59
  ·
    replace hF := inn c_4 hF
    refine lv_iload_n hx hb dX8_log_19 rfl (lv_at hl 2 rfl) ?_
    refine lv_i2l (v := p2.toInt64) hx hb dX8_log_20 rfl ?_
    refine lv_lconst (v := 0) hx hb dX8_log_21 (by decide) ?_
    refine lv_ldc2 (v := 2) hx hb hown (hts (.constantLong RX8 373 (2)) (List.mem_of_getElem? (i := 3) rfl)) dX8_log_22 ?_
    replace hF := bd1_s hF
    obtain ⟨r_5, hc_6, hF⟩ := hF
    have hPc : va_P E.1 vwCl [] s.heap := fun k q h => by simp at h
    refine pE_z (va_runS (As := [.long p2.toInt64, .long (0 : Int64), .long (2 : Int64)]) (rest := [])  ⟨hx, hb, hml, hown, hts⟩ (f_X8_in l E (p0 := p2.toInt64) (p1 := (0 : Int64)) (p2 := (2 : Int64)) hc_6) (va_cwS 3 hts g_f_X8_log_f_X8_in_60 rfl rfl rfl hd_X8_in.2 ⟨Nat.le_of_ble_eq_true rfl, Nat.le_of_ble_eq_true rfl⟩) ⟨pP.blind, (pP.pre ⟨hK, hN⟩ hPc)⟩ rfl rfl hl.1 rfl (lv_room (Nat.le_of_ble_eq_true rfl)) dX8_log_25 ⟨Nat.le_of_ble_eq_true rfl, Nat.le_of_ble_eq_true rfl⟩) (fun hb_7 => ?_)
    refine lv_if_eq (tgt := 57) hx hb dX8_log_28 (by decide) (fun c_8 => ?_) (fun c_8 => ?_)
    ·
      replace hF := ip c_8 hF
      refine lv_ldc (v := -100000000) hx hb hown (hts (.constant RX8 182 (-100000000)) (List.mem_of_getElem? (i := 2) rfl)) dX8_log_57 ?_
      rw [hQ]
      obtain e9_0 := inj1 hF
      exact W.iret (v := (-100000000 : Int32)) hx hb hr (fun tt ht hW => ⟨_, rfl, e9_0, ht⟩) (fun _ h => by cases h) dX8_log_59
    ·
      replace hF := inn c_8 hF
      refine lv_aload_n hx hb dX8_log_31 rfl (lv_at hl 0 rfl) ?_
      refine gt_X8_17 (v := .ref a_now) hx hb hts i_f_X8_log_X8 hown hK hP 0 rfl (hts (.fieldLink RX8 22 "HushWatchModel" "now" "[I") (List.mem_of_getElem? (i := 1) rfl)) rfl dX8_log_32 ?_
      refine lv_bipush (v := 85) hx hb dX8_log_35 (by decide) ?_
      refine lv_iconst (v := 3) hx hb dX8_log_37 (by decide) ?_
      refine lv_aload_n hx hb dX8_log_38 rfl (lv_at hl 0 rfl) ?_
      refine gt_X8_17 (v := .ref a_now) hx hb hts i_f_X8_log_X8 hown hK hP 0 rfl (hts (.fieldLink RX8 22 "HushWatchModel" "now" "[I") (List.mem_of_getElem? (i := 1) rfl)) rfl dX8_log_39 ?_
      refine lv_bipush (v := 84) hx hb dX8_log_42 (by decide) ?_
      refine va_iald hx hb hK hP 1 0 rfl rfl (vin rfl) dX8_log_44 ?_
      refine W.eq (g2 := F0 m 45 ls [.int (c_now 84), .int (3 : Int32), .int (85 : Int32), .ref a_now]) rfl ?_
      refine lv_iconst (v := 1) hx hb dX8_log_45 (by decide) ?_
      refine lv_isub hx hb dX8_log_46 ?_
      refine lv_iload_n hx hb dX8_log_47 rfl (lv_at hl 1 rfl) ?_
      refine lv_isub hx hb dX8_log_48 ?_
      refine lv_imul hx hb dX8_log_49 ?_
      refine lv_iadd hx hb dX8_log_50 ?_
      refine lv_iload_n hx hb dX8_log_51 rfl (lv_at hl 2 rfl) ?_
      refine lv_iadd hx hb dX8_log_52 ?_
      replace hF := ix_s hF
      obtain ⟨hi_9, hF⟩ := hF
      refine va_iald hx hb hK hP 1 0 rfl rfl hi_9 dX8_log_53 ?_
      refine lv_goto (tgt := 59) hx hb dX8_log_54 (by decide) ?_
      rw [hQ]
      obtain e9_0 := inj1 hF
      exact W.iret (v := c_now (((85 : Int32) + ((3 : Int32) * (((c_now 84) - (1 : Int32)) - p1))) + p2).toNatClampNeg) hx hb hr (fun tt ht hW => ⟨_, rfl, e9_0, ht⟩) (fun _ h => by cases h) dX8_log_59

def B_X8_quietOnes_4 (K : Nat) (c_sites : Int32) (c_now : Nat → Int32) (x1 : Int32) (x2 : Int32) : Option ((Int32 × Int32) ⊕ (Int32)) :=
  if c_sites ≤ x2 then some (.inr x1) else bd1 (F_X8_isQuiet K x2 c_now c_sites) (fun r_2 => if r_2 = (0 : Int32) then some (.inl (x1 ||| (0 : Int32), x2 + (1 : Int32))) else some (.inl (x1 ||| ((1 : Int32) <<< (x2 &&& (31 : Int32))), x2 + (1 : Int32))))
def F_X8_quietOnes (K : Nat) (c_now : Nat → Int32) (c_sites : Int32) : Option (Int32) :=
  bd1 (lpF (fun u9 : Int32 × Int32 => B_X8_quietOnes_4 K c_sites c_now u9.1 u9.2) K ((0 : Int32), (0 : Int32))) (fun x1_6 => some x1_6)
abbrev w_X8_quietOnes (E : EE) (a_ a_tape a_readPlace a_script a_scriptLong a_now a_refused a_shareX a_shareY a_askedRow a_kept a_aside a_spelled a_image : Nat) (c_thrown : Int32) (c_taped : Int32) (c_at : Int32) (c_part : Int32) (c_partFrom : Int32) (c_partNumber : Int32) (c_wrong : Int32) (c_partWord : Int64) (c_readLaw : Int32) (c_readBound : Int32) (c_readGoal : Int32) (c_readSites : Int32) (c_scripts : Int32) (c_sites : Int32) (c_asked : Int32) (c_outcome : Int32) (c_took : Int32) (c_acts : Int32) (c_drawn : Int64) (c_racer : Int32) (c_raced : Int32) (c_spelledMany : Int32) (c_hasImage : Int32) (c_now : Nat → Int32) : va_W := [(a_, .inr (9, [.int c_thrown, .ref a_tape, .int c_taped, .int c_at, .int c_part, .int c_partFrom, .int c_partNumber, .int c_wrong, .long c_partWord, .int c_readLaw, .int c_readBound, .int c_readGoal, .int c_readSites, .ref a_readPlace, .ref a_script, .ref a_scriptLong, .int c_scripts, .ref a_now, .ref a_refused, .int c_sites, .ref a_shareX, .ref a_shareY, .int c_asked, .int c_outcome, .ref a_askedRow, .int c_took, .ref a_kept, .int c_acts, .long c_drawn, .ref a_aside, .int c_racer, .int c_raced, .ref a_spelled, .int c_spelledMany, .ref a_image, .int c_hasImage])), (a_now, .inl (E.2.1, 265, .inl c_now))]
def v_f_X8_quietOnes : List Cond := List.cons (.code yX8_quietOnes cX8_quietOnes 3 (some .int)) (HAppend.hAppend (α := List Cond) (β := List Cond) (γ := List Cond) [.fieldLink RX8 196 "HushWatchModel" "sites" "I", .methodLink RX8 254 yX8_isQuiet, .instanceMethod yX8_isQuiet, .selects RX8 yX8_isQuiet yX8_isQuiet, .initialized RX8] (HAppend.hAppend (α := List Cond) (β := List Cond) (γ := List Cond) wsX80 (HAppend.hAppend (α := List Cond) (β := List Cond) (γ := List Cond) v_f_X8_isQuiet [])))
theorem gw_f_X8_quietOnes : v_f_X8_quietOnes.all goodWord = true := by decide +kernel
theorem i_f_X8_quietOnes_X8 : ∀ w ∈ wsX80, w ∈ v_f_X8_quietOnes := fun _ h => List.mem_cons_of_mem _ (List.mem_append_right _ (List.mem_append_left _ h))
theorem g_f_X8_quietOnes_f_X8_isQuiet_254 : GoodIn v_f_X8_quietOnes (wsV RX8 254 RX8 yX8_isQuiet v_f_X8_isQuiet) := goodIn_app (goodIn_of _ (by decide +kernel)) (goodIn_sub (fun _ h => List.mem_cons_of_mem _ (List.mem_append_right _ (List.mem_append_right _ (List.mem_append_left _ h)))) gw_f_X8_isQuiet)
theorem hd_X8_quietOnes : yX8_quietOnes.cls = RX8 ∧ yX8_quietOnes.cls ≠ "java/lang/invoke/MethodHandle" ∧ yX8_quietOnes.cls ≠ "java/lang/invoke/VarHandle" ∧ (parseMethodDescriptor yX8_quietOnes.desc).map (fun d => d.parameters.length) = some 0 := by decide +kernel
set_option maxHeartbeats 4000000 in
set_option maxRecDepth 100000 in
theorem wb_X8_quietOnes_4 {p : Program} (l : Launch) {e : Env} {s : State} {m : MethodId} {below : List Frame} {meth : Method} {c : Code} {Q : State → Prop} (E : EE) (K : Nat) {a_ a_tape a_readPlace a_script a_scriptLong a_now a_refused a_shareX a_shareY a_askedRow a_kept a_aside a_spelled a_image : Nat} {c_thrown : Int32} {c_taped : Int32} {c_at : Int32} {c_part : Int32} {c_partFrom : Int32} {c_partNumber : Int32} {c_wrong : Int32} {c_partWord : Int64} {c_readLaw : Int32} {c_readBound : Int32} {c_readGoal : Int32} {c_readSites : Int32} {c_scripts : Int32} {c_sites : Int32} {c_asked : Int32} {c_outcome : Int32} {c_took : Int32} {c_acts : Int32} {c_drawn : Int64} {c_racer : Int32} {c_raced : Int32} {c_spelledMany : Int32} {c_hasImage : Int32} {c_now : Nat → Int32} {x1 : Int32} {x2 : Int32} (hx : p.tables.exec = Jvm.exec) (hb : c.code = cX8_quietOnes) (hml : c.maxLocals = 3) (hown : s.vm.findClass RX8 = some m.cls) (hts : ∀ w ∈ v_f_X8_quietOnes, w.before #[Value.ref a_] s = true) (hK : va_K E.1 vwCl (TY E) s) (hN : NX s) {xx : (Int32 × Int32) ⊕ (Int32)} (hC : ∀ (x1 : Int32), ∀ (x2 : Int32), xx = .inl (x1, x2) → ∀ (ls : Array Slot), lv_has ls 3 [(0, .ref a_), (1, .int x1), (2, .int x2)] → W p l e ({ frames := 4, cells := 0, slots := 0, locals := 93 } : Room) s m #[Value.ref a_] below meth c s.heap [] 0 0 Q (F0 m 4 ls [])) (hE : ∀ (x1 : Int32), xx = .inr x1 → ((∀ (ls : Array Slot), lv_has ls 3 [(1, .int x1)] → W p l e ({ frames := 4, cells := 0, slots := 0, locals := 93 } : Room) s m #[Value.ref a_] below meth c s.heap [] 0 0 Q (F0 m 36 ls [])))) (hF : B_X8_quietOnes_4 K c_sites c_now x1 x2 = some xx) (hP : va_P E.1 vwCl (w_X8_quietOnes E a_ a_tape a_readPlace a_script a_scriptLong a_now a_refused a_shareX a_shareY a_askedRow a_kept a_aside a_spelled a_image c_thrown c_taped c_at c_part c_partFrom c_partNumber c_wrong c_partWord c_readLaw c_readBound c_readGoal c_readSites c_scripts c_sites c_asked c_outcome c_took c_acts c_drawn c_racer c_raced c_spelledMany c_hasImage c_now) s.heap) : ∀ (ls : Array Slot), lv_has ls 3 [(0, .ref a_), (1, .int x1), (2, .int x2)] → W p l e ({ frames := 4, cells := 0, slots := 0, locals := 93 } : Room) s m #[Value.ref a_] below meth c s.heap [] 0 0 Q (F0 m 4 ls []) := by
  unfold B_X8_quietOnes_4 at hF
  replace hP : va_P E.1 vwCl [(a_, .inr (9, [.int c_thrown, .ref a_tape, .int c_taped, .int c_at, .int c_part, .int c_partFrom, .int c_partNumber, .int c_wrong, .long c_partWord, .int c_readLaw, .int c_readBound, .int c_readGoal, .int c_readSites, .ref a_readPlace, .ref a_script, .ref a_scriptLong, .int c_scripts, .ref a_now, .ref a_refused, .int c_sites, .ref a_shareX, .ref a_shareY, .int c_asked, .int c_outcome, .ref a_askedRow, .int c_took, .ref a_kept, .int c_acts, .long c_drawn, .ref a_aside, .int c_racer, .int c_raced, .ref a_spelled, .int c_spelledMany, .ref a_image, .int c_hasImage])), (a_now, .inl (E.2.1, 265, .inl c_now))] s.heap := hP
  intro ls hl
  refine lv_iload_n hx hb dX8_quietOnes_4 rfl (lv_at hl 2 rfl) ?_
  refine lv_aload_n hx hb dX8_quietOnes_5 rfl (lv_at hl 0 rfl) ?_
  refine gt_X8_19 (v := .int c_sites) hx hb hts i_f_X8_quietOnes_X8 hown hK hP 0 rfl (hts (.fieldLink RX8 196 "HushWatchModel" "sites" "I") (List.mem_of_getElem? (i := 1) rfl)) rfl dX8_quietOnes_6 ?_
  refine lv_icmp_ge (tgt := 36) hx hb dX8_quietOnes_9 (by decide) (fun c_1 => ?_) (fun c_1 => ?_)
  ·
    replace hF := ip c_1 hF
    cases hF
    exact hE x1 rfl ls (lv_sub hl [1] rfl)
  ·
    replace hF := inn c_1 hF
    refine lv_iload_n hx hb dX8_quietOnes_12 rfl (lv_at hl 1 rfl) ?_
    refine lv_aload_n hx hb dX8_quietOnes_13 rfl (lv_at hl 0 rfl) ?_
    refine lv_iload_n hx hb dX8_quietOnes_14 rfl (lv_at hl 2 rfl) ?_
    replace hF := bd1_s hF
    obtain ⟨r_2, hc_3, hF⟩ := hF
    have hPc : va_P E.1 vwCl (w_X8_isQuiet E a_ a_tape a_readPlace a_script a_scriptLong a_now a_refused a_shareX a_shareY a_askedRow a_kept a_aside a_spelled a_image c_thrown c_taped c_at c_part c_partFrom c_partNumber c_wrong c_partWord c_readLaw c_readBound c_readGoal c_readSites c_scripts c_sites c_asked c_outcome c_took c_acts c_drawn c_racer c_raced c_spelledMany c_hasImage c_now) s.heap := hP.sub (ws' := [(a_, .inr (9, [.int c_thrown, .ref a_tape, .int c_taped, .int c_at, .int c_part, .int c_partFrom, .int c_partNumber, .int c_wrong, .long c_partWord, .int c_readLaw, .int c_readBound, .int c_readGoal, .int c_readSites, .ref a_readPlace, .ref a_script, .ref a_scriptLong, .int c_scripts, .ref a_now, .ref a_refused, .int c_sites, .ref a_shareX, .ref a_shareY, .int c_asked, .int c_outcome, .ref a_askedRow, .int c_took, .ref a_kept, .int c_acts, .long c_drawn, .ref a_aside, .int c_racer, .int c_raced, .ref a_spelled, .int c_spelledMany, .ref a_image, .int c_hasImage])), (a_now, .inl (E.2.1, 265, .inl c_now))]) [0, 1] rfl
    have hrc := va_recv hK hPc (ci := 9) (q0 := 0) rfl rfl
    refine pE_z (va_runV (As := [.int x2]) (rest := [.int x1])  ⟨hx, hb, hml, hown, hts⟩ (f_X8_isQuiet l E K (a_ := a_) (a_tape := a_tape) (a_readPlace := a_readPlace) (a_script := a_script) (a_scriptLong := a_scriptLong) (a_now := a_now) (a_refused := a_refused) (a_shareX := a_shareX) (a_shareY := a_shareY) (a_askedRow := a_askedRow) (a_kept := a_kept) (a_aside := a_aside) (a_spelled := a_spelled) (a_image := a_image) (p1 := x2) (c_thrown := c_thrown) (c_taped := c_taped) (c_at := c_at) (c_part := c_part) (c_partFrom := c_partFrom) (c_partNumber := c_partNumber) (c_wrong := c_wrong) (c_partWord := c_partWord) (c_readLaw := c_readLaw) (c_readBound := c_readBound) (c_readGoal := c_readGoal) (c_readSites := c_readSites) (c_scripts := c_scripts) (c_sites := c_sites) (c_asked := c_asked) (c_outcome := c_outcome) (c_took := c_took) (c_acts := c_acts) (c_drawn := c_drawn) (c_racer := c_racer) (c_raced := c_raced) (c_spelledMany := c_spelledMany) (c_hasImage := c_hasImage) (c_now := c_now) hc_3) (cwV 1 hts g_f_X8_quietOnes_f_X8_isQuiet_254 rfl rfl rfl hd_X8_isQuiet ⟨Nat.le_of_ble_eq_true rfl, Nat.le_of_ble_eq_true rfl⟩) ⟨pP.blind, hrc, (pP.pre ⟨hK, hN⟩ hPc)⟩ rfl rfl hl.1 rfl (lv_room (Nat.le_of_ble_eq_true rfl)) dX8_quietOnes_15 ⟨Nat.le_of_ble_eq_true rfl, Nat.le_of_ble_eq_true rfl⟩) (fun hb_4 => ?_)
    refine lv_if_eq (tgt := 27) hx hb dX8_quietOnes_18 (by decide) (fun c_5 => ?_) (fun c_5 => ?_)
    ·
      replace hF := ip c_5 hF
      refine lv_iconst (v := 0) hx hb dX8_quietOnes_27 (by decide) ?_
      refine lv_ior hx hb dX8_quietOnes_28 ?_
      refine lv_istore_n (lv' := [(1, .int (x1 ||| (0 : Int32))), (0, .ref a_), (2, .int x2)]) hx hb dX8_quietOnes_29 rfl hl (by decide) rfl (fun ls hl => ?_)
      refine lv_iinc (v := x2 + (1 : Int32)) (lv' := [(2, .int (x2 + (1 : Int32))), (1, .int (x1 ||| (0 : Int32))), (0, .ref a_)]) hx hb dX8_quietOnes_30 hl (k := 2) rfl (rfl) (by decide) rfl (fun ls hl => ?_)
      refine lv_goto (tgt := 4) hx hb dX8_quietOnes_33 (by decide) ?_
      cases hF
      exact hC (x1 ||| (0 : Int32)) (x2 + (1 : Int32)) rfl ls (lv_sub hl [2, 1, 0] rfl)
    ·
      replace hF := inn c_5 hF
      refine lv_iconst (v := 1) hx hb dX8_quietOnes_21 (by decide) ?_
      refine lv_iload_n hx hb dX8_quietOnes_22 rfl (lv_at hl 2 rfl) ?_
      refine lv_ishl hx hb dX8_quietOnes_23 ?_
      refine lv_goto (tgt := 28) hx hb dX8_quietOnes_24 (by decide) ?_
      refine lv_ior hx hb dX8_quietOnes_28 ?_
      refine lv_istore_n (lv' := [(1, .int (x1 ||| ((1 : Int32) <<< (x2 &&& (31 : Int32))))), (0, .ref a_), (2, .int x2)]) hx hb dX8_quietOnes_29 rfl hl (by decide) rfl (fun ls hl => ?_)
      refine lv_iinc (v := x2 + (1 : Int32)) (lv' := [(2, .int (x2 + (1 : Int32))), (1, .int (x1 ||| ((1 : Int32) <<< (x2 &&& (31 : Int32))))), (0, .ref a_)]) hx hb dX8_quietOnes_30 hl (k := 2) rfl (rfl) (by decide) rfl (fun ls hl => ?_)
      refine lv_goto (tgt := 4) hx hb dX8_quietOnes_33 (by decide) ?_
      cases hF
      exact hC (x1 ||| ((1 : Int32) <<< (x2 &&& (31 : Int32)))) (x2 + (1 : Int32)) rfl ls (lv_sub hl [2, 1, 0] rfl)

set_option maxHeartbeats 4000000 in
set_option maxRecDepth 100000 in
theorem lw_X8_quietOnes_4 {p : Program} (l : Launch) {e : Env} {s : State} {m : MethodId} {below : List Frame} {meth : Method} {c : Code} {Q : State → Prop} (E : EE) (K : Nat) {a_ a_tape a_readPlace a_script a_scriptLong a_now a_refused a_shareX a_shareY a_askedRow a_kept a_aside a_spelled a_image : Nat} {c_thrown : Int32} {c_taped : Int32} {c_at : Int32} {c_part : Int32} {c_partFrom : Int32} {c_partNumber : Int32} {c_wrong : Int32} {c_partWord : Int64} {c_readLaw : Int32} {c_readBound : Int32} {c_readGoal : Int32} {c_readSites : Int32} {c_scripts : Int32} {c_sites : Int32} {c_asked : Int32} {c_outcome : Int32} {c_took : Int32} {c_acts : Int32} {c_drawn : Int64} {c_racer : Int32} {c_raced : Int32} {c_spelledMany : Int32} {c_hasImage : Int32} {c_now : Nat → Int32} (hx : p.tables.exec = Jvm.exec) (hb : c.code = cX8_quietOnes) (hml : c.maxLocals = 3) (hown : s.vm.findClass RX8 = some m.cls) (hts : ∀ w ∈ v_f_X8_quietOnes, w.before #[Value.ref a_] s = true) (hK : va_K E.1 vwCl (TY E) s) (hN : NX s) (hP : va_P E.1 vwCl (w_X8_quietOnes E a_ a_tape a_readPlace a_script a_scriptLong a_now a_refused a_shareX a_shareY a_askedRow a_kept a_aside a_spelled a_image c_thrown c_taped c_at c_part c_partFrom c_partNumber c_wrong c_partWord c_readLaw c_readBound c_readGoal c_readSites c_scripts c_sites c_asked c_outcome c_took c_acts c_drawn c_racer c_raced c_spelledMany c_hasImage c_now) s.heap) (j9 : Nat) (x1 : Int32) (x2 : Int32) (x1' : Int32) (hL : lpF (fun u9 : Int32 × Int32 => B_X8_quietOnes_4 K c_sites c_now u9.1 u9.2) j9 (x1, x2) = some x1') (hX : (∀ (ls : Array Slot), lv_has ls 3 [(1, .int x1')] → W p l e ({ frames := 4, cells := 0, slots := 0, locals := 93 } : Room) s m #[Value.ref a_] below meth c s.heap [] 0 0 Q (F0 m 36 ls []))) : ∀ (ls : Array Slot), lv_has ls 3 [(0, .ref a_), (1, .int x1), (2, .int x2)] → W p l e ({ frames := 4, cells := 0, slots := 0, locals := 93 } : Room) s m #[Value.ref a_] below meth c s.heap [] 0 0 Q (F0 m 4 ls []) := by
  exact lp_rule (P := (fun u9 : Int32 × Int32 => ∀ (ls : Array Slot), lv_has ls 3 [(0, .ref a_), (1, .int u9.1), (2, .int u9.2)] → W p l e ({ frames := 4, cells := 0, slots := 0, locals := 93 } : Room) s m #[Value.ref a_] below meth c s.heap [] 0 0 Q (F0 m 4 ls []))) (R := (fun r9 : Int32 => (∀ (ls : Array Slot), lv_has ls 3 [(1, .int r9)] → W p l e ({ frames := 4, cells := 0, slots := 0, locals := 93 } : Room) s m #[Value.ref a_] below meth c s.heap [] 0 0 Q (F0 m 36 ls [])))) (fun u9 xx hF hC hE => wb_X8_quietOnes_4 l E K (c_thrown := c_thrown) (c_taped := c_taped) (c_at := c_at) (c_part := c_part) (c_partFrom := c_partFrom) (c_partNumber := c_partNumber) (c_wrong := c_wrong) (c_partWord := c_partWord) (c_readLaw := c_readLaw) (c_readBound := c_readBound) (c_readGoal := c_readGoal) (c_readSites := c_readSites) (c_scripts := c_scripts) (c_sites := c_sites) (c_asked := c_asked) (c_outcome := c_outcome) (c_took := c_took) (c_acts := c_acts) (c_drawn := c_drawn) (c_racer := c_racer) (c_raced := c_raced) (c_spelledMany := c_spelledMany) (c_hasImage := c_hasImage) (c_now := c_now) (x1 := u9.1) (x2 := u9.2) hx hb hml hown hts hK hN (fun x1 x2 q9 => hC _ q9) (fun x1 q9 => hE _ q9) hF hP) j9 (x1, x2) x1' hL hX

set_option maxHeartbeats 4000000 in
set_option maxRecDepth 100000 in
theorem f_X8_quietOnes (l : Launch) (E : EE) (K : Nat) {a_ a_tape a_readPlace a_script a_scriptLong a_now a_refused a_shareX a_shareY a_askedRow a_kept a_aside a_spelled a_image : Nat} {c_thrown : Int32} {c_taped : Int32} {c_at : Int32} {c_part : Int32} {c_partFrom : Int32} {c_partNumber : Int32} {c_wrong : Int32} {c_partWord : Int64} {c_readLaw : Int32} {c_readBound : Int32} {c_readGoal : Int32} {c_readSites : Int32} {c_scripts : Int32} {c_sites : Int32} {c_asked : Int32} {c_outcome : Int32} {c_took : Int32} {c_acts : Int32} {c_drawn : Int64} {c_racer : Int32} {c_raced : Int32} {c_spelledMany : Int32} {c_hasImage : Int32} {c_now : Nat → Int32} {rr : Int32} (hF : F_X8_quietOnes K c_now c_sites = some rr) : Met l yX8_quietOnes v_f_X8_quietOnes (({ frames := 4, cells := 0, slots := 0, locals := 93 } : Room)) (va_Pc [.ref a_] (pP E (w_X8_quietOnes E a_ a_tape a_readPlace a_script a_scriptLong a_now a_refused a_shareX a_shareY a_askedRow a_kept a_aside a_spelled a_image c_thrown c_taped c_at c_part c_partFrom c_partNumber c_wrong c_partWord c_readLaw c_readBound c_readGoal c_readSites c_scripts c_sites c_asked c_outcome c_took c_acts c_drawn c_racer c_raced c_spelledMany c_hasImage c_now))) (vp_Si (fun q : Int32 => q = rr)) 0 0 (fun _ => False) := by
  refine Met.ofW (cc := cX8_quietOnes) (maxL := 3) (ret := (some .int)) (by decide) rfl ?_
  intro p e s m args below meth c s₁ B hml hv
  obtain ⟨rfl, ⟨hK, hN⟩, hP⟩ := hv
  have hx := B.exec
  have hb := B.bytes
  have hr := B.returns
  have hts := atoms_spec (ws := v_f_X8_quietOnes) B.pre
  have hown : s.vm.findClass RX8 = some m.cls := own_of hd_X8_quietOnes.1 (findClass_of_methodNamed B.named)
  have hlocks : meth.locks = false := B.notSynchronized
  replace hP : va_P E.1 vwCl [(a_, .inr (9, [.int c_thrown, .ref a_tape, .int c_taped, .int c_at, .int c_part, .int c_partFrom, .int c_partNumber, .int c_wrong, .long c_partWord, .int c_readLaw, .int c_readBound, .int c_readGoal, .int c_readSites, .ref a_readPlace, .ref a_script, .ref a_scriptLong, .int c_scripts, .ref a_now, .ref a_refused, .int c_sites, .ref a_shareX, .ref a_shareY, .int c_asked, .int c_outcome, .ref a_askedRow, .int c_took, .ref a_kept, .int c_acts, .long c_drawn, .ref a_aside, .int c_racer, .int c_raced, .ref a_spelled, .int c_spelledMany, .ref a_image, .int c_hasImage])), (a_now, .inl (E.2.1, 265, .inl c_now))] s.heap := hP
  have hl := lv_entry ([.ref a_]) (n := 3) (Nat.le_of_ble_eq_true rfl)
  rw [lg_entry_eq]
  generalize (lg_sl ([.ref a_]) ++ List.replicate (3 - (lg_sl ([.ref a_])).length) Slot.unset).toArray = ls at hl ⊢
  have hl : lv_has ls 3 [(0, .ref a_)] := hl
  obtain ⟨Q, hQ⟩ : ∃ Q : State → Prop, Q = MQ below (vp_Si (fun q : Int32 => q = rr)) #[Value.ref a_] s 0 0 (fun _ => False) := ⟨_, rfl⟩
  rw [← hQ]
  change W p l e ({ frames := 4, cells := 0, slots := 0, locals := 93 } : Room) s m #[Value.ref a_] below meth c s.heap [] 0 0 Q (F0 m 0 ls [])
  unfold F_X8_quietOnes at hF
  refine lv_iconst (v := 0) hx hb dX8_quietOnes_0 (by decide) ?_
  refine lv_istore_n (lv' := [(1, .int (0 : Int32)), (0, .ref a_)]) hx hb dX8_quietOnes_1 rfl hl (by decide) rfl (fun ls hl => ?_)
  refine lv_iconst (v := 0) hx hb dX8_quietOnes_2 (by decide) ?_
  refine lv_istore_n (lv' := [(2, .int (0 : Int32)), (1, .int (0 : Int32)), (0, .ref a_)]) hx hb dX8_quietOnes_3 rfl hl (by decide) rfl (fun ls hl => ?_)
  replace hF := bd1_s hF
  obtain ⟨x1_6, hL_7, hF⟩ := hF
  refine lw_X8_quietOnes_4 l E K (c_thrown := c_thrown) (c_taped := c_taped) (c_at := c_at) (c_part := c_part) (c_partFrom := c_partFrom) (c_partNumber := c_partNumber) (c_wrong := c_wrong) (c_partWord := c_partWord) (c_readLaw := c_readLaw) (c_readBound := c_readBound) (c_readGoal := c_readGoal) (c_readSites := c_readSites) (c_scripts := c_scripts) (c_sites := c_sites) (c_asked := c_asked) (c_outcome := c_outcome) (c_took := c_took) (c_acts := c_acts) (c_drawn := c_drawn) (c_racer := c_racer) (c_raced := c_raced) (c_spelledMany := c_spelledMany) (c_hasImage := c_hasImage) (c_now := c_now) hx hb hml hown hts hK hN hP K (0 : Int32) (0 : Int32) x1_6 hL_7 ?_ ls (lv_sub hl [2, 1, 0] rfl)
  ·
    intro ls hl
    refine lv_iload_n hx hb dX8_quietOnes_36 rfl (lv_at hl 0 rfl) ?_
    rw [hQ]
    obtain e9_0 := inj1 hF
    exact W.iret (v := x1_6) hx hb hr (fun tt ht hW => ⟨_, rfl, e9_0, ht⟩) (fun _ h => by cases h) dX8_quietOnes_37

def B_X8_slackOnes_4 (c_sites : Int32) (c_now : Nat → Int32) (x1 : Int32) (x2 : Int32) : Option ((Int32 × Int32) ⊕ (Int32)) :=
  if c_sites ≤ x2 then some (.inr x1) else bd1 (F_X8_slackOf x2 c_now) (fun r_2 => if r_2 ≤ (0 : Int32) then some (.inl (x1 ||| (0 : Int32), x2 + (1 : Int32))) else some (.inl (x1 ||| ((1 : Int32) <<< (x2 &&& (31 : Int32))), x2 + (1 : Int32))))
def F_X8_slackOnes (K : Nat) (c_now : Nat → Int32) (c_sites : Int32) : Option (Int32) :=
  bd1 (lpF (fun u9 : Int32 × Int32 => B_X8_slackOnes_4 c_sites c_now u9.1 u9.2) K ((0 : Int32), (0 : Int32))) (fun x1_5 => some x1_5)
abbrev w_X8_slackOnes (E : EE) (a_ a_tape a_readPlace a_script a_scriptLong a_now a_refused a_shareX a_shareY a_askedRow a_kept a_aside a_spelled a_image : Nat) (c_thrown : Int32) (c_taped : Int32) (c_at : Int32) (c_part : Int32) (c_partFrom : Int32) (c_partNumber : Int32) (c_wrong : Int32) (c_partWord : Int64) (c_readLaw : Int32) (c_readBound : Int32) (c_readGoal : Int32) (c_readSites : Int32) (c_scripts : Int32) (c_sites : Int32) (c_asked : Int32) (c_outcome : Int32) (c_took : Int32) (c_acts : Int32) (c_drawn : Int64) (c_racer : Int32) (c_raced : Int32) (c_spelledMany : Int32) (c_hasImage : Int32) (c_now : Nat → Int32) : va_W := [(a_, .inr (9, [.int c_thrown, .ref a_tape, .int c_taped, .int c_at, .int c_part, .int c_partFrom, .int c_partNumber, .int c_wrong, .long c_partWord, .int c_readLaw, .int c_readBound, .int c_readGoal, .int c_readSites, .ref a_readPlace, .ref a_script, .ref a_scriptLong, .int c_scripts, .ref a_now, .ref a_refused, .int c_sites, .ref a_shareX, .ref a_shareY, .int c_asked, .int c_outcome, .ref a_askedRow, .int c_took, .ref a_kept, .int c_acts, .long c_drawn, .ref a_aside, .int c_racer, .int c_raced, .ref a_spelled, .int c_spelledMany, .ref a_image, .int c_hasImage])), (a_now, .inl (E.2.1, 265, .inl c_now))]
def v_f_X8_slackOnes : List Cond := List.cons (.code yX8_slackOnes cX8_slackOnes 3 (some .int)) (HAppend.hAppend (α := List Cond) (β := List Cond) (γ := List Cond) [.fieldLink RX8 196 "HushWatchModel" "sites" "I", .methodLink RX8 420 yX8_slackOf, .instanceMethod yX8_slackOf, .selects RX8 yX8_slackOf yX8_slackOf, .initialized RX8] (HAppend.hAppend (α := List Cond) (β := List Cond) (γ := List Cond) wsX80 (HAppend.hAppend (α := List Cond) (β := List Cond) (γ := List Cond) v_f_X8_slackOf [])))
theorem gw_f_X8_slackOnes : v_f_X8_slackOnes.all goodWord = true := by decide +kernel
theorem i_f_X8_slackOnes_X8 : ∀ w ∈ wsX80, w ∈ v_f_X8_slackOnes := fun _ h => List.mem_cons_of_mem _ (List.mem_append_right _ (List.mem_append_left _ h))
theorem g_f_X8_slackOnes_f_X8_slackOf_420 : GoodIn v_f_X8_slackOnes (wsV RX8 420 RX8 yX8_slackOf v_f_X8_slackOf) := goodIn_app (goodIn_of _ (by decide +kernel)) (goodIn_sub (fun _ h => List.mem_cons_of_mem _ (List.mem_append_right _ (List.mem_append_right _ (List.mem_append_left _ h)))) gw_f_X8_slackOf)
theorem hd_X8_slackOnes : yX8_slackOnes.cls = RX8 ∧ yX8_slackOnes.cls ≠ "java/lang/invoke/MethodHandle" ∧ yX8_slackOnes.cls ≠ "java/lang/invoke/VarHandle" ∧ (parseMethodDescriptor yX8_slackOnes.desc).map (fun d => d.parameters.length) = some 0 := by decide +kernel
set_option maxHeartbeats 4000000 in
set_option maxRecDepth 100000 in
theorem wb_X8_slackOnes_4 {p : Program} (l : Launch) {e : Env} {s : State} {m : MethodId} {below : List Frame} {meth : Method} {c : Code} {Q : State → Prop} (E : EE) (K : Nat) {a_ a_tape a_readPlace a_script a_scriptLong a_now a_refused a_shareX a_shareY a_askedRow a_kept a_aside a_spelled a_image : Nat} {c_thrown : Int32} {c_taped : Int32} {c_at : Int32} {c_part : Int32} {c_partFrom : Int32} {c_partNumber : Int32} {c_wrong : Int32} {c_partWord : Int64} {c_readLaw : Int32} {c_readBound : Int32} {c_readGoal : Int32} {c_readSites : Int32} {c_scripts : Int32} {c_sites : Int32} {c_asked : Int32} {c_outcome : Int32} {c_took : Int32} {c_acts : Int32} {c_drawn : Int64} {c_racer : Int32} {c_raced : Int32} {c_spelledMany : Int32} {c_hasImage : Int32} {c_now : Nat → Int32} {x1 : Int32} {x2 : Int32} (hx : p.tables.exec = Jvm.exec) (hb : c.code = cX8_slackOnes) (hml : c.maxLocals = 3) (hown : s.vm.findClass RX8 = some m.cls) (hts : ∀ w ∈ v_f_X8_slackOnes, w.before #[Value.ref a_] s = true) (hK : va_K E.1 vwCl (TY E) s) (hN : NX s) {xx : (Int32 × Int32) ⊕ (Int32)} (hC : ∀ (x1 : Int32), ∀ (x2 : Int32), xx = .inl (x1, x2) → ∀ (ls : Array Slot), lv_has ls 3 [(0, .ref a_), (1, .int x1), (2, .int x2)] → W p l e ({ frames := 2, cells := 0, slots := 0, locals := 41 } : Room) s m #[Value.ref a_] below meth c s.heap [] 0 0 Q (F0 m 4 ls [])) (hE : ∀ (x1 : Int32), xx = .inr x1 → ((∀ (ls : Array Slot), lv_has ls 3 [(1, .int x1)] → W p l e ({ frames := 2, cells := 0, slots := 0, locals := 41 } : Room) s m #[Value.ref a_] below meth c s.heap [] 0 0 Q (F0 m 36 ls [])))) (hF : B_X8_slackOnes_4 c_sites c_now x1 x2 = some xx) (hP : va_P E.1 vwCl (w_X8_slackOnes E a_ a_tape a_readPlace a_script a_scriptLong a_now a_refused a_shareX a_shareY a_askedRow a_kept a_aside a_spelled a_image c_thrown c_taped c_at c_part c_partFrom c_partNumber c_wrong c_partWord c_readLaw c_readBound c_readGoal c_readSites c_scripts c_sites c_asked c_outcome c_took c_acts c_drawn c_racer c_raced c_spelledMany c_hasImage c_now) s.heap) : ∀ (ls : Array Slot), lv_has ls 3 [(0, .ref a_), (1, .int x1), (2, .int x2)] → W p l e ({ frames := 2, cells := 0, slots := 0, locals := 41 } : Room) s m #[Value.ref a_] below meth c s.heap [] 0 0 Q (F0 m 4 ls []) := by
  unfold B_X8_slackOnes_4 at hF
  replace hP : va_P E.1 vwCl [(a_, .inr (9, [.int c_thrown, .ref a_tape, .int c_taped, .int c_at, .int c_part, .int c_partFrom, .int c_partNumber, .int c_wrong, .long c_partWord, .int c_readLaw, .int c_readBound, .int c_readGoal, .int c_readSites, .ref a_readPlace, .ref a_script, .ref a_scriptLong, .int c_scripts, .ref a_now, .ref a_refused, .int c_sites, .ref a_shareX, .ref a_shareY, .int c_asked, .int c_outcome, .ref a_askedRow, .int c_took, .ref a_kept, .int c_acts, .long c_drawn, .ref a_aside, .int c_racer, .int c_raced, .ref a_spelled, .int c_spelledMany, .ref a_image, .int c_hasImage])), (a_now, .inl (E.2.1, 265, .inl c_now))] s.heap := hP
  intro ls hl
  refine lv_iload_n hx hb dX8_slackOnes_4 rfl (lv_at hl 2 rfl) ?_
  refine lv_aload_n hx hb dX8_slackOnes_5 rfl (lv_at hl 0 rfl) ?_
  refine gt_X8_19 (v := .int c_sites) hx hb hts i_f_X8_slackOnes_X8 hown hK hP 0 rfl (hts (.fieldLink RX8 196 "HushWatchModel" "sites" "I") (List.mem_of_getElem? (i := 1) rfl)) rfl dX8_slackOnes_6 ?_
  refine lv_icmp_ge (tgt := 36) hx hb dX8_slackOnes_9 (by decide) (fun c_1 => ?_) (fun c_1 => ?_)
  ·
    replace hF := ip c_1 hF
    cases hF
    exact hE x1 rfl ls (lv_sub hl [1] rfl)
  ·
    replace hF := inn c_1 hF
    refine lv_iload_n hx hb dX8_slackOnes_12 rfl (lv_at hl 1 rfl) ?_
    refine lv_aload_n hx hb dX8_slackOnes_13 rfl (lv_at hl 0 rfl) ?_
    refine lv_iload_n hx hb dX8_slackOnes_14 rfl (lv_at hl 2 rfl) ?_
    replace hF := bd1_s hF
    obtain ⟨r_2, hc_3, hF⟩ := hF
    have hPc : va_P E.1 vwCl (w_X8_slackOf E a_ a_tape a_readPlace a_script a_scriptLong a_now a_refused a_shareX a_shareY a_askedRow a_kept a_aside a_spelled a_image c_thrown c_taped c_at c_part c_partFrom c_partNumber c_wrong c_partWord c_readLaw c_readBound c_readGoal c_readSites c_scripts c_sites c_asked c_outcome c_took c_acts c_drawn c_racer c_raced c_spelledMany c_hasImage c_now) s.heap := hP.sub (ws' := [(a_, .inr (9, [.int c_thrown, .ref a_tape, .int c_taped, .int c_at, .int c_part, .int c_partFrom, .int c_partNumber, .int c_wrong, .long c_partWord, .int c_readLaw, .int c_readBound, .int c_readGoal, .int c_readSites, .ref a_readPlace, .ref a_script, .ref a_scriptLong, .int c_scripts, .ref a_now, .ref a_refused, .int c_sites, .ref a_shareX, .ref a_shareY, .int c_asked, .int c_outcome, .ref a_askedRow, .int c_took, .ref a_kept, .int c_acts, .long c_drawn, .ref a_aside, .int c_racer, .int c_raced, .ref a_spelled, .int c_spelledMany, .ref a_image, .int c_hasImage])), (a_now, .inl (E.2.1, 265, .inl c_now))]) [0, 1] rfl
    have hrc := va_recv hK hPc (ci := 9) (q0 := 0) rfl rfl
    refine pE_i (va_runV (As := [.int x2]) (rest := [.int x1])  ⟨hx, hb, hml, hown, hts⟩ (f_X8_slackOf l E (a_ := a_) (a_tape := a_tape) (a_readPlace := a_readPlace) (a_script := a_script) (a_scriptLong := a_scriptLong) (a_now := a_now) (a_refused := a_refused) (a_shareX := a_shareX) (a_shareY := a_shareY) (a_askedRow := a_askedRow) (a_kept := a_kept) (a_aside := a_aside) (a_spelled := a_spelled) (a_image := a_image) (p1 := x2) (c_thrown := c_thrown) (c_taped := c_taped) (c_at := c_at) (c_part := c_part) (c_partFrom := c_partFrom) (c_partNumber := c_partNumber) (c_wrong := c_wrong) (c_partWord := c_partWord) (c_readLaw := c_readLaw) (c_readBound := c_readBound) (c_readGoal := c_readGoal) (c_readSites := c_readSites) (c_scripts := c_scripts) (c_sites := c_sites) (c_asked := c_asked) (c_outcome := c_outcome) (c_took := c_took) (c_acts := c_acts) (c_drawn := c_drawn) (c_racer := c_racer) (c_raced := c_raced) (c_spelledMany := c_spelledMany) (c_hasImage := c_hasImage) (c_now := c_now) hc_3) (cwV 1 hts g_f_X8_slackOnes_f_X8_slackOf_420 rfl rfl rfl hd_X8_slackOf ⟨Nat.le_of_ble_eq_true rfl, Nat.le_of_ble_eq_true rfl⟩) ⟨pP.blind, hrc, (pP.pre ⟨hK, hN⟩ hPc)⟩ rfl rfl hl.1 rfl (lv_room (Nat.le_of_ble_eq_true rfl)) dX8_slackOnes_15 ⟨Nat.le_of_ble_eq_true rfl, Nat.le_of_ble_eq_true rfl⟩) ?_
    refine lv_if_le (tgt := 27) hx hb dX8_slackOnes_18 (by decide) (fun c_4 => ?_) (fun c_4 => ?_)
    ·
      replace hF := ip c_4 hF
      refine lv_iconst (v := 0) hx hb dX8_slackOnes_27 (by decide) ?_
      refine lv_ior hx hb dX8_slackOnes_28 ?_
      refine lv_istore_n (lv' := [(1, .int (x1 ||| (0 : Int32))), (0, .ref a_), (2, .int x2)]) hx hb dX8_slackOnes_29 rfl hl (by decide) rfl (fun ls hl => ?_)
      refine lv_iinc (v := x2 + (1 : Int32)) (lv' := [(2, .int (x2 + (1 : Int32))), (1, .int (x1 ||| (0 : Int32))), (0, .ref a_)]) hx hb dX8_slackOnes_30 hl (k := 2) rfl (rfl) (by decide) rfl (fun ls hl => ?_)
      refine lv_goto (tgt := 4) hx hb dX8_slackOnes_33 (by decide) ?_
      cases hF
      exact hC (x1 ||| (0 : Int32)) (x2 + (1 : Int32)) rfl ls (lv_sub hl [2, 1, 0] rfl)
    ·
      replace hF := inn c_4 hF
      refine lv_iconst (v := 1) hx hb dX8_slackOnes_21 (by decide) ?_
      refine lv_iload_n hx hb dX8_slackOnes_22 rfl (lv_at hl 2 rfl) ?_
      refine lv_ishl hx hb dX8_slackOnes_23 ?_
      refine lv_goto (tgt := 28) hx hb dX8_slackOnes_24 (by decide) ?_
      refine lv_ior hx hb dX8_slackOnes_28 ?_
      refine lv_istore_n (lv' := [(1, .int (x1 ||| ((1 : Int32) <<< (x2 &&& (31 : Int32))))), (0, .ref a_), (2, .int x2)]) hx hb dX8_slackOnes_29 rfl hl (by decide) rfl (fun ls hl => ?_)
      refine lv_iinc (v := x2 + (1 : Int32)) (lv' := [(2, .int (x2 + (1 : Int32))), (1, .int (x1 ||| ((1 : Int32) <<< (x2 &&& (31 : Int32))))), (0, .ref a_)]) hx hb dX8_slackOnes_30 hl (k := 2) rfl (rfl) (by decide) rfl (fun ls hl => ?_)
      refine lv_goto (tgt := 4) hx hb dX8_slackOnes_33 (by decide) ?_
      cases hF
      exact hC (x1 ||| ((1 : Int32) <<< (x2 &&& (31 : Int32)))) (x2 + (1 : Int32)) rfl ls (lv_sub hl [2, 1, 0] rfl)

set_option maxHeartbeats 4000000 in
set_option maxRecDepth 100000 in
theorem lw_X8_slackOnes_4 {p : Program} (l : Launch) {e : Env} {s : State} {m : MethodId} {below : List Frame} {meth : Method} {c : Code} {Q : State → Prop} (E : EE) (K : Nat) {a_ a_tape a_readPlace a_script a_scriptLong a_now a_refused a_shareX a_shareY a_askedRow a_kept a_aside a_spelled a_image : Nat} {c_thrown : Int32} {c_taped : Int32} {c_at : Int32} {c_part : Int32} {c_partFrom : Int32} {c_partNumber : Int32} {c_wrong : Int32} {c_partWord : Int64} {c_readLaw : Int32} {c_readBound : Int32} {c_readGoal : Int32} {c_readSites : Int32} {c_scripts : Int32} {c_sites : Int32} {c_asked : Int32} {c_outcome : Int32} {c_took : Int32} {c_acts : Int32} {c_drawn : Int64} {c_racer : Int32} {c_raced : Int32} {c_spelledMany : Int32} {c_hasImage : Int32} {c_now : Nat → Int32} (hx : p.tables.exec = Jvm.exec) (hb : c.code = cX8_slackOnes) (hml : c.maxLocals = 3) (hown : s.vm.findClass RX8 = some m.cls) (hts : ∀ w ∈ v_f_X8_slackOnes, w.before #[Value.ref a_] s = true) (hK : va_K E.1 vwCl (TY E) s) (hN : NX s) (hP : va_P E.1 vwCl (w_X8_slackOnes E a_ a_tape a_readPlace a_script a_scriptLong a_now a_refused a_shareX a_shareY a_askedRow a_kept a_aside a_spelled a_image c_thrown c_taped c_at c_part c_partFrom c_partNumber c_wrong c_partWord c_readLaw c_readBound c_readGoal c_readSites c_scripts c_sites c_asked c_outcome c_took c_acts c_drawn c_racer c_raced c_spelledMany c_hasImage c_now) s.heap) (j9 : Nat) (x1 : Int32) (x2 : Int32) (x1' : Int32) (hL : lpF (fun u9 : Int32 × Int32 => B_X8_slackOnes_4 c_sites c_now u9.1 u9.2) j9 (x1, x2) = some x1') (hX : (∀ (ls : Array Slot), lv_has ls 3 [(1, .int x1')] → W p l e ({ frames := 2, cells := 0, slots := 0, locals := 41 } : Room) s m #[Value.ref a_] below meth c s.heap [] 0 0 Q (F0 m 36 ls []))) : ∀ (ls : Array Slot), lv_has ls 3 [(0, .ref a_), (1, .int x1), (2, .int x2)] → W p l e ({ frames := 2, cells := 0, slots := 0, locals := 41 } : Room) s m #[Value.ref a_] below meth c s.heap [] 0 0 Q (F0 m 4 ls []) := by
  exact lp_rule (P := (fun u9 : Int32 × Int32 => ∀ (ls : Array Slot), lv_has ls 3 [(0, .ref a_), (1, .int u9.1), (2, .int u9.2)] → W p l e ({ frames := 2, cells := 0, slots := 0, locals := 41 } : Room) s m #[Value.ref a_] below meth c s.heap [] 0 0 Q (F0 m 4 ls []))) (R := (fun r9 : Int32 => (∀ (ls : Array Slot), lv_has ls 3 [(1, .int r9)] → W p l e ({ frames := 2, cells := 0, slots := 0, locals := 41 } : Room) s m #[Value.ref a_] below meth c s.heap [] 0 0 Q (F0 m 36 ls [])))) (fun u9 xx hF hC hE => wb_X8_slackOnes_4 l E K (c_thrown := c_thrown) (c_taped := c_taped) (c_at := c_at) (c_part := c_part) (c_partFrom := c_partFrom) (c_partNumber := c_partNumber) (c_wrong := c_wrong) (c_partWord := c_partWord) (c_readLaw := c_readLaw) (c_readBound := c_readBound) (c_readGoal := c_readGoal) (c_readSites := c_readSites) (c_scripts := c_scripts) (c_sites := c_sites) (c_asked := c_asked) (c_outcome := c_outcome) (c_took := c_took) (c_acts := c_acts) (c_drawn := c_drawn) (c_racer := c_racer) (c_raced := c_raced) (c_spelledMany := c_spelledMany) (c_hasImage := c_hasImage) (c_now := c_now) (x1 := u9.1) (x2 := u9.2) hx hb hml hown hts hK hN (fun x1 x2 q9 => hC _ q9) (fun x1 q9 => hE _ q9) hF hP) j9 (x1, x2) x1' hL hX

set_option maxHeartbeats 4000000 in
set_option maxRecDepth 100000 in
theorem f_X8_slackOnes (l : Launch) (E : EE) (K : Nat) {a_ a_tape a_readPlace a_script a_scriptLong a_now a_refused a_shareX a_shareY a_askedRow a_kept a_aside a_spelled a_image : Nat} {c_thrown : Int32} {c_taped : Int32} {c_at : Int32} {c_part : Int32} {c_partFrom : Int32} {c_partNumber : Int32} {c_wrong : Int32} {c_partWord : Int64} {c_readLaw : Int32} {c_readBound : Int32} {c_readGoal : Int32} {c_readSites : Int32} {c_scripts : Int32} {c_sites : Int32} {c_asked : Int32} {c_outcome : Int32} {c_took : Int32} {c_acts : Int32} {c_drawn : Int64} {c_racer : Int32} {c_raced : Int32} {c_spelledMany : Int32} {c_hasImage : Int32} {c_now : Nat → Int32} {rr : Int32} (hF : F_X8_slackOnes K c_now c_sites = some rr) : Met l yX8_slackOnes v_f_X8_slackOnes (({ frames := 2, cells := 0, slots := 0, locals := 41 } : Room)) (va_Pc [.ref a_] (pP E (w_X8_slackOnes E a_ a_tape a_readPlace a_script a_scriptLong a_now a_refused a_shareX a_shareY a_askedRow a_kept a_aside a_spelled a_image c_thrown c_taped c_at c_part c_partFrom c_partNumber c_wrong c_partWord c_readLaw c_readBound c_readGoal c_readSites c_scripts c_sites c_asked c_outcome c_took c_acts c_drawn c_racer c_raced c_spelledMany c_hasImage c_now))) (vp_Si (fun q : Int32 => q = rr)) 0 0 (fun _ => False) := by
  refine Met.ofW (cc := cX8_slackOnes) (maxL := 3) (ret := (some .int)) (by decide) rfl ?_
  intro p e s m args below meth c s₁ B hml hv
  obtain ⟨rfl, ⟨hK, hN⟩, hP⟩ := hv
  have hx := B.exec
  have hb := B.bytes
  have hr := B.returns
  have hts := atoms_spec (ws := v_f_X8_slackOnes) B.pre
  have hown : s.vm.findClass RX8 = some m.cls := own_of hd_X8_slackOnes.1 (findClass_of_methodNamed B.named)
  have hlocks : meth.locks = false := B.notSynchronized
  replace hP : va_P E.1 vwCl [(a_, .inr (9, [.int c_thrown, .ref a_tape, .int c_taped, .int c_at, .int c_part, .int c_partFrom, .int c_partNumber, .int c_wrong, .long c_partWord, .int c_readLaw, .int c_readBound, .int c_readGoal, .int c_readSites, .ref a_readPlace, .ref a_script, .ref a_scriptLong, .int c_scripts, .ref a_now, .ref a_refused, .int c_sites, .ref a_shareX, .ref a_shareY, .int c_asked, .int c_outcome, .ref a_askedRow, .int c_took, .ref a_kept, .int c_acts, .long c_drawn, .ref a_aside, .int c_racer, .int c_raced, .ref a_spelled, .int c_spelledMany, .ref a_image, .int c_hasImage])), (a_now, .inl (E.2.1, 265, .inl c_now))] s.heap := hP
  have hl := lv_entry ([.ref a_]) (n := 3) (Nat.le_of_ble_eq_true rfl)
  rw [lg_entry_eq]
  generalize (lg_sl ([.ref a_]) ++ List.replicate (3 - (lg_sl ([.ref a_])).length) Slot.unset).toArray = ls at hl ⊢
  have hl : lv_has ls 3 [(0, .ref a_)] := hl
  obtain ⟨Q, hQ⟩ : ∃ Q : State → Prop, Q = MQ below (vp_Si (fun q : Int32 => q = rr)) #[Value.ref a_] s 0 0 (fun _ => False) := ⟨_, rfl⟩
  rw [← hQ]
  change W p l e ({ frames := 2, cells := 0, slots := 0, locals := 41 } : Room) s m #[Value.ref a_] below meth c s.heap [] 0 0 Q (F0 m 0 ls [])
  unfold F_X8_slackOnes at hF
  refine lv_iconst (v := 0) hx hb dX8_slackOnes_0 (by decide) ?_
  refine lv_istore_n (lv' := [(1, .int (0 : Int32)), (0, .ref a_)]) hx hb dX8_slackOnes_1 rfl hl (by decide) rfl (fun ls hl => ?_)
  refine lv_iconst (v := 0) hx hb dX8_slackOnes_2 (by decide) ?_
  refine lv_istore_n (lv' := [(2, .int (0 : Int32)), (1, .int (0 : Int32)), (0, .ref a_)]) hx hb dX8_slackOnes_3 rfl hl (by decide) rfl (fun ls hl => ?_)
  replace hF := bd1_s hF
  obtain ⟨x1_5, hL_6, hF⟩ := hF
  refine lw_X8_slackOnes_4 l E K (c_thrown := c_thrown) (c_taped := c_taped) (c_at := c_at) (c_part := c_part) (c_partFrom := c_partFrom) (c_partNumber := c_partNumber) (c_wrong := c_wrong) (c_partWord := c_partWord) (c_readLaw := c_readLaw) (c_readBound := c_readBound) (c_readGoal := c_readGoal) (c_readSites := c_readSites) (c_scripts := c_scripts) (c_sites := c_sites) (c_asked := c_asked) (c_outcome := c_outcome) (c_took := c_took) (c_acts := c_acts) (c_drawn := c_drawn) (c_racer := c_racer) (c_raced := c_raced) (c_spelledMany := c_spelledMany) (c_hasImage := c_hasImage) (c_now := c_now) hx hb hml hown hts hK hN hP K (0 : Int32) (0 : Int32) x1_5 hL_6 ?_ ls (lv_sub hl [2, 1, 0] rfl)
  ·
    intro ls hl
    refine lv_iload_n hx hb dX8_slackOnes_36 rfl (lv_at hl 0 rfl) ?_
    rw [hQ]
    obtain e9_0 := inj1 hF
    exact W.iret (v := x1_5) hx hb hr (fun tt ht hW => ⟨_, rfl, e9_0, ht⟩) (fun _ h => by cases h) dX8_slackOnes_37

def B_X8_stillOnes_4 (c_sites : Int32) (c_now : Nat → Int32) (x1 : Int32) (x2 : Int32) : Option ((Int32 × Int32) ⊕ (Int32)) :=
  if c_sites ≤ x2 then some (.inr x1) else ixF ((0 : Int32) + x2) 265 (ixF ((16 : Int32) + x2) 265 (if c_now ((0 : Int32) + x2).toNatClampNeg = c_now ((16 : Int32) + x2).toNatClampNeg then ixF ((8 : Int32) + x2) 265 (ixF ((24 : Int32) + x2) 265 (if c_now ((8 : Int32) + x2).toNatClampNeg = c_now ((24 : Int32) + x2).toNatClampNeg then some (.inl (x1 ||| ((1 : Int32) <<< (x2 &&& (31 : Int32))), x2 + (1 : Int32))) else some (.inl (x1 ||| (0 : Int32), x2 + (1 : Int32))))) else some (.inl (x1 ||| (0 : Int32), x2 + (1 : Int32)))))
def F_X8_stillOnes (K : Nat) (c_now : Nat → Int32) (c_sites : Int32) : Option (Int32) :=
  bd1 (lpF (fun u9 : Int32 × Int32 => B_X8_stillOnes_4 c_sites c_now u9.1 u9.2) K ((0 : Int32), (0 : Int32))) (fun x1_8 => some x1_8)
abbrev w_X8_stillOnes (E : EE) (a_ a_tape a_readPlace a_script a_scriptLong a_now a_refused a_shareX a_shareY a_askedRow a_kept a_aside a_spelled a_image : Nat) (c_thrown : Int32) (c_taped : Int32) (c_at : Int32) (c_part : Int32) (c_partFrom : Int32) (c_partNumber : Int32) (c_wrong : Int32) (c_partWord : Int64) (c_readLaw : Int32) (c_readBound : Int32) (c_readGoal : Int32) (c_readSites : Int32) (c_scripts : Int32) (c_sites : Int32) (c_asked : Int32) (c_outcome : Int32) (c_took : Int32) (c_acts : Int32) (c_drawn : Int64) (c_racer : Int32) (c_raced : Int32) (c_spelledMany : Int32) (c_hasImage : Int32) (c_now : Nat → Int32) : va_W := [(a_, .inr (9, [.int c_thrown, .ref a_tape, .int c_taped, .int c_at, .int c_part, .int c_partFrom, .int c_partNumber, .int c_wrong, .long c_partWord, .int c_readLaw, .int c_readBound, .int c_readGoal, .int c_readSites, .ref a_readPlace, .ref a_script, .ref a_scriptLong, .int c_scripts, .ref a_now, .ref a_refused, .int c_sites, .ref a_shareX, .ref a_shareY, .int c_asked, .int c_outcome, .ref a_askedRow, .int c_took, .ref a_kept, .int c_acts, .long c_drawn, .ref a_aside, .int c_racer, .int c_raced, .ref a_spelled, .int c_spelledMany, .ref a_image, .int c_hasImage])), (a_now, .inl (E.2.1, 265, .inl c_now))]
def v_f_X8_stillOnes : List Cond := List.cons (.code yX8_stillOnes cX8_stillOnes 3 (some .int)) (HAppend.hAppend (α := List Cond) (β := List Cond) (γ := List Cond) [.fieldLink RX8 196 "HushWatchModel" "sites" "I", .fieldLink RX8 22 "HushWatchModel" "now" "[I"] (HAppend.hAppend (α := List Cond) (β := List Cond) (γ := List Cond) wsX80 []))
theorem gw_f_X8_stillOnes : v_f_X8_stillOnes.all goodWord = true := by decide +kernel
theorem i_f_X8_stillOnes_X8 : ∀ w ∈ wsX80, w ∈ v_f_X8_stillOnes := fun _ h => List.mem_cons_of_mem _ (List.mem_append_right _ (List.mem_append_left _ h))
theorem hd_X8_stillOnes : yX8_stillOnes.cls = RX8 ∧ yX8_stillOnes.cls ≠ "java/lang/invoke/MethodHandle" ∧ yX8_stillOnes.cls ≠ "java/lang/invoke/VarHandle" ∧ (parseMethodDescriptor yX8_stillOnes.desc).map (fun d => d.parameters.length) = some 0 := by decide +kernel
set_option maxHeartbeats 4000000 in
set_option maxRecDepth 100000 in
theorem wb_X8_stillOnes_4 {p : Program} (l : Launch) {e : Env} {s : State} {m : MethodId} {below : List Frame} {meth : Method} {c : Code} {Q : State → Prop} (E : EE) (K : Nat) {a_ a_tape a_readPlace a_script a_scriptLong a_now a_refused a_shareX a_shareY a_askedRow a_kept a_aside a_spelled a_image : Nat} {c_thrown : Int32} {c_taped : Int32} {c_at : Int32} {c_part : Int32} {c_partFrom : Int32} {c_partNumber : Int32} {c_wrong : Int32} {c_partWord : Int64} {c_readLaw : Int32} {c_readBound : Int32} {c_readGoal : Int32} {c_readSites : Int32} {c_scripts : Int32} {c_sites : Int32} {c_asked : Int32} {c_outcome : Int32} {c_took : Int32} {c_acts : Int32} {c_drawn : Int64} {c_racer : Int32} {c_raced : Int32} {c_spelledMany : Int32} {c_hasImage : Int32} {c_now : Nat → Int32} {x1 : Int32} {x2 : Int32} (hx : p.tables.exec = Jvm.exec) (hb : c.code = cX8_stillOnes) (hml : c.maxLocals = 3) (hown : s.vm.findClass RX8 = some m.cls) (hts : ∀ w ∈ v_f_X8_stillOnes, w.before #[Value.ref a_] s = true) (hK : va_K E.1 vwCl (TY E) s) (hN : NX s) {xx : (Int32 × Int32) ⊕ (Int32)} (hC : ∀ (x1 : Int32), ∀ (x2 : Int32), xx = .inl (x1, x2) → ∀ (ls : Array Slot), lv_has ls 3 [(0, .ref a_), (1, .int x1), (2, .int x2)] → W p l e ({ frames := 0, cells := 0, slots := 0, locals := 0 } : Room) s m #[Value.ref a_] below meth c s.heap [] 0 0 Q (F0 m 4 ls [])) (hE : ∀ (x1 : Int32), xx = .inr x1 → ((∀ (ls : Array Slot), lv_has ls 3 [(1, .int x1)] → W p l e ({ frames := 0, cells := 0, slots := 0, locals := 0 } : Room) s m #[Value.ref a_] below meth c s.heap [] 0 0 Q (F0 m 69 ls [])))) (hF : B_X8_stillOnes_4 c_sites c_now x1 x2 = some xx) (hP : va_P E.1 vwCl (w_X8_stillOnes E a_ a_tape a_readPlace a_script a_scriptLong a_now a_refused a_shareX a_shareY a_askedRow a_kept a_aside a_spelled a_image c_thrown c_taped c_at c_part c_partFrom c_partNumber c_wrong c_partWord c_readLaw c_readBound c_readGoal c_readSites c_scripts c_sites c_asked c_outcome c_took c_acts c_drawn c_racer c_raced c_spelledMany c_hasImage c_now) s.heap) : ∀ (ls : Array Slot), lv_has ls 3 [(0, .ref a_), (1, .int x1), (2, .int x2)] → W p l e ({ frames := 0, cells := 0, slots := 0, locals := 0 } : Room) s m #[Value.ref a_] below meth c s.heap [] 0 0 Q (F0 m 4 ls []) := by
  unfold B_X8_stillOnes_4 at hF
  replace hP : va_P E.1 vwCl [(a_, .inr (9, [.int c_thrown, .ref a_tape, .int c_taped, .int c_at, .int c_part, .int c_partFrom, .int c_partNumber, .int c_wrong, .long c_partWord, .int c_readLaw, .int c_readBound, .int c_readGoal, .int c_readSites, .ref a_readPlace, .ref a_script, .ref a_scriptLong, .int c_scripts, .ref a_now, .ref a_refused, .int c_sites, .ref a_shareX, .ref a_shareY, .int c_asked, .int c_outcome, .ref a_askedRow, .int c_took, .ref a_kept, .int c_acts, .long c_drawn, .ref a_aside, .int c_racer, .int c_raced, .ref a_spelled, .int c_spelledMany, .ref a_image, .int c_hasImage])), (a_now, .inl (E.2.1, 265, .inl c_now))] s.heap := hP
  intro ls hl
  refine lv_iload_n hx hb dX8_stillOnes_4 rfl (lv_at hl 2 rfl) ?_
  refine lv_aload_n hx hb dX8_stillOnes_5 rfl (lv_at hl 0 rfl) ?_
  refine gt_X8_19 (v := .int c_sites) hx hb hts i_f_X8_stillOnes_X8 hown hK hP 0 rfl (hts (.fieldLink RX8 196 "HushWatchModel" "sites" "I") (List.mem_of_getElem? (i := 1) rfl)) rfl dX8_stillOnes_6 ?_
  refine lv_icmp_ge (tgt := 69) hx hb dX8_stillOnes_9 (by decide) (fun c_1 => ?_) (fun c_1 => ?_)
  ·
    replace hF := ip c_1 hF
    cases hF
    exact hE x1 rfl ls (lv_sub hl [1] rfl)
  ·
    replace hF := inn c_1 hF
    refine lv_iload_n hx hb dX8_stillOnes_12 rfl (lv_at hl 1 rfl) ?_
    refine lv_aload_n hx hb dX8_stillOnes_13 rfl (lv_at hl 0 rfl) ?_
    refine gt_X8_17 (v := .ref a_now) hx hb hts i_f_X8_stillOnes_X8 hown hK hP 0 rfl (hts (.fieldLink RX8 22 "HushWatchModel" "now" "[I") (List.mem_of_getElem? (i := 2) rfl)) rfl dX8_stillOnes_14 ?_
    refine lv_iconst (v := 0) hx hb dX8_stillOnes_17 (by decide) ?_
    refine lv_iload_n hx hb dX8_stillOnes_18 rfl (lv_at hl 2 rfl) ?_
    refine lv_iadd hx hb dX8_stillOnes_19 ?_
    replace hF := ix_s hF
    obtain ⟨hi_2, hF⟩ := hF
    refine va_iald hx hb hK hP 1 0 rfl rfl hi_2 dX8_stillOnes_20 ?_
    refine lv_aload_n hx hb dX8_stillOnes_21 rfl (lv_at hl 0 rfl) ?_
    refine gt_X8_17 (v := .ref a_now) hx hb hts i_f_X8_stillOnes_X8 hown hK hP 0 rfl (hts (.fieldLink RX8 22 "HushWatchModel" "now" "[I") (List.mem_of_getElem? (i := 2) rfl)) rfl dX8_stillOnes_22 ?_
    refine lv_bipush (v := 16) hx hb dX8_stillOnes_25 (by decide) ?_
    refine lv_iload_n hx hb dX8_stillOnes_27 rfl (lv_at hl 2 rfl) ?_
    refine lv_iadd hx hb dX8_stillOnes_28 ?_
    replace hF := ix_s hF
    obtain ⟨hi_3, hF⟩ := hF
    refine va_iald hx hb hK hP 1 0 rfl rfl hi_3 dX8_stillOnes_29 ?_
    refine lv_icmp_ne (tgt := 60) hx hb dX8_stillOnes_30 (by decide) (fun c_4 => ?_) (fun c_4 => ?_)
    ·
      replace hF := inn c_4 hF
      refine lv_iconst (v := 0) hx hb dX8_stillOnes_60 (by decide) ?_
      refine lv_ior hx hb dX8_stillOnes_61 ?_
      refine lv_istore_n (lv' := [(1, .int (x1 ||| (0 : Int32))), (0, .ref a_), (2, .int x2)]) hx hb dX8_stillOnes_62 rfl hl (by decide) rfl (fun ls hl => ?_)
      refine lv_iinc (v := x2 + (1 : Int32)) (lv' := [(2, .int (x2 + (1 : Int32))), (1, .int (x1 ||| (0 : Int32))), (0, .ref a_)]) hx hb dX8_stillOnes_63 hl (k := 2) rfl (rfl) (by decide) rfl (fun ls hl => ?_)
      refine lv_goto (tgt := 4) hx hb dX8_stillOnes_66 (by decide) ?_
      cases hF
      exact hC (x1 ||| (0 : Int32)) (x2 + (1 : Int32)) rfl ls (lv_sub hl [2, 1, 0] rfl)
    ·
      replace hF := ip c_4 hF
      refine lv_aload_n hx hb dX8_stillOnes_33 rfl (lv_at hl 0 rfl) ?_
      refine gt_X8_17 (v := .ref a_now) hx hb hts i_f_X8_stillOnes_X8 hown hK hP 0 rfl (hts (.fieldLink RX8 22 "HushWatchModel" "now" "[I") (List.mem_of_getElem? (i := 2) rfl)) rfl dX8_stillOnes_34 ?_
      refine lv_bipush (v := 8) hx hb dX8_stillOnes_37 (by decide) ?_
      refine lv_iload_n hx hb dX8_stillOnes_39 rfl (lv_at hl 2 rfl) ?_
      refine lv_iadd hx hb dX8_stillOnes_40 ?_
      replace hF := ix_s hF
      obtain ⟨hi_5, hF⟩ := hF
      refine va_iald hx hb hK hP 1 0 rfl rfl hi_5 dX8_stillOnes_41 ?_
      refine lv_aload_n hx hb dX8_stillOnes_42 rfl (lv_at hl 0 rfl) ?_
      refine gt_X8_17 (v := .ref a_now) hx hb hts i_f_X8_stillOnes_X8 hown hK hP 0 rfl (hts (.fieldLink RX8 22 "HushWatchModel" "now" "[I") (List.mem_of_getElem? (i := 2) rfl)) rfl dX8_stillOnes_43 ?_
      refine lv_bipush (v := 24) hx hb dX8_stillOnes_46 (by decide) ?_
      refine lv_iload_n hx hb dX8_stillOnes_48 rfl (lv_at hl 2 rfl) ?_
      refine lv_iadd hx hb dX8_stillOnes_49 ?_
      replace hF := ix_s hF
      obtain ⟨hi_6, hF⟩ := hF
      refine va_iald hx hb hK hP 1 0 rfl rfl hi_6 dX8_stillOnes_50 ?_
      refine lv_icmp_ne (tgt := 60) hx hb dX8_stillOnes_51 (by decide) (fun c_7 => ?_) (fun c_7 => ?_)
      ·
        replace hF := inn c_7 hF
        refine lv_iconst (v := 0) hx hb dX8_stillOnes_60 (by decide) ?_
        refine lv_ior hx hb dX8_stillOnes_61 ?_
        refine lv_istore_n (lv' := [(1, .int (x1 ||| (0 : Int32))), (0, .ref a_), (2, .int x2)]) hx hb dX8_stillOnes_62 rfl hl (by decide) rfl (fun ls hl => ?_)
        refine lv_iinc (v := x2 + (1 : Int32)) (lv' := [(2, .int (x2 + (1 : Int32))), (1, .int (x1 ||| (0 : Int32))), (0, .ref a_)]) hx hb dX8_stillOnes_63 hl (k := 2) rfl (rfl) (by decide) rfl (fun ls hl => ?_)
        refine lv_goto (tgt := 4) hx hb dX8_stillOnes_66 (by decide) ?_
        cases hF
        exact hC (x1 ||| (0 : Int32)) (x2 + (1 : Int32)) rfl ls (lv_sub hl [2, 1, 0] rfl)
      ·
        replace hF := ip c_7 hF
        refine lv_iconst (v := 1) hx hb dX8_stillOnes_54 (by decide) ?_
        refine lv_iload_n hx hb dX8_stillOnes_55 rfl (lv_at hl 2 rfl) ?_
        refine lv_ishl hx hb dX8_stillOnes_56 ?_
        refine lv_goto (tgt := 61) hx hb dX8_stillOnes_57 (by decide) ?_
        refine lv_ior hx hb dX8_stillOnes_61 ?_
        refine lv_istore_n (lv' := [(1, .int (x1 ||| ((1 : Int32) <<< (x2 &&& (31 : Int32))))), (0, .ref a_), (2, .int x2)]) hx hb dX8_stillOnes_62 rfl hl (by decide) rfl (fun ls hl => ?_)
        refine lv_iinc (v := x2 + (1 : Int32)) (lv' := [(2, .int (x2 + (1 : Int32))), (1, .int (x1 ||| ((1 : Int32) <<< (x2 &&& (31 : Int32))))), (0, .ref a_)]) hx hb dX8_stillOnes_63 hl (k := 2) rfl (rfl) (by decide) rfl (fun ls hl => ?_)
        refine lv_goto (tgt := 4) hx hb dX8_stillOnes_66 (by decide) ?_
        cases hF
        exact hC (x1 ||| ((1 : Int32) <<< (x2 &&& (31 : Int32)))) (x2 + (1 : Int32)) rfl ls (lv_sub hl [2, 1, 0] rfl)

set_option maxHeartbeats 4000000 in
set_option maxRecDepth 100000 in
theorem lw_X8_stillOnes_4 {p : Program} (l : Launch) {e : Env} {s : State} {m : MethodId} {below : List Frame} {meth : Method} {c : Code} {Q : State → Prop} (E : EE) (K : Nat) {a_ a_tape a_readPlace a_script a_scriptLong a_now a_refused a_shareX a_shareY a_askedRow a_kept a_aside a_spelled a_image : Nat} {c_thrown : Int32} {c_taped : Int32} {c_at : Int32} {c_part : Int32} {c_partFrom : Int32} {c_partNumber : Int32} {c_wrong : Int32} {c_partWord : Int64} {c_readLaw : Int32} {c_readBound : Int32} {c_readGoal : Int32} {c_readSites : Int32} {c_scripts : Int32} {c_sites : Int32} {c_asked : Int32} {c_outcome : Int32} {c_took : Int32} {c_acts : Int32} {c_drawn : Int64} {c_racer : Int32} {c_raced : Int32} {c_spelledMany : Int32} {c_hasImage : Int32} {c_now : Nat → Int32} (hx : p.tables.exec = Jvm.exec) (hb : c.code = cX8_stillOnes) (hml : c.maxLocals = 3) (hown : s.vm.findClass RX8 = some m.cls) (hts : ∀ w ∈ v_f_X8_stillOnes, w.before #[Value.ref a_] s = true) (hK : va_K E.1 vwCl (TY E) s) (hN : NX s) (hP : va_P E.1 vwCl (w_X8_stillOnes E a_ a_tape a_readPlace a_script a_scriptLong a_now a_refused a_shareX a_shareY a_askedRow a_kept a_aside a_spelled a_image c_thrown c_taped c_at c_part c_partFrom c_partNumber c_wrong c_partWord c_readLaw c_readBound c_readGoal c_readSites c_scripts c_sites c_asked c_outcome c_took c_acts c_drawn c_racer c_raced c_spelledMany c_hasImage c_now) s.heap) (j9 : Nat) (x1 : Int32) (x2 : Int32) (x1' : Int32) (hL : lpF (fun u9 : Int32 × Int32 => B_X8_stillOnes_4 c_sites c_now u9.1 u9.2) j9 (x1, x2) = some x1') (hX : (∀ (ls : Array Slot), lv_has ls 3 [(1, .int x1')] → W p l e ({ frames := 0, cells := 0, slots := 0, locals := 0 } : Room) s m #[Value.ref a_] below meth c s.heap [] 0 0 Q (F0 m 69 ls []))) : ∀ (ls : Array Slot), lv_has ls 3 [(0, .ref a_), (1, .int x1), (2, .int x2)] → W p l e ({ frames := 0, cells := 0, slots := 0, locals := 0 } : Room) s m #[Value.ref a_] below meth c s.heap [] 0 0 Q (F0 m 4 ls []) := by
  exact lp_rule (P := (fun u9 : Int32 × Int32 => ∀ (ls : Array Slot), lv_has ls 3 [(0, .ref a_), (1, .int u9.1), (2, .int u9.2)] → W p l e ({ frames := 0, cells := 0, slots := 0, locals := 0 } : Room) s m #[Value.ref a_] below meth c s.heap [] 0 0 Q (F0 m 4 ls []))) (R := (fun r9 : Int32 => (∀ (ls : Array Slot), lv_has ls 3 [(1, .int r9)] → W p l e ({ frames := 0, cells := 0, slots := 0, locals := 0 } : Room) s m #[Value.ref a_] below meth c s.heap [] 0 0 Q (F0 m 69 ls [])))) (fun u9 xx hF hC hE => wb_X8_stillOnes_4 l E K (c_thrown := c_thrown) (c_taped := c_taped) (c_at := c_at) (c_part := c_part) (c_partFrom := c_partFrom) (c_partNumber := c_partNumber) (c_wrong := c_wrong) (c_partWord := c_partWord) (c_readLaw := c_readLaw) (c_readBound := c_readBound) (c_readGoal := c_readGoal) (c_readSites := c_readSites) (c_scripts := c_scripts) (c_sites := c_sites) (c_asked := c_asked) (c_outcome := c_outcome) (c_took := c_took) (c_acts := c_acts) (c_drawn := c_drawn) (c_racer := c_racer) (c_raced := c_raced) (c_spelledMany := c_spelledMany) (c_hasImage := c_hasImage) (c_now := c_now) (x1 := u9.1) (x2 := u9.2) hx hb hml hown hts hK hN (fun x1 x2 q9 => hC _ q9) (fun x1 q9 => hE _ q9) hF hP) j9 (x1, x2) x1' hL hX

set_option maxHeartbeats 4000000 in
set_option maxRecDepth 100000 in
theorem f_X8_stillOnes (l : Launch) (E : EE) (K : Nat) {a_ a_tape a_readPlace a_script a_scriptLong a_now a_refused a_shareX a_shareY a_askedRow a_kept a_aside a_spelled a_image : Nat} {c_thrown : Int32} {c_taped : Int32} {c_at : Int32} {c_part : Int32} {c_partFrom : Int32} {c_partNumber : Int32} {c_wrong : Int32} {c_partWord : Int64} {c_readLaw : Int32} {c_readBound : Int32} {c_readGoal : Int32} {c_readSites : Int32} {c_scripts : Int32} {c_sites : Int32} {c_asked : Int32} {c_outcome : Int32} {c_took : Int32} {c_acts : Int32} {c_drawn : Int64} {c_racer : Int32} {c_raced : Int32} {c_spelledMany : Int32} {c_hasImage : Int32} {c_now : Nat → Int32} {rr : Int32} (hF : F_X8_stillOnes K c_now c_sites = some rr) : Met l yX8_stillOnes v_f_X8_stillOnes (({ frames := 0, cells := 0, slots := 0, locals := 0 } : Room)) (va_Pc [.ref a_] (pP E (w_X8_stillOnes E a_ a_tape a_readPlace a_script a_scriptLong a_now a_refused a_shareX a_shareY a_askedRow a_kept a_aside a_spelled a_image c_thrown c_taped c_at c_part c_partFrom c_partNumber c_wrong c_partWord c_readLaw c_readBound c_readGoal c_readSites c_scripts c_sites c_asked c_outcome c_took c_acts c_drawn c_racer c_raced c_spelledMany c_hasImage c_now))) (vp_Si (fun q : Int32 => q = rr)) 0 0 (fun _ => False) := by
  refine Met.ofW (cc := cX8_stillOnes) (maxL := 3) (ret := (some .int)) (by decide) rfl ?_
  intro p e s m args below meth c s₁ B hml hv
  obtain ⟨rfl, ⟨hK, hN⟩, hP⟩ := hv
  have hx := B.exec
  have hb := B.bytes
  have hr := B.returns
  have hts := atoms_spec (ws := v_f_X8_stillOnes) B.pre
  have hown : s.vm.findClass RX8 = some m.cls := own_of hd_X8_stillOnes.1 (findClass_of_methodNamed B.named)
  have hlocks : meth.locks = false := B.notSynchronized
  replace hP : va_P E.1 vwCl [(a_, .inr (9, [.int c_thrown, .ref a_tape, .int c_taped, .int c_at, .int c_part, .int c_partFrom, .int c_partNumber, .int c_wrong, .long c_partWord, .int c_readLaw, .int c_readBound, .int c_readGoal, .int c_readSites, .ref a_readPlace, .ref a_script, .ref a_scriptLong, .int c_scripts, .ref a_now, .ref a_refused, .int c_sites, .ref a_shareX, .ref a_shareY, .int c_asked, .int c_outcome, .ref a_askedRow, .int c_took, .ref a_kept, .int c_acts, .long c_drawn, .ref a_aside, .int c_racer, .int c_raced, .ref a_spelled, .int c_spelledMany, .ref a_image, .int c_hasImage])), (a_now, .inl (E.2.1, 265, .inl c_now))] s.heap := hP
  have hl := lv_entry ([.ref a_]) (n := 3) (Nat.le_of_ble_eq_true rfl)
  rw [lg_entry_eq]
  generalize (lg_sl ([.ref a_]) ++ List.replicate (3 - (lg_sl ([.ref a_])).length) Slot.unset).toArray = ls at hl ⊢
  have hl : lv_has ls 3 [(0, .ref a_)] := hl
  obtain ⟨Q, hQ⟩ : ∃ Q : State → Prop, Q = MQ below (vp_Si (fun q : Int32 => q = rr)) #[Value.ref a_] s 0 0 (fun _ => False) := ⟨_, rfl⟩
  rw [← hQ]
  change W p l e ({ frames := 0, cells := 0, slots := 0, locals := 0 } : Room) s m #[Value.ref a_] below meth c s.heap [] 0 0 Q (F0 m 0 ls [])
  unfold F_X8_stillOnes at hF
  refine lv_iconst (v := 0) hx hb dX8_stillOnes_0 (by decide) ?_
  refine lv_istore_n (lv' := [(1, .int (0 : Int32)), (0, .ref a_)]) hx hb dX8_stillOnes_1 rfl hl (by decide) rfl (fun ls hl => ?_)
  refine lv_iconst (v := 0) hx hb dX8_stillOnes_2 (by decide) ?_
  refine lv_istore_n (lv' := [(2, .int (0 : Int32)), (1, .int (0 : Int32)), (0, .ref a_)]) hx hb dX8_stillOnes_3 rfl hl (by decide) rfl (fun ls hl => ?_)
  replace hF := bd1_s hF
  obtain ⟨x1_8, hL_9, hF⟩ := hF
  refine lw_X8_stillOnes_4 l E K (c_thrown := c_thrown) (c_taped := c_taped) (c_at := c_at) (c_part := c_part) (c_partFrom := c_partFrom) (c_partNumber := c_partNumber) (c_wrong := c_wrong) (c_partWord := c_partWord) (c_readLaw := c_readLaw) (c_readBound := c_readBound) (c_readGoal := c_readGoal) (c_readSites := c_readSites) (c_scripts := c_scripts) (c_sites := c_sites) (c_asked := c_asked) (c_outcome := c_outcome) (c_took := c_took) (c_acts := c_acts) (c_drawn := c_drawn) (c_racer := c_racer) (c_raced := c_raced) (c_spelledMany := c_spelledMany) (c_hasImage := c_hasImage) (c_now := c_now) hx hb hml hown hts hK hN hP K (0 : Int32) (0 : Int32) x1_8 hL_9 ?_ ls (lv_sub hl [2, 1, 0] rfl)
  ·
    intro ls hl
    refine lv_iload_n hx hb dX8_stillOnes_69 rfl (lv_at hl 0 rfl) ?_
    rw [hQ]
    obtain e9_0 := inj1 hF
    exact W.iret (v := x1_8) hx hb hr (fun tt ht hW => ⟨_, rfl, e9_0, ht⟩) (fun _ h => by cases h) dX8_stillOnes_70
