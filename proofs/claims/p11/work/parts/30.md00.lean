def dl_X8_above_30_md00_0 : List (Nat × Instr × Nat) := [(0, .iload_n 0, 1), (1, .ifCond .ge 8, 3), (9, .iload_n 0, 1), (10, .ireturn, 1), (4, .iload_n 0, 1), (5, .ineg, 1), (6, .goto 4, 3)]
set_option maxRecDepth 100000 in
theorem dall_X8_above_30_md00_0 : dchk cX8_above dl_X8_above_30_md00_0 = true := by decide +kernel
theorem dX8_above_0 : decode cX8_above 0 = .ok (.iload_n 0, 1) := dchk_at dall_X8_above_30_md00_0 (k := 0) rfl
theorem dX8_above_1 : decode cX8_above 1 = .ok (.ifCond .ge 8, 3) := dchk_at dall_X8_above_30_md00_0 (k := 1) rfl
theorem dX8_above_9 : decode cX8_above 9 = .ok (.iload_n 0, 1) := dchk_at dall_X8_above_30_md00_0 (k := 2) rfl
theorem dX8_above_10 : decode cX8_above 10 = .ok (.ireturn, 1) := dchk_at dall_X8_above_30_md00_0 (k := 3) rfl
theorem dX8_above_4 : decode cX8_above 4 = .ok (.iload_n 0, 1) := dchk_at dall_X8_above_30_md00_0 (k := 4) rfl
theorem dX8_above_5 : decode cX8_above 5 = .ok (.ineg, 1) := dchk_at dall_X8_above_30_md00_0 (k := 5) rfl
theorem dX8_above_6 : decode cX8_above 6 = .ok (.goto 4, 3) := dchk_at dall_X8_above_30_md00_0 (k := 6) rfl
def dl_X8_keep_30_md00_0 : List (Nat × Instr × Nat) := [(54, .iload_n 1, 1), (55, .sipush 265, 3), (58, .if_icmp .ge 30, 3), (61, .aload_n 0, 1), (62, .getfield 37, 3), (65, .sipush 265, 3), (68, .aload_n 0, 1), (69, .getfield 205, 3), (72, .imul, 1), (73, .iload_n 1, 1), (74, .iadd, 1), (75, .aload_n 0, 1), (76, .getfield 22, 3), (79, .iload_n 1, 1), (80, .iaload, 1), (81, .iastore, 1), (82, .iinc 1 1, 3), (85, .goto (-31), 3), (52, .iconst 0, 1), (53, .istore_n 1, 1), (88, .aload_n 0, 1), (89, .dup, 1), (90, .getfield 205, 3), (93, .iconst 1, 1), (94, .iadd, 1), (95, .putfield 205, 3), (98, .return_, 1), (13, .iload_n 1, 1), (14, .sipush 10600, 3), (17, .if_icmp .ge 25, 3), (20, .aload_n 0, 1), (21, .getfield 37, 3), (24, .iload_n 1, 1), (25, .sipush 265, 3), (28, .isub, 1), (29, .aload_n 0, 1), (30, .getfield 37, 3), (33, .iload_n 1, 1), (34, .iaload, 1), (35, .iastore, 1), (36, .iinc 1 1, 3), (39, .goto (-26), 3), (0, .aload_n 0, 1), (1, .getfield 205, 3), (4, .bipush 40, 2), (6, .if_icmp .ne 46, 3), (9, .sipush 265, 3), (12, .istore_n 1, 1), (42, .aload_n 0, 1), (43, .dup, 1)]
set_option maxRecDepth 100000 in
theorem dall_X8_keep_30_md00_0 : dchk cX8_keep dl_X8_keep_30_md00_0 = true := by decide +kernel
theorem dX8_keep_54 : decode cX8_keep 54 = .ok (.iload_n 1, 1) := dchk_at dall_X8_keep_30_md00_0 (k := 0) rfl
theorem dX8_keep_55 : decode cX8_keep 55 = .ok (.sipush 265, 3) := dchk_at dall_X8_keep_30_md00_0 (k := 1) rfl
theorem dX8_keep_58 : decode cX8_keep 58 = .ok (.if_icmp .ge 30, 3) := dchk_at dall_X8_keep_30_md00_0 (k := 2) rfl
theorem dX8_keep_61 : decode cX8_keep 61 = .ok (.aload_n 0, 1) := dchk_at dall_X8_keep_30_md00_0 (k := 3) rfl
theorem dX8_keep_62 : decode cX8_keep 62 = .ok (.getfield 37, 3) := dchk_at dall_X8_keep_30_md00_0 (k := 4) rfl
theorem dX8_keep_65 : decode cX8_keep 65 = .ok (.sipush 265, 3) := dchk_at dall_X8_keep_30_md00_0 (k := 5) rfl
theorem dX8_keep_68 : decode cX8_keep 68 = .ok (.aload_n 0, 1) := dchk_at dall_X8_keep_30_md00_0 (k := 6) rfl
theorem dX8_keep_69 : decode cX8_keep 69 = .ok (.getfield 205, 3) := dchk_at dall_X8_keep_30_md00_0 (k := 7) rfl
theorem dX8_keep_72 : decode cX8_keep 72 = .ok (.imul, 1) := dchk_at dall_X8_keep_30_md00_0 (k := 8) rfl
theorem dX8_keep_73 : decode cX8_keep 73 = .ok (.iload_n 1, 1) := dchk_at dall_X8_keep_30_md00_0 (k := 9) rfl
theorem dX8_keep_74 : decode cX8_keep 74 = .ok (.iadd, 1) := dchk_at dall_X8_keep_30_md00_0 (k := 10) rfl
theorem dX8_keep_75 : decode cX8_keep 75 = .ok (.aload_n 0, 1) := dchk_at dall_X8_keep_30_md00_0 (k := 11) rfl
theorem dX8_keep_76 : decode cX8_keep 76 = .ok (.getfield 22, 3) := dchk_at dall_X8_keep_30_md00_0 (k := 12) rfl
theorem dX8_keep_79 : decode cX8_keep 79 = .ok (.iload_n 1, 1) := dchk_at dall_X8_keep_30_md00_0 (k := 13) rfl
theorem dX8_keep_80 : decode cX8_keep 80 = .ok (.iaload, 1) := dchk_at dall_X8_keep_30_md00_0 (k := 14) rfl
theorem dX8_keep_81 : decode cX8_keep 81 = .ok (.iastore, 1) := dchk_at dall_X8_keep_30_md00_0 (k := 15) rfl
theorem dX8_keep_82 : decode cX8_keep 82 = .ok (.iinc 1 1, 3) := dchk_at dall_X8_keep_30_md00_0 (k := 16) rfl
theorem dX8_keep_85 : decode cX8_keep 85 = .ok (.goto (-31), 3) := dchk_at dall_X8_keep_30_md00_0 (k := 17) rfl
theorem dX8_keep_52 : decode cX8_keep 52 = .ok (.iconst 0, 1) := dchk_at dall_X8_keep_30_md00_0 (k := 18) rfl
theorem dX8_keep_53 : decode cX8_keep 53 = .ok (.istore_n 1, 1) := dchk_at dall_X8_keep_30_md00_0 (k := 19) rfl
theorem dX8_keep_88 : decode cX8_keep 88 = .ok (.aload_n 0, 1) := dchk_at dall_X8_keep_30_md00_0 (k := 20) rfl
theorem dX8_keep_89 : decode cX8_keep 89 = .ok (.dup, 1) := dchk_at dall_X8_keep_30_md00_0 (k := 21) rfl
theorem dX8_keep_90 : decode cX8_keep 90 = .ok (.getfield 205, 3) := dchk_at dall_X8_keep_30_md00_0 (k := 22) rfl
theorem dX8_keep_93 : decode cX8_keep 93 = .ok (.iconst 1, 1) := dchk_at dall_X8_keep_30_md00_0 (k := 23) rfl
theorem dX8_keep_94 : decode cX8_keep 94 = .ok (.iadd, 1) := dchk_at dall_X8_keep_30_md00_0 (k := 24) rfl
theorem dX8_keep_95 : decode cX8_keep 95 = .ok (.putfield 205, 3) := dchk_at dall_X8_keep_30_md00_0 (k := 25) rfl
theorem dX8_keep_98 : decode cX8_keep 98 = .ok (.return_, 1) := dchk_at dall_X8_keep_30_md00_0 (k := 26) rfl
theorem dX8_keep_13 : decode cX8_keep 13 = .ok (.iload_n 1, 1) := dchk_at dall_X8_keep_30_md00_0 (k := 27) rfl
theorem dX8_keep_14 : decode cX8_keep 14 = .ok (.sipush 10600, 3) := dchk_at dall_X8_keep_30_md00_0 (k := 28) rfl
theorem dX8_keep_17 : decode cX8_keep 17 = .ok (.if_icmp .ge 25, 3) := dchk_at dall_X8_keep_30_md00_0 (k := 29) rfl
theorem dX8_keep_20 : decode cX8_keep 20 = .ok (.aload_n 0, 1) := dchk_at dall_X8_keep_30_md00_0 (k := 30) rfl
theorem dX8_keep_21 : decode cX8_keep 21 = .ok (.getfield 37, 3) := dchk_at dall_X8_keep_30_md00_0 (k := 31) rfl
theorem dX8_keep_24 : decode cX8_keep 24 = .ok (.iload_n 1, 1) := dchk_at dall_X8_keep_30_md00_0 (k := 32) rfl
theorem dX8_keep_25 : decode cX8_keep 25 = .ok (.sipush 265, 3) := dchk_at dall_X8_keep_30_md00_0 (k := 33) rfl
theorem dX8_keep_28 : decode cX8_keep 28 = .ok (.isub, 1) := dchk_at dall_X8_keep_30_md00_0 (k := 34) rfl
theorem dX8_keep_29 : decode cX8_keep 29 = .ok (.aload_n 0, 1) := dchk_at dall_X8_keep_30_md00_0 (k := 35) rfl
theorem dX8_keep_30 : decode cX8_keep 30 = .ok (.getfield 37, 3) := dchk_at dall_X8_keep_30_md00_0 (k := 36) rfl
theorem dX8_keep_33 : decode cX8_keep 33 = .ok (.iload_n 1, 1) := dchk_at dall_X8_keep_30_md00_0 (k := 37) rfl
theorem dX8_keep_34 : decode cX8_keep 34 = .ok (.iaload, 1) := dchk_at dall_X8_keep_30_md00_0 (k := 38) rfl
theorem dX8_keep_35 : decode cX8_keep 35 = .ok (.iastore, 1) := dchk_at dall_X8_keep_30_md00_0 (k := 39) rfl
theorem dX8_keep_36 : decode cX8_keep 36 = .ok (.iinc 1 1, 3) := dchk_at dall_X8_keep_30_md00_0 (k := 40) rfl
theorem dX8_keep_39 : decode cX8_keep 39 = .ok (.goto (-26), 3) := dchk_at dall_X8_keep_30_md00_0 (k := 41) rfl
theorem dX8_keep_0 : decode cX8_keep 0 = .ok (.aload_n 0, 1) := dchk_at dall_X8_keep_30_md00_0 (k := 42) rfl
theorem dX8_keep_1 : decode cX8_keep 1 = .ok (.getfield 205, 3) := dchk_at dall_X8_keep_30_md00_0 (k := 43) rfl
theorem dX8_keep_4 : decode cX8_keep 4 = .ok (.bipush 40, 2) := dchk_at dall_X8_keep_30_md00_0 (k := 44) rfl
theorem dX8_keep_6 : decode cX8_keep 6 = .ok (.if_icmp .ne 46, 3) := dchk_at dall_X8_keep_30_md00_0 (k := 45) rfl
theorem dX8_keep_9 : decode cX8_keep 9 = .ok (.sipush 265, 3) := dchk_at dall_X8_keep_30_md00_0 (k := 46) rfl
theorem dX8_keep_12 : decode cX8_keep 12 = .ok (.istore_n 1, 1) := dchk_at dall_X8_keep_30_md00_0 (k := 47) rfl
theorem dX8_keep_42 : decode cX8_keep 42 = .ok (.aload_n 0, 1) := dchk_at dall_X8_keep_30_md00_0 (k := 48) rfl
theorem dX8_keep_43 : decode cX8_keep 43 = .ok (.dup, 1) := dchk_at dall_X8_keep_30_md00_0 (k := 49) rfl
def dl_X8_keep_30_md00_1 : List (Nat × Instr × Nat) := [(44, .getfield 205, 3), (47, .iconst 1, 1), (48, .isub, 1), (49, .putfield 205, 3)]
set_option maxRecDepth 100000 in
theorem dall_X8_keep_30_md00_1 : dchk cX8_keep dl_X8_keep_30_md00_1 = true := by decide +kernel
theorem dX8_keep_44 : decode cX8_keep 44 = .ok (.getfield 205, 3) := dchk_at dall_X8_keep_30_md00_1 (k := 0) rfl
theorem dX8_keep_47 : decode cX8_keep 47 = .ok (.iconst 1, 1) := dchk_at dall_X8_keep_30_md00_1 (k := 1) rfl
theorem dX8_keep_48 : decode cX8_keep 48 = .ok (.isub, 1) := dchk_at dall_X8_keep_30_md00_1 (k := 2) rfl
theorem dX8_keep_49 : decode cX8_keep 49 = .ok (.putfield 205, 3) := dchk_at dall_X8_keep_30_md00_1 (k := 3) rfl
def dl_X8_driftX_30_md00_0 : List (Nat × Instr × Nat) := [(0, .aload_n 0, 1), (1, .getfield 22, 3), (4, .iconst 0, 1), (5, .iload_n 1, 1), (6, .iadd, 1), (7, .iaload, 1), (8, .aload_n 0, 1), (9, .getfield 22, 3), (12, .bipush 16, 2), (14, .iload_n 1, 1), (15, .iadd, 1), (16, .iaload, 1), (17, .isub, 1), (18, .aload_n 0, 1), (19, .getfield 22, 3), (22, .bipush 32, 2), (24, .iload_n 1, 1), (25, .iadd, 1), (26, .iaload, 1), (27, .iadd, 1), (28, .ireturn, 1)]
set_option maxRecDepth 100000 in
theorem dall_X8_driftX_30_md00_0 : dchk cX8_driftX dl_X8_driftX_30_md00_0 = true := by decide +kernel
theorem dX8_driftX_0 : decode cX8_driftX 0 = .ok (.aload_n 0, 1) := dchk_at dall_X8_driftX_30_md00_0 (k := 0) rfl
theorem dX8_driftX_1 : decode cX8_driftX 1 = .ok (.getfield 22, 3) := dchk_at dall_X8_driftX_30_md00_0 (k := 1) rfl
theorem dX8_driftX_4 : decode cX8_driftX 4 = .ok (.iconst 0, 1) := dchk_at dall_X8_driftX_30_md00_0 (k := 2) rfl
theorem dX8_driftX_5 : decode cX8_driftX 5 = .ok (.iload_n 1, 1) := dchk_at dall_X8_driftX_30_md00_0 (k := 3) rfl
theorem dX8_driftX_6 : decode cX8_driftX 6 = .ok (.iadd, 1) := dchk_at dall_X8_driftX_30_md00_0 (k := 4) rfl
theorem dX8_driftX_7 : decode cX8_driftX 7 = .ok (.iaload, 1) := dchk_at dall_X8_driftX_30_md00_0 (k := 5) rfl
theorem dX8_driftX_8 : decode cX8_driftX 8 = .ok (.aload_n 0, 1) := dchk_at dall_X8_driftX_30_md00_0 (k := 6) rfl
theorem dX8_driftX_9 : decode cX8_driftX 9 = .ok (.getfield 22, 3) := dchk_at dall_X8_driftX_30_md00_0 (k := 7) rfl
theorem dX8_driftX_12 : decode cX8_driftX 12 = .ok (.bipush 16, 2) := dchk_at dall_X8_driftX_30_md00_0 (k := 8) rfl
theorem dX8_driftX_14 : decode cX8_driftX 14 = .ok (.iload_n 1, 1) := dchk_at dall_X8_driftX_30_md00_0 (k := 9) rfl
theorem dX8_driftX_15 : decode cX8_driftX 15 = .ok (.iadd, 1) := dchk_at dall_X8_driftX_30_md00_0 (k := 10) rfl
theorem dX8_driftX_16 : decode cX8_driftX 16 = .ok (.iaload, 1) := dchk_at dall_X8_driftX_30_md00_0 (k := 11) rfl
theorem dX8_driftX_17 : decode cX8_driftX 17 = .ok (.isub, 1) := dchk_at dall_X8_driftX_30_md00_0 (k := 12) rfl
theorem dX8_driftX_18 : decode cX8_driftX 18 = .ok (.aload_n 0, 1) := dchk_at dall_X8_driftX_30_md00_0 (k := 13) rfl
theorem dX8_driftX_19 : decode cX8_driftX 19 = .ok (.getfield 22, 3) := dchk_at dall_X8_driftX_30_md00_0 (k := 14) rfl
theorem dX8_driftX_22 : decode cX8_driftX 22 = .ok (.bipush 32, 2) := dchk_at dall_X8_driftX_30_md00_0 (k := 15) rfl
theorem dX8_driftX_24 : decode cX8_driftX 24 = .ok (.iload_n 1, 1) := dchk_at dall_X8_driftX_30_md00_0 (k := 16) rfl
theorem dX8_driftX_25 : decode cX8_driftX 25 = .ok (.iadd, 1) := dchk_at dall_X8_driftX_30_md00_0 (k := 17) rfl
theorem dX8_driftX_26 : decode cX8_driftX 26 = .ok (.iaload, 1) := dchk_at dall_X8_driftX_30_md00_0 (k := 18) rfl
theorem dX8_driftX_27 : decode cX8_driftX 27 = .ok (.iadd, 1) := dchk_at dall_X8_driftX_30_md00_0 (k := 19) rfl
theorem dX8_driftX_28 : decode cX8_driftX 28 = .ok (.ireturn, 1) := dchk_at dall_X8_driftX_30_md00_0 (k := 20) rfl
def dl_X8_driftY_30_md00_0 : List (Nat × Instr × Nat) := [(0, .aload_n 0, 1), (1, .getfield 22, 3), (4, .bipush 8, 2), (6, .iload_n 1, 1), (7, .iadd, 1), (8, .iaload, 1), (9, .aload_n 0, 1), (10, .getfield 22, 3), (13, .bipush 24, 2), (15, .iload_n 1, 1), (16, .iadd, 1), (17, .iaload, 1), (18, .isub, 1), (19, .aload_n 0, 1), (20, .getfield 22, 3), (23, .bipush 40, 2), (25, .iload_n 1, 1), (26, .iadd, 1), (27, .iaload, 1), (28, .iadd, 1), (29, .ireturn, 1)]
set_option maxRecDepth 100000 in
theorem dall_X8_driftY_30_md00_0 : dchk cX8_driftY dl_X8_driftY_30_md00_0 = true := by decide +kernel
theorem dX8_driftY_0 : decode cX8_driftY 0 = .ok (.aload_n 0, 1) := dchk_at dall_X8_driftY_30_md00_0 (k := 0) rfl
theorem dX8_driftY_1 : decode cX8_driftY 1 = .ok (.getfield 22, 3) := dchk_at dall_X8_driftY_30_md00_0 (k := 1) rfl
theorem dX8_driftY_4 : decode cX8_driftY 4 = .ok (.bipush 8, 2) := dchk_at dall_X8_driftY_30_md00_0 (k := 2) rfl
theorem dX8_driftY_6 : decode cX8_driftY 6 = .ok (.iload_n 1, 1) := dchk_at dall_X8_driftY_30_md00_0 (k := 3) rfl
theorem dX8_driftY_7 : decode cX8_driftY 7 = .ok (.iadd, 1) := dchk_at dall_X8_driftY_30_md00_0 (k := 4) rfl
theorem dX8_driftY_8 : decode cX8_driftY 8 = .ok (.iaload, 1) := dchk_at dall_X8_driftY_30_md00_0 (k := 5) rfl
theorem dX8_driftY_9 : decode cX8_driftY 9 = .ok (.aload_n 0, 1) := dchk_at dall_X8_driftY_30_md00_0 (k := 6) rfl
theorem dX8_driftY_10 : decode cX8_driftY 10 = .ok (.getfield 22, 3) := dchk_at dall_X8_driftY_30_md00_0 (k := 7) rfl
theorem dX8_driftY_13 : decode cX8_driftY 13 = .ok (.bipush 24, 2) := dchk_at dall_X8_driftY_30_md00_0 (k := 8) rfl
theorem dX8_driftY_15 : decode cX8_driftY 15 = .ok (.iload_n 1, 1) := dchk_at dall_X8_driftY_30_md00_0 (k := 9) rfl
theorem dX8_driftY_16 : decode cX8_driftY 16 = .ok (.iadd, 1) := dchk_at dall_X8_driftY_30_md00_0 (k := 10) rfl
theorem dX8_driftY_17 : decode cX8_driftY 17 = .ok (.iaload, 1) := dchk_at dall_X8_driftY_30_md00_0 (k := 11) rfl
theorem dX8_driftY_18 : decode cX8_driftY 18 = .ok (.isub, 1) := dchk_at dall_X8_driftY_30_md00_0 (k := 12) rfl
theorem dX8_driftY_19 : decode cX8_driftY 19 = .ok (.aload_n 0, 1) := dchk_at dall_X8_driftY_30_md00_0 (k := 13) rfl
theorem dX8_driftY_20 : decode cX8_driftY 20 = .ok (.getfield 22, 3) := dchk_at dall_X8_driftY_30_md00_0 (k := 14) rfl
theorem dX8_driftY_23 : decode cX8_driftY 23 = .ok (.bipush 40, 2) := dchk_at dall_X8_driftY_30_md00_0 (k := 15) rfl
theorem dX8_driftY_25 : decode cX8_driftY 25 = .ok (.iload_n 1, 1) := dchk_at dall_X8_driftY_30_md00_0 (k := 16) rfl
theorem dX8_driftY_26 : decode cX8_driftY 26 = .ok (.iadd, 1) := dchk_at dall_X8_driftY_30_md00_0 (k := 17) rfl
theorem dX8_driftY_27 : decode cX8_driftY 27 = .ok (.iaload, 1) := dchk_at dall_X8_driftY_30_md00_0 (k := 18) rfl
theorem dX8_driftY_28 : decode cX8_driftY 28 = .ok (.iadd, 1) := dchk_at dall_X8_driftY_30_md00_0 (k := 19) rfl
theorem dX8_driftY_29 : decode cX8_driftY 29 = .ok (.ireturn, 1) := dchk_at dall_X8_driftY_30_md00_0 (k := 20) rfl
def dl_X8_sum_30_md00_0 : List (Nat × Instr × Nat) := [(4, .iload_n 3, 1), (5, .aload_n 0, 1), (6, .getfield 196, 3), (9, .if_icmp .ge 20, 3), (12, .iload_n 2, 1), (13, .aload_n 0, 1), (14, .getfield 22, 3), (17, .iload_n 1, 1), (18, .iload_n 3, 1), (19, .iadd, 1), (20, .iaload, 1), (21, .iadd, 1), (22, .istore_n 2, 1), (23, .iinc 3 1, 3), (26, .goto (-22), 3), (0, .iconst 0, 1), (1, .istore_n 2, 1), (2, .iconst 0, 1), (3, .istore_n 3, 1), (29, .iload_n 2, 1), (30, .ireturn, 1)]
set_option maxRecDepth 100000 in
theorem dall_X8_sum_30_md00_0 : dchk cX8_sum dl_X8_sum_30_md00_0 = true := by decide +kernel
theorem dX8_sum_4 : decode cX8_sum 4 = .ok (.iload_n 3, 1) := dchk_at dall_X8_sum_30_md00_0 (k := 0) rfl
theorem dX8_sum_5 : decode cX8_sum 5 = .ok (.aload_n 0, 1) := dchk_at dall_X8_sum_30_md00_0 (k := 1) rfl
theorem dX8_sum_6 : decode cX8_sum 6 = .ok (.getfield 196, 3) := dchk_at dall_X8_sum_30_md00_0 (k := 2) rfl
theorem dX8_sum_9 : decode cX8_sum 9 = .ok (.if_icmp .ge 20, 3) := dchk_at dall_X8_sum_30_md00_0 (k := 3) rfl
theorem dX8_sum_12 : decode cX8_sum 12 = .ok (.iload_n 2, 1) := dchk_at dall_X8_sum_30_md00_0 (k := 4) rfl
theorem dX8_sum_13 : decode cX8_sum 13 = .ok (.aload_n 0, 1) := dchk_at dall_X8_sum_30_md00_0 (k := 5) rfl
theorem dX8_sum_14 : decode cX8_sum 14 = .ok (.getfield 22, 3) := dchk_at dall_X8_sum_30_md00_0 (k := 6) rfl
theorem dX8_sum_17 : decode cX8_sum 17 = .ok (.iload_n 1, 1) := dchk_at dall_X8_sum_30_md00_0 (k := 7) rfl
theorem dX8_sum_18 : decode cX8_sum 18 = .ok (.iload_n 3, 1) := dchk_at dall_X8_sum_30_md00_0 (k := 8) rfl
theorem dX8_sum_19 : decode cX8_sum 19 = .ok (.iadd, 1) := dchk_at dall_X8_sum_30_md00_0 (k := 9) rfl
theorem dX8_sum_20 : decode cX8_sum 20 = .ok (.iaload, 1) := dchk_at dall_X8_sum_30_md00_0 (k := 10) rfl
theorem dX8_sum_21 : decode cX8_sum 21 = .ok (.iadd, 1) := dchk_at dall_X8_sum_30_md00_0 (k := 11) rfl
theorem dX8_sum_22 : decode cX8_sum 22 = .ok (.istore_n 2, 1) := dchk_at dall_X8_sum_30_md00_0 (k := 12) rfl
theorem dX8_sum_23 : decode cX8_sum 23 = .ok (.iinc 3 1, 3) := dchk_at dall_X8_sum_30_md00_0 (k := 13) rfl
theorem dX8_sum_26 : decode cX8_sum 26 = .ok (.goto (-22), 3) := dchk_at dall_X8_sum_30_md00_0 (k := 14) rfl
theorem dX8_sum_0 : decode cX8_sum 0 = .ok (.iconst 0, 1) := dchk_at dall_X8_sum_30_md00_0 (k := 15) rfl
theorem dX8_sum_1 : decode cX8_sum 1 = .ok (.istore_n 2, 1) := dchk_at dall_X8_sum_30_md00_0 (k := 16) rfl
theorem dX8_sum_2 : decode cX8_sum 2 = .ok (.iconst 0, 1) := dchk_at dall_X8_sum_30_md00_0 (k := 17) rfl
theorem dX8_sum_3 : decode cX8_sum 3 = .ok (.istore_n 3, 1) := dchk_at dall_X8_sum_30_md00_0 (k := 18) rfl
theorem dX8_sum_29 : decode cX8_sum 29 = .ok (.iload_n 2, 1) := dchk_at dall_X8_sum_30_md00_0 (k := 19) rfl
theorem dX8_sum_30 : decode cX8_sum 30 = .ok (.ireturn, 1) := dchk_at dall_X8_sum_30_md00_0 (k := 20) rfl
def dl_X8_pointX_30_md00_0 : List (Nat × Instr × Nat) := [(0, .aload_n 0, 1), (1, .bipush 16, 2), (3, .invokevirtual 199, 3), (6, .aload_n 0, 1), (7, .getfield 196, 3), (10, .iload_n 1, 1), (11, .imul, 1), (12, .iadd, 1), (13, .ireturn, 1)]
set_option maxRecDepth 100000 in
theorem dall_X8_pointX_30_md00_0 : dchk cX8_pointX dl_X8_pointX_30_md00_0 = true := by decide +kernel
theorem dX8_pointX_0 : decode cX8_pointX 0 = .ok (.aload_n 0, 1) := dchk_at dall_X8_pointX_30_md00_0 (k := 0) rfl
theorem dX8_pointX_1 : decode cX8_pointX 1 = .ok (.bipush 16, 2) := dchk_at dall_X8_pointX_30_md00_0 (k := 1) rfl
theorem dX8_pointX_3 : decode cX8_pointX 3 = .ok (.invokevirtual 199, 3) := dchk_at dall_X8_pointX_30_md00_0 (k := 2) rfl
theorem dX8_pointX_6 : decode cX8_pointX 6 = .ok (.aload_n 0, 1) := dchk_at dall_X8_pointX_30_md00_0 (k := 3) rfl
theorem dX8_pointX_7 : decode cX8_pointX 7 = .ok (.getfield 196, 3) := dchk_at dall_X8_pointX_30_md00_0 (k := 4) rfl
theorem dX8_pointX_10 : decode cX8_pointX 10 = .ok (.iload_n 1, 1) := dchk_at dall_X8_pointX_30_md00_0 (k := 5) rfl
theorem dX8_pointX_11 : decode cX8_pointX 11 = .ok (.imul, 1) := dchk_at dall_X8_pointX_30_md00_0 (k := 6) rfl
theorem dX8_pointX_12 : decode cX8_pointX 12 = .ok (.iadd, 1) := dchk_at dall_X8_pointX_30_md00_0 (k := 7) rfl
theorem dX8_pointX_13 : decode cX8_pointX 13 = .ok (.ireturn, 1) := dchk_at dall_X8_pointX_30_md00_0 (k := 8) rfl
def dl_X8_pointY_30_md00_0 : List (Nat × Instr × Nat) := [(0, .aload_n 0, 1), (1, .bipush 24, 2), (3, .invokevirtual 199, 3), (6, .aload_n 0, 1), (7, .getfield 196, 3), (10, .iload_n 1, 1), (11, .imul, 1), (12, .iadd, 1), (13, .ireturn, 1)]
set_option maxRecDepth 100000 in
theorem dall_X8_pointY_30_md00_0 : dchk cX8_pointY dl_X8_pointY_30_md00_0 = true := by decide +kernel
theorem dX8_pointY_0 : decode cX8_pointY 0 = .ok (.aload_n 0, 1) := dchk_at dall_X8_pointY_30_md00_0 (k := 0) rfl
theorem dX8_pointY_1 : decode cX8_pointY 1 = .ok (.bipush 24, 2) := dchk_at dall_X8_pointY_30_md00_0 (k := 1) rfl
theorem dX8_pointY_3 : decode cX8_pointY 3 = .ok (.invokevirtual 199, 3) := dchk_at dall_X8_pointY_30_md00_0 (k := 2) rfl
theorem dX8_pointY_6 : decode cX8_pointY 6 = .ok (.aload_n 0, 1) := dchk_at dall_X8_pointY_30_md00_0 (k := 3) rfl
theorem dX8_pointY_7 : decode cX8_pointY 7 = .ok (.getfield 196, 3) := dchk_at dall_X8_pointY_30_md00_0 (k := 4) rfl
theorem dX8_pointY_10 : decode cX8_pointY 10 = .ok (.iload_n 1, 1) := dchk_at dall_X8_pointY_30_md00_0 (k := 5) rfl
theorem dX8_pointY_11 : decode cX8_pointY 11 = .ok (.imul, 1) := dchk_at dall_X8_pointY_30_md00_0 (k := 6) rfl
theorem dX8_pointY_12 : decode cX8_pointY 12 = .ok (.iadd, 1) := dchk_at dall_X8_pointY_30_md00_0 (k := 7) rfl
theorem dX8_pointY_13 : decode cX8_pointY 13 = .ok (.ireturn, 1) := dchk_at dall_X8_pointY_30_md00_0 (k := 8) rfl
def dl_X8_valueOf_30_md00_0 : List (Nat × Instr × Nat) := [(26, .lstore 7, 2), (28, .aload_n 0, 1), (29, .getfield 22, 3), (32, .bipush 64, 2), (34, .iaload, 1), (35, .tableswitch 53 0 2 #[25, 29, 37], 25), (60, .lload_n 1, 1), (61, .lload_n 3, 1), (62, .ladd, 1), (63, .lreturn, 1), (64, .lload_n 1, 1), (65, .lload_n 1, 1), (66, .lmul, 1), (67, .lload_n 3, 1), (68, .lload_n 3, 1), (69, .lmul, 1), (70, .ladd, 1), (71, .lreturn, 1), (72, .lload 5, 2), (74, .lload 7, 2), (76, .lcmp, 1), (77, .ifCond .le 8, 3), (85, .lload 7, 2), (87, .lreturn, 1), (80, .lload 5, 2), (82, .goto 5, 3), (88, .lload 5, 2), (90, .lload 7, 2), (92, .ladd, 1), (93, .lreturn, 1), (12, .lstore 5, 2), (14, .lload_n 3, 1), (15, .lconst 0, 1), (16, .lcmp, 1), (17, .ifCond .ge 8, 3), (25, .lload_n 3, 1), (20, .lload_n 3, 1), (21, .lneg, 1), (22, .goto 4, 3), (0, .lload_n 1, 1), (1, .lconst 0, 1), (2, .lcmp, 1), (3, .ifCond .ge 8, 3), (11, .lload_n 1, 1), (6, .lload_n 1, 1), (7, .lneg, 1), (8, .goto 4, 3)]
set_option maxRecDepth 100000 in
theorem dall_X8_valueOf_30_md00_0 : dchk cX8_valueOf dl_X8_valueOf_30_md00_0 = true := by decide +kernel
theorem dX8_valueOf_26 : decode cX8_valueOf 26 = .ok (.lstore 7, 2) := dchk_at dall_X8_valueOf_30_md00_0 (k := 0) rfl
theorem dX8_valueOf_28 : decode cX8_valueOf 28 = .ok (.aload_n 0, 1) := dchk_at dall_X8_valueOf_30_md00_0 (k := 1) rfl
theorem dX8_valueOf_29 : decode cX8_valueOf 29 = .ok (.getfield 22, 3) := dchk_at dall_X8_valueOf_30_md00_0 (k := 2) rfl
theorem dX8_valueOf_32 : decode cX8_valueOf 32 = .ok (.bipush 64, 2) := dchk_at dall_X8_valueOf_30_md00_0 (k := 3) rfl
theorem dX8_valueOf_34 : decode cX8_valueOf 34 = .ok (.iaload, 1) := dchk_at dall_X8_valueOf_30_md00_0 (k := 4) rfl
theorem dX8_valueOf_35 : decode cX8_valueOf 35 = .ok (.tableswitch 53 0 2 #[25, 29, 37], 25) := dchk_at dall_X8_valueOf_30_md00_0 (k := 5) rfl
theorem dX8_valueOf_60 : decode cX8_valueOf 60 = .ok (.lload_n 1, 1) := dchk_at dall_X8_valueOf_30_md00_0 (k := 6) rfl
theorem dX8_valueOf_61 : decode cX8_valueOf 61 = .ok (.lload_n 3, 1) := dchk_at dall_X8_valueOf_30_md00_0 (k := 7) rfl
theorem dX8_valueOf_62 : decode cX8_valueOf 62 = .ok (.ladd, 1) := dchk_at dall_X8_valueOf_30_md00_0 (k := 8) rfl
theorem dX8_valueOf_63 : decode cX8_valueOf 63 = .ok (.lreturn, 1) := dchk_at dall_X8_valueOf_30_md00_0 (k := 9) rfl
theorem dX8_valueOf_64 : decode cX8_valueOf 64 = .ok (.lload_n 1, 1) := dchk_at dall_X8_valueOf_30_md00_0 (k := 10) rfl
theorem dX8_valueOf_65 : decode cX8_valueOf 65 = .ok (.lload_n 1, 1) := dchk_at dall_X8_valueOf_30_md00_0 (k := 11) rfl
theorem dX8_valueOf_66 : decode cX8_valueOf 66 = .ok (.lmul, 1) := dchk_at dall_X8_valueOf_30_md00_0 (k := 12) rfl
theorem dX8_valueOf_67 : decode cX8_valueOf 67 = .ok (.lload_n 3, 1) := dchk_at dall_X8_valueOf_30_md00_0 (k := 13) rfl
theorem dX8_valueOf_68 : decode cX8_valueOf 68 = .ok (.lload_n 3, 1) := dchk_at dall_X8_valueOf_30_md00_0 (k := 14) rfl
theorem dX8_valueOf_69 : decode cX8_valueOf 69 = .ok (.lmul, 1) := dchk_at dall_X8_valueOf_30_md00_0 (k := 15) rfl
theorem dX8_valueOf_70 : decode cX8_valueOf 70 = .ok (.ladd, 1) := dchk_at dall_X8_valueOf_30_md00_0 (k := 16) rfl
theorem dX8_valueOf_71 : decode cX8_valueOf 71 = .ok (.lreturn, 1) := dchk_at dall_X8_valueOf_30_md00_0 (k := 17) rfl
theorem dX8_valueOf_72 : decode cX8_valueOf 72 = .ok (.lload 5, 2) := dchk_at dall_X8_valueOf_30_md00_0 (k := 18) rfl
theorem dX8_valueOf_74 : decode cX8_valueOf 74 = .ok (.lload 7, 2) := dchk_at dall_X8_valueOf_30_md00_0 (k := 19) rfl
theorem dX8_valueOf_76 : decode cX8_valueOf 76 = .ok (.lcmp, 1) := dchk_at dall_X8_valueOf_30_md00_0 (k := 20) rfl
theorem dX8_valueOf_77 : decode cX8_valueOf 77 = .ok (.ifCond .le 8, 3) := dchk_at dall_X8_valueOf_30_md00_0 (k := 21) rfl
theorem dX8_valueOf_85 : decode cX8_valueOf 85 = .ok (.lload 7, 2) := dchk_at dall_X8_valueOf_30_md00_0 (k := 22) rfl
theorem dX8_valueOf_87 : decode cX8_valueOf 87 = .ok (.lreturn, 1) := dchk_at dall_X8_valueOf_30_md00_0 (k := 23) rfl
theorem dX8_valueOf_80 : decode cX8_valueOf 80 = .ok (.lload 5, 2) := dchk_at dall_X8_valueOf_30_md00_0 (k := 24) rfl
theorem dX8_valueOf_82 : decode cX8_valueOf 82 = .ok (.goto 5, 3) := dchk_at dall_X8_valueOf_30_md00_0 (k := 25) rfl
theorem dX8_valueOf_88 : decode cX8_valueOf 88 = .ok (.lload 5, 2) := dchk_at dall_X8_valueOf_30_md00_0 (k := 26) rfl
theorem dX8_valueOf_90 : decode cX8_valueOf 90 = .ok (.lload 7, 2) := dchk_at dall_X8_valueOf_30_md00_0 (k := 27) rfl
theorem dX8_valueOf_92 : decode cX8_valueOf 92 = .ok (.ladd, 1) := dchk_at dall_X8_valueOf_30_md00_0 (k := 28) rfl
theorem dX8_valueOf_93 : decode cX8_valueOf 93 = .ok (.lreturn, 1) := dchk_at dall_X8_valueOf_30_md00_0 (k := 29) rfl
theorem dX8_valueOf_12 : decode cX8_valueOf 12 = .ok (.lstore 5, 2) := dchk_at dall_X8_valueOf_30_md00_0 (k := 30) rfl
theorem dX8_valueOf_14 : decode cX8_valueOf 14 = .ok (.lload_n 3, 1) := dchk_at dall_X8_valueOf_30_md00_0 (k := 31) rfl
theorem dX8_valueOf_15 : decode cX8_valueOf 15 = .ok (.lconst 0, 1) := dchk_at dall_X8_valueOf_30_md00_0 (k := 32) rfl
theorem dX8_valueOf_16 : decode cX8_valueOf 16 = .ok (.lcmp, 1) := dchk_at dall_X8_valueOf_30_md00_0 (k := 33) rfl
theorem dX8_valueOf_17 : decode cX8_valueOf 17 = .ok (.ifCond .ge 8, 3) := dchk_at dall_X8_valueOf_30_md00_0 (k := 34) rfl
theorem dX8_valueOf_25 : decode cX8_valueOf 25 = .ok (.lload_n 3, 1) := dchk_at dall_X8_valueOf_30_md00_0 (k := 35) rfl
theorem dX8_valueOf_20 : decode cX8_valueOf 20 = .ok (.lload_n 3, 1) := dchk_at dall_X8_valueOf_30_md00_0 (k := 36) rfl
theorem dX8_valueOf_21 : decode cX8_valueOf 21 = .ok (.lneg, 1) := dchk_at dall_X8_valueOf_30_md00_0 (k := 37) rfl
theorem dX8_valueOf_22 : decode cX8_valueOf 22 = .ok (.goto 4, 3) := dchk_at dall_X8_valueOf_30_md00_0 (k := 38) rfl
theorem dX8_valueOf_0 : decode cX8_valueOf 0 = .ok (.lload_n 1, 1) := dchk_at dall_X8_valueOf_30_md00_0 (k := 39) rfl
theorem dX8_valueOf_1 : decode cX8_valueOf 1 = .ok (.lconst 0, 1) := dchk_at dall_X8_valueOf_30_md00_0 (k := 40) rfl
theorem dX8_valueOf_2 : decode cX8_valueOf 2 = .ok (.lcmp, 1) := dchk_at dall_X8_valueOf_30_md00_0 (k := 41) rfl
theorem dX8_valueOf_3 : decode cX8_valueOf 3 = .ok (.ifCond .ge 8, 3) := dchk_at dall_X8_valueOf_30_md00_0 (k := 42) rfl
theorem dX8_valueOf_11 : decode cX8_valueOf 11 = .ok (.lload_n 1, 1) := dchk_at dall_X8_valueOf_30_md00_0 (k := 43) rfl
theorem dX8_valueOf_6 : decode cX8_valueOf 6 = .ok (.lload_n 1, 1) := dchk_at dall_X8_valueOf_30_md00_0 (k := 44) rfl
theorem dX8_valueOf_7 : decode cX8_valueOf 7 = .ok (.lneg, 1) := dchk_at dall_X8_valueOf_30_md00_0 (k := 45) rfl
theorem dX8_valueOf_8 : decode cX8_valueOf 8 = .ok (.goto 4, 3) := dchk_at dall_X8_valueOf_30_md00_0 (k := 46) rfl
def dl_X8_isAllowed_30_md00_0 : List (Nat × Instr × Nat) := [(0, .aload_n 0, 1), (1, .iload_n 1, 1), (2, .i2l, 1), (3, .iload_n 2, 1), (4, .i2l, 1), (5, .invokevirtual 218, 3), (8, .aload_n 0, 1), (9, .getfield 22, 3), (12, .bipush 65, 2), (14, .iaload, 1), (15, .i2l, 1), (16, .lcmp, 1), (17, .ifCond .ge 7, 3), (24, .iconst 0, 1), (25, .ireturn, 1), (20, .iconst 1, 1), (21, .goto 4, 3)]
set_option maxRecDepth 100000 in
theorem dall_X8_isAllowed_30_md00_0 : dchk cX8_isAllowed dl_X8_isAllowed_30_md00_0 = true := by decide +kernel
theorem dX8_isAllowed_0 : decode cX8_isAllowed 0 = .ok (.aload_n 0, 1) := dchk_at dall_X8_isAllowed_30_md00_0 (k := 0) rfl
theorem dX8_isAllowed_1 : decode cX8_isAllowed 1 = .ok (.iload_n 1, 1) := dchk_at dall_X8_isAllowed_30_md00_0 (k := 1) rfl
theorem dX8_isAllowed_2 : decode cX8_isAllowed 2 = .ok (.i2l, 1) := dchk_at dall_X8_isAllowed_30_md00_0 (k := 2) rfl
theorem dX8_isAllowed_3 : decode cX8_isAllowed 3 = .ok (.iload_n 2, 1) := dchk_at dall_X8_isAllowed_30_md00_0 (k := 3) rfl
theorem dX8_isAllowed_4 : decode cX8_isAllowed 4 = .ok (.i2l, 1) := dchk_at dall_X8_isAllowed_30_md00_0 (k := 4) rfl
theorem dX8_isAllowed_5 : decode cX8_isAllowed 5 = .ok (.invokevirtual 218, 3) := dchk_at dall_X8_isAllowed_30_md00_0 (k := 5) rfl
theorem dX8_isAllowed_8 : decode cX8_isAllowed 8 = .ok (.aload_n 0, 1) := dchk_at dall_X8_isAllowed_30_md00_0 (k := 6) rfl
theorem dX8_isAllowed_9 : decode cX8_isAllowed 9 = .ok (.getfield 22, 3) := dchk_at dall_X8_isAllowed_30_md00_0 (k := 7) rfl
theorem dX8_isAllowed_12 : decode cX8_isAllowed 12 = .ok (.bipush 65, 2) := dchk_at dall_X8_isAllowed_30_md00_0 (k := 8) rfl
theorem dX8_isAllowed_14 : decode cX8_isAllowed 14 = .ok (.iaload, 1) := dchk_at dall_X8_isAllowed_30_md00_0 (k := 9) rfl
theorem dX8_isAllowed_15 : decode cX8_isAllowed 15 = .ok (.i2l, 1) := dchk_at dall_X8_isAllowed_30_md00_0 (k := 10) rfl
theorem dX8_isAllowed_16 : decode cX8_isAllowed 16 = .ok (.lcmp, 1) := dchk_at dall_X8_isAllowed_30_md00_0 (k := 11) rfl
theorem dX8_isAllowed_17 : decode cX8_isAllowed 17 = .ok (.ifCond .ge 7, 3) := dchk_at dall_X8_isAllowed_30_md00_0 (k := 12) rfl
theorem dX8_isAllowed_24 : decode cX8_isAllowed 24 = .ok (.iconst 0, 1) := dchk_at dall_X8_isAllowed_30_md00_0 (k := 13) rfl
theorem dX8_isAllowed_25 : decode cX8_isAllowed 25 = .ok (.ireturn, 1) := dchk_at dall_X8_isAllowed_30_md00_0 (k := 14) rfl
theorem dX8_isAllowed_20 : decode cX8_isAllowed 20 = .ok (.iconst 1, 1) := dchk_at dall_X8_isAllowed_30_md00_0 (k := 15) rfl
theorem dX8_isAllowed_21 : decode cX8_isAllowed 21 = .ok (.goto 4, 3) := dchk_at dall_X8_isAllowed_30_md00_0 (k := 16) rfl
def F_X8_above (p0 : Int32) : Option (Int32) :=
  if (0 : Int32) ≤ p0 then some p0 else some (-p0)

def v_f_X8_above : List Cond := List.cons (.code yX8_above cX8_above 1 (some .int)) (HAppend.hAppend (α := List Cond) (β := List Cond) (γ := List Cond) [] [])
theorem gw_f_X8_above : v_f_X8_above.all goodWord = true := by decide +kernel
theorem hd_X8_above : yX8_above.cls = RX8 ∧ yX8_above.cls ≠ "java/lang/invoke/MethodHandle" ∧ yX8_above.cls ≠ "java/lang/invoke/VarHandle" ∧ (parseMethodDescriptor yX8_above.desc).map (fun d => d.parameters.length) = some 1 := by decide +kernel
set_option maxHeartbeats 4000000 in
set_option maxRecDepth 100000 in
theorem f_X8_above (l : Launch) (E : EE) {p0 : Int32} {rr : Int32} (hF : F_X8_above p0 = some rr) : Met l yX8_above v_f_X8_above (({ frames := 0, cells := 0, slots := 0, locals := 0 } : Room)) (va_Pc [.int p0] (pP E [])) (vp_Si (fun q : Int32 => q = rr)) 0 0 (fun _ => False) := by
  refine Met.ofW (cc := cX8_above) (maxL := 1) (ret := (some .int)) (by decide) rfl ?_
  intro p e s m args below meth c s₁ B hml hv
  obtain ⟨rfl, ⟨hK, hN⟩, hP⟩ := hv
  have hx := B.exec
  have hb := B.bytes
  have hr := B.returns
  have hts := atoms_spec (ws := v_f_X8_above) B.pre
  have hown : s.vm.findClass RX8 = some m.cls := own_of hd_X8_above.1 (findClass_of_methodNamed B.named)
  have hlocks : meth.locks = false := B.notSynchronized
  replace hP : va_P E.1 vwCl [] s.heap := hP
  have hl := lv_entry ([.int p0]) (n := 1) (Nat.le_of_ble_eq_true rfl)
  rw [lg_entry_eq]
  generalize (lg_sl ([.int p0]) ++ List.replicate (1 - (lg_sl ([.int p0])).length) Slot.unset).toArray = ls at hl ⊢
  have hl : lv_has ls 1 [(0, .int p0)] := hl
  obtain ⟨Q, hQ⟩ : ∃ Q : State → Prop, Q = MQ below (vp_Si (fun q : Int32 => q = rr)) #[Value.int p0] s 0 0 (fun _ => False) := ⟨_, rfl⟩
  rw [← hQ]
  change W p l e ({ frames := 0, cells := 0, slots := 0, locals := 0 } : Room) s m #[Value.int p0] below meth c s.heap [] 0 0 Q (F0 m 0 ls [])
  unfold F_X8_above at hF
  refine lv_iload_n hx hb dX8_above_0 rfl (lv_at hl 0 rfl) ?_
  refine lv_if_ge (tgt := 9) hx hb dX8_above_1 (by decide) (fun c_1 => ?_) (fun c_1 => ?_)
  ·
    replace hF := ip c_1 hF
    refine lv_iload_n hx hb dX8_above_9 rfl (lv_at hl 0 rfl) ?_
    rw [hQ]
    obtain e9_0 := inj1 hF
    exact W.iret (v := p0) hx hb hr (fun tt ht hW => ⟨_, rfl, e9_0, ht⟩) (fun _ h => by cases h) dX8_above_10
  ·
    replace hF := inn c_1 hF
    refine lv_iload_n hx hb dX8_above_4 rfl (lv_at hl 0 rfl) ?_
    refine lv_ineg hx hb dX8_above_5 ?_
    refine lv_goto (tgt := 10) hx hb dX8_above_6 (by decide) ?_
    rw [hQ]
    obtain e9_0 := inj1 hF
    exact W.iret (v := -p0) hx hb hr (fun tt ht hW => ⟨_, rfl, e9_0, ht⟩) (fun _ h => by cases h) dX8_above_10

def B_X8_keep_54 (c_now : Nat → Int32) (c_acts : Int32) (x1 : Int32) (c_kept : Nat → Int32) : Option ((Int32 × (Nat → Int32)) ⊕ ((Nat → Int32))) :=
  if (265 : Int32) ≤ x1 then some (.inr c_kept) else ixF x1 265 (ixF (((265 : Int32) * c_acts) + x1) 10600 (nmF (upd c_kept (((265 : Int32) * c_acts) + x1).toNatClampNeg (c_now x1.toNatClampNeg)) (fun f_5 => some (.inl (x1 + (1 : Int32), f_5)))))
def J_X8_keep_52 (K : Nat) (c_now : Nat → Int32) (c_kept : Nat → Int32) (c_acts : Int32) : Option ((Nat → Int32) × Int32) :=
  bd1 (lpF (fun u9 : Int32 × (Nat → Int32) => B_X8_keep_54 c_now c_acts u9.1 u9.2) K ((0 : Int32), c_kept)) (fun c_kept_6 => some (c_kept_6, c_acts + (1 : Int32)))
def B_X8_keep_13 (x1 : Int32) (c_kept : Nat → Int32) : Option ((Int32 × (Nat → Int32)) ⊕ ((Nat → Int32))) :=
  if (10600 : Int32) ≤ x1 then some (.inr c_kept) else ixF x1 10600 (ixF (x1 - (265 : Int32)) 10600 (nmF (upd c_kept (x1 - (265 : Int32)).toNatClampNeg (c_kept x1.toNatClampNeg)) (fun f_11 => some (.inl (x1 + (1 : Int32), f_11)))))
def F_X8_keep (K : Nat) (c_now : Nat → Int32) (c_kept : Nat → Int32) (c_acts : Int32) : Option ((Nat → Int32) × Int32) :=
  if c_acts = (40 : Int32) then bd1 (lpF (fun u9 : Int32 × (Nat → Int32) => B_X8_keep_13  u9.1 u9.2) K ((265 : Int32), c_kept)) (fun c_kept_12 => J_X8_keep_52 K c_now c_kept_12 (c_acts - (1 : Int32))) else J_X8_keep_52 K c_now c_kept c_acts
abbrev w_X8_keep (E : EE) (a_ a_tape a_readPlace a_script a_scriptLong a_now a_refused a_shareX a_shareY a_askedRow a_kept a_aside a_spelled a_image : Nat) (c_thrown : Int32) (c_taped : Int32) (c_at : Int32) (c_part : Int32) (c_partFrom : Int32) (c_partNumber : Int32) (c_wrong : Int32) (c_partWord : Int64) (c_readLaw : Int32) (c_readBound : Int32) (c_readGoal : Int32) (c_readSites : Int32) (c_scripts : Int32) (c_sites : Int32) (c_asked : Int32) (c_outcome : Int32) (c_took : Int32) (c_acts : Int32) (c_drawn : Int64) (c_racer : Int32) (c_raced : Int32) (c_spelledMany : Int32) (c_hasImage : Int32) (c_now : Nat → Int32) (c_kept : Nat → Int32) : va_W := [(a_, .inr (9, [.int c_thrown, .ref a_tape, .int c_taped, .int c_at, .int c_part, .int c_partFrom, .int c_partNumber, .int c_wrong, .long c_partWord, .int c_readLaw, .int c_readBound, .int c_readGoal, .int c_readSites, .ref a_readPlace, .ref a_script, .ref a_scriptLong, .int c_scripts, .ref a_now, .ref a_refused, .int c_sites, .ref a_shareX, .ref a_shareY, .int c_asked, .int c_outcome, .ref a_askedRow, .int c_took, .ref a_kept, .int c_acts, .long c_drawn, .ref a_aside, .int c_racer, .int c_raced, .ref a_spelled, .int c_spelledMany, .ref a_image, .int c_hasImage])), (a_now, .inl (E.2.1, 265, .inl c_now)), (a_kept, .inl (E.2.1, 10600, .inl c_kept))]
def v_f_X8_keep : List Cond := List.cons (.code yX8_keep cX8_keep 2 none) (HAppend.hAppend (α := List Cond) (β := List Cond) (γ := List Cond) [.fieldLink RX8 205 "HushWatchModel" "acts" "I", .fieldLink RX8 37 "HushWatchModel" "kept" "[I", .fieldLink RX8 22 "HushWatchModel" "now" "[I"] (HAppend.hAppend (α := List Cond) (β := List Cond) (γ := List Cond) wsX80 []))
theorem gw_f_X8_keep : v_f_X8_keep.all goodWord = true := by decide +kernel
theorem i_f_X8_keep_X8 : ∀ w ∈ wsX80, w ∈ v_f_X8_keep := fun _ h => List.mem_cons_of_mem _ (List.mem_append_right _ (List.mem_append_left _ h))
theorem hd_X8_keep : yX8_keep.cls = RX8 ∧ yX8_keep.cls ≠ "java/lang/invoke/MethodHandle" ∧ yX8_keep.cls ≠ "java/lang/invoke/VarHandle" ∧ (parseMethodDescriptor yX8_keep.desc).map (fun d => d.parameters.length) = some 0 := by decide +kernel
set_option maxHeartbeats 4000000 in
set_option maxRecDepth 100000 in
theorem wb_X8_keep_54 {p : Program} (l : Launch) {e : Env} {s : State} {m : MethodId} {below : List Frame} {meth : Method} {c : Code} {Q : State → Prop} (E : EE) (K : Nat) {a_ a_tape a_readPlace a_script a_scriptLong a_now a_refused a_shareX a_shareY a_askedRow a_kept a_aside a_spelled a_image : Nat} {c_thrown : Int32} {c_taped : Int32} {c_at : Int32} {c_part : Int32} {c_partFrom : Int32} {c_partNumber : Int32} {c_wrong : Int32} {c_partWord : Int64} {c_readLaw : Int32} {c_readBound : Int32} {c_readGoal : Int32} {c_readSites : Int32} {c_scripts : Int32} {c_sites : Int32} {c_asked : Int32} {c_outcome : Int32} {c_took : Int32} {c_drawn : Int64} {c_racer : Int32} {c_raced : Int32} {c_spelledMany : Int32} {c_hasImage : Int32} {c_now : Nat → Int32} {x1 : Int32} {c_kept : Nat → Int32} {c_acts : Int32} (hx : p.tables.exec = Jvm.exec) (hb : c.code = cX8_keep) (hml : c.maxLocals = 2) (hown : s.vm.findClass RX8 = some m.cls) (hts : ∀ w ∈ v_f_X8_keep, w.before #[Value.ref a_] s = true) (hK : va_K E.1 vwCl (TY E) s) (hN : NX s) {A : Nat → Prop} (hA : ∀ q : Nat, s.heap.size ≤ q → A q) {xx : (Int32 × (Nat → Int32)) ⊕ ((Nat → Int32))} (hC : ∀ (x1 : Int32), ∀ (c_kept : Nat → Int32), xx = .inl (x1, c_kept) → ∀ (H : Heap) (locs : List Loc) (ls : Array Slot), va_P E.1 vwCl (w_X8_keep E a_ a_tape a_readPlace a_script a_scriptLong a_now a_refused a_shareX a_shareY a_askedRow a_kept a_aside a_spelled a_image c_thrown c_taped c_at c_part c_partFrom c_partNumber c_wrong c_partWord c_readLaw c_readBound c_readGoal c_readSites c_scripts c_sites c_asked c_outcome c_took c_acts c_drawn c_racer c_raced c_spelledMany c_hasImage c_now c_kept) H → va_D A (w_X8_keep E a_ a_tape a_readPlace a_script a_scriptLong a_now a_refused a_shareX a_shareY a_askedRow a_kept a_aside a_spelled a_image c_thrown c_taped c_at c_part c_partFrom c_partNumber c_wrong c_partWord c_readLaw c_readBound c_readGoal c_readSites c_scripts c_sites c_asked c_outcome c_took c_acts c_drawn c_racer c_raced c_spelledMany c_hasImage c_now c_kept) → va_S A s.heap H locs → lv_has ls 2 [(0, .ref a_), (1, .int x1)] → W p l e ({ frames := 0, cells := 0, slots := 0, locals := 0 } : Room) s m #[Value.ref a_] below meth c H locs 0 0 Q (F0 m 54 ls [])) (hE : ∀ (c_kept : Nat → Int32), xx = .inr c_kept → ((∀ (H : Heap) (locs : List Loc) (ls : Array Slot), va_P E.1 vwCl (w_X8_keep E a_ a_tape a_readPlace a_script a_scriptLong a_now a_refused a_shareX a_shareY a_askedRow a_kept a_aside a_spelled a_image c_thrown c_taped c_at c_part c_partFrom c_partNumber c_wrong c_partWord c_readLaw c_readBound c_readGoal c_readSites c_scripts c_sites c_asked c_outcome c_took c_acts c_drawn c_racer c_raced c_spelledMany c_hasImage c_now c_kept) H → va_D A (w_X8_keep E a_ a_tape a_readPlace a_script a_scriptLong a_now a_refused a_shareX a_shareY a_askedRow a_kept a_aside a_spelled a_image c_thrown c_taped c_at c_part c_partFrom c_partNumber c_wrong c_partWord c_readLaw c_readBound c_readGoal c_readSites c_scripts c_sites c_asked c_outcome c_took c_acts c_drawn c_racer c_raced c_spelledMany c_hasImage c_now c_kept) → va_S A s.heap H locs → lv_has ls 2 [(0, .ref a_)] → W p l e ({ frames := 0, cells := 0, slots := 0, locals := 0 } : Room) s m #[Value.ref a_] below meth c H locs 0 0 Q (F0 m 88 ls [])))) (hF : B_X8_keep_54 c_now c_acts x1 c_kept = some xx) : ∀ (H : Heap) (locs : List Loc) (ls : Array Slot), va_P E.1 vwCl (w_X8_keep E a_ a_tape a_readPlace a_script a_scriptLong a_now a_refused a_shareX a_shareY a_askedRow a_kept a_aside a_spelled a_image c_thrown c_taped c_at c_part c_partFrom c_partNumber c_wrong c_partWord c_readLaw c_readBound c_readGoal c_readSites c_scripts c_sites c_asked c_outcome c_took c_acts c_drawn c_racer c_raced c_spelledMany c_hasImage c_now c_kept) H → va_D A (w_X8_keep E a_ a_tape a_readPlace a_script a_scriptLong a_now a_refused a_shareX a_shareY a_askedRow a_kept a_aside a_spelled a_image c_thrown c_taped c_at c_part c_partFrom c_partNumber c_wrong c_partWord c_readLaw c_readBound c_readGoal c_readSites c_scripts c_sites c_asked c_outcome c_took c_acts c_drawn c_racer c_raced c_spelledMany c_hasImage c_now c_kept) → va_S A s.heap H locs → lv_has ls 2 [(0, .ref a_), (1, .int x1)] → W p l e ({ frames := 0, cells := 0, slots := 0, locals := 0 } : Room) s m #[Value.ref a_] below meth c H locs 0 0 Q (F0 m 54 ls []) := by
  unfold B_X8_keep_54 at hF
  intro H locs ls hP hD hS hl
  replace hP : va_P E.1 vwCl [(a_, .inr (9, [.int c_thrown, .ref a_tape, .int c_taped, .int c_at, .int c_part, .int c_partFrom, .int c_partNumber, .int c_wrong, .long c_partWord, .int c_readLaw, .int c_readBound, .int c_readGoal, .int c_readSites, .ref a_readPlace, .ref a_script, .ref a_scriptLong, .int c_scripts, .ref a_now, .ref a_refused, .int c_sites, .ref a_shareX, .ref a_shareY, .int c_asked, .int c_outcome, .ref a_askedRow, .int c_took, .ref a_kept, .int c_acts, .long c_drawn, .ref a_aside, .int c_racer, .int c_raced, .ref a_spelled, .int c_spelledMany, .ref a_image, .int c_hasImage])), (a_now, .inl (E.2.1, 265, .inl c_now)), (a_kept, .inl (E.2.1, 10600, .inl c_kept))] H := hP
  replace hD : va_D A [(a_, .inr (9, [.int c_thrown, .ref a_tape, .int c_taped, .int c_at, .int c_part, .int c_partFrom, .int c_partNumber, .int c_wrong, .long c_partWord, .int c_readLaw, .int c_readBound, .int c_readGoal, .int c_readSites, .ref a_readPlace, .ref a_script, .ref a_scriptLong, .int c_scripts, .ref a_now, .ref a_refused, .int c_sites, .ref a_shareX, .ref a_shareY, .int c_asked, .int c_outcome, .ref a_askedRow, .int c_took, .ref a_kept, .int c_acts, .long c_drawn, .ref a_aside, .int c_racer, .int c_raced, .ref a_spelled, .int c_spelledMany, .ref a_image, .int c_hasImage])), (a_now, .inl (E.2.1, 265, .inl c_now)), (a_kept, .inl (E.2.1, 10600, .inl c_kept))] := hD
  refine lv_iload_n hx hb dX8_keep_54 rfl (lv_at hl 1 rfl) ?_
  refine lv_sipush (v := 265) hx hb dX8_keep_55 (by decide) ?_
  refine lv_icmp_ge (tgt := 88) hx hb dX8_keep_58 (by decide) (fun c_2 => ?_) (fun c_2 => ?_)
  ·
    replace hF := ip c_2 hF
    cases hF
    exact hE c_kept rfl H locs ls (hP.sub [0, 1, 2] rfl) (hD.sub [0, 1, 2] (by decide) rfl) hS (lv_sub hl [0] rfl)
  ·
    replace hF := inn c_2 hF
    refine lv_aload_n hx hb dX8_keep_61 rfl (lv_at hl 0 rfl) ?_
    refine gt_X8_26 (v := .ref a_kept) hx hb hts i_f_X8_keep_X8 hown hK hP 0 rfl (hts (.fieldLink RX8 37 "HushWatchModel" "kept" "[I") (List.mem_of_getElem? (i := 2) rfl)) rfl dX8_keep_62 ?_
    refine lv_sipush (v := 265) hx hb dX8_keep_65 (by decide) ?_
    refine lv_aload_n hx hb dX8_keep_68 rfl (lv_at hl 0 rfl) ?_
    refine gt_X8_27 (v := .int c_acts) hx hb hts i_f_X8_keep_X8 hown hK hP 0 rfl (hts (.fieldLink RX8 205 "HushWatchModel" "acts" "I") (List.mem_of_getElem? (i := 1) rfl)) rfl dX8_keep_69 ?_
    refine lv_imul hx hb dX8_keep_72 ?_
    refine lv_iload_n hx hb dX8_keep_73 rfl (lv_at hl 1 rfl) ?_
    refine lv_iadd hx hb dX8_keep_74 ?_
    refine lv_aload_n hx hb dX8_keep_75 rfl (lv_at hl 0 rfl) ?_
    refine gt_X8_17 (v := .ref a_now) hx hb hts i_f_X8_keep_X8 hown hK hP 0 rfl (hts (.fieldLink RX8 22 "HushWatchModel" "now" "[I") (List.mem_of_getElem? (i := 3) rfl)) rfl dX8_keep_76 ?_
    refine lv_iload_n hx hb dX8_keep_79 rfl (lv_at hl 1 rfl) ?_
    replace hF := ix_s hF
    obtain ⟨hi_3, hF⟩ := hF
    refine va_iald hx hb hK hP 1 0 rfl rfl hi_3 dX8_keep_80 ?_
    replace hF := ix_s hF
    obtain ⟨hi_4, hF⟩ := hF
    refine va_iast hx hb hK hP hD hS 2 0 rfl rfl hi_4 dX8_keep_81 (fun H locs hP hD hS => ?_)
    replace hP : va_P E.1 vwCl [(a_, .inr (9, [.int c_thrown, .ref a_tape, .int c_taped, .int c_at, .int c_part, .int c_partFrom, .int c_partNumber, .int c_wrong, .long c_partWord, .int c_readLaw, .int c_readBound, .int c_readGoal, .int c_readSites, .ref a_readPlace, .ref a_script, .ref a_scriptLong, .int c_scripts, .ref a_now, .ref a_refused, .int c_sites, .ref a_shareX, .ref a_shareY, .int c_asked, .int c_outcome, .ref a_askedRow, .int c_took, .ref a_kept, .int c_acts, .long c_drawn, .ref a_aside, .int c_racer, .int c_raced, .ref a_spelled, .int c_spelledMany, .ref a_image, .int c_hasImage])), (a_now, .inl (E.2.1, 265, .inl c_now)), (a_kept, .inl (E.2.1, 10600, .inl (upd c_kept (((265 : Int32) * c_acts) + x1).toNatClampNeg (c_now x1.toNatClampNeg))))] H := hP
    replace hD : va_D A [(a_, .inr (9, [.int c_thrown, .ref a_tape, .int c_taped, .int c_at, .int c_part, .int c_partFrom, .int c_partNumber, .int c_wrong, .long c_partWord, .int c_readLaw, .int c_readBound, .int c_readGoal, .int c_readSites, .ref a_readPlace, .ref a_script, .ref a_scriptLong, .int c_scripts, .ref a_now, .ref a_refused, .int c_sites, .ref a_shareX, .ref a_shareY, .int c_asked, .int c_outcome, .ref a_askedRow, .int c_took, .ref a_kept, .int c_acts, .long c_drawn, .ref a_aside, .int c_racer, .int c_raced, .ref a_spelled, .int c_spelledMany, .ref a_image, .int c_hasImage])), (a_now, .inl (E.2.1, 265, .inl c_now)), (a_kept, .inl (E.2.1, 10600, .inl (upd c_kept (((265 : Int32) * c_acts) + x1).toNatClampNeg (c_now x1.toNatClampNeg))))] := hD
    replace hF := nm_s hF
    obtain ⟨f_5, hf_5, hF⟩ := hF
    rw [← hf_5] at hP hD
    refine lv_iinc (v := x1 + (1 : Int32)) (lv' := [(1, .int (x1 + (1 : Int32))), (0, .ref a_)]) hx hb dX8_keep_82 hl (k := 1) rfl (rfl) (by decide) rfl (fun ls hl => ?_)
    refine lv_goto (tgt := 54) hx hb dX8_keep_85 (by decide) ?_
    cases hF
    exact hC (x1 + (1 : Int32)) f_5 rfl H locs ls (hP.sub [0, 1, 2] rfl) (hD.sub [0, 1, 2] (by decide) rfl) hS (lv_sub hl [1, 0] rfl)

set_option maxHeartbeats 4000000 in
set_option maxRecDepth 100000 in
theorem lw_X8_keep_54 {p : Program} (l : Launch) {e : Env} {s : State} {m : MethodId} {below : List Frame} {meth : Method} {c : Code} {Q : State → Prop} (E : EE) (K : Nat) {a_ a_tape a_readPlace a_script a_scriptLong a_now a_refused a_shareX a_shareY a_askedRow a_kept a_aside a_spelled a_image : Nat} {c_thrown : Int32} {c_taped : Int32} {c_at : Int32} {c_part : Int32} {c_partFrom : Int32} {c_partNumber : Int32} {c_wrong : Int32} {c_partWord : Int64} {c_readLaw : Int32} {c_readBound : Int32} {c_readGoal : Int32} {c_readSites : Int32} {c_scripts : Int32} {c_sites : Int32} {c_asked : Int32} {c_outcome : Int32} {c_took : Int32} {c_drawn : Int64} {c_racer : Int32} {c_raced : Int32} {c_spelledMany : Int32} {c_hasImage : Int32} {c_now : Nat → Int32} {c_acts : Int32} (hx : p.tables.exec = Jvm.exec) (hb : c.code = cX8_keep) (hml : c.maxLocals = 2) (hown : s.vm.findClass RX8 = some m.cls) (hts : ∀ w ∈ v_f_X8_keep, w.before #[Value.ref a_] s = true) (hK : va_K E.1 vwCl (TY E) s) (hN : NX s) {A : Nat → Prop} (hA : ∀ q : Nat, s.heap.size ≤ q → A q) (j9 : Nat) (x1 : Int32) (c_kept : Nat → Int32) (c_kept' : Nat → Int32) (hL : lpF (fun u9 : Int32 × (Nat → Int32) => B_X8_keep_54 c_now c_acts u9.1 u9.2) j9 (x1, c_kept) = some c_kept') (hX : (∀ (H : Heap) (locs : List Loc) (ls : Array Slot), va_P E.1 vwCl (w_X8_keep E a_ a_tape a_readPlace a_script a_scriptLong a_now a_refused a_shareX a_shareY a_askedRow a_kept a_aside a_spelled a_image c_thrown c_taped c_at c_part c_partFrom c_partNumber c_wrong c_partWord c_readLaw c_readBound c_readGoal c_readSites c_scripts c_sites c_asked c_outcome c_took c_acts c_drawn c_racer c_raced c_spelledMany c_hasImage c_now c_kept') H → va_D A (w_X8_keep E a_ a_tape a_readPlace a_script a_scriptLong a_now a_refused a_shareX a_shareY a_askedRow a_kept a_aside a_spelled a_image c_thrown c_taped c_at c_part c_partFrom c_partNumber c_wrong c_partWord c_readLaw c_readBound c_readGoal c_readSites c_scripts c_sites c_asked c_outcome c_took c_acts c_drawn c_racer c_raced c_spelledMany c_hasImage c_now c_kept') → va_S A s.heap H locs → lv_has ls 2 [(0, .ref a_)] → W p l e ({ frames := 0, cells := 0, slots := 0, locals := 0 } : Room) s m #[Value.ref a_] below meth c H locs 0 0 Q (F0 m 88 ls []))) : ∀ (H : Heap) (locs : List Loc) (ls : Array Slot), va_P E.1 vwCl (w_X8_keep E a_ a_tape a_readPlace a_script a_scriptLong a_now a_refused a_shareX a_shareY a_askedRow a_kept a_aside a_spelled a_image c_thrown c_taped c_at c_part c_partFrom c_partNumber c_wrong c_partWord c_readLaw c_readBound c_readGoal c_readSites c_scripts c_sites c_asked c_outcome c_took c_acts c_drawn c_racer c_raced c_spelledMany c_hasImage c_now c_kept) H → va_D A (w_X8_keep E a_ a_tape a_readPlace a_script a_scriptLong a_now a_refused a_shareX a_shareY a_askedRow a_kept a_aside a_spelled a_image c_thrown c_taped c_at c_part c_partFrom c_partNumber c_wrong c_partWord c_readLaw c_readBound c_readGoal c_readSites c_scripts c_sites c_asked c_outcome c_took c_acts c_drawn c_racer c_raced c_spelledMany c_hasImage c_now c_kept) → va_S A s.heap H locs → lv_has ls 2 [(0, .ref a_), (1, .int x1)] → W p l e ({ frames := 0, cells := 0, slots := 0, locals := 0 } : Room) s m #[Value.ref a_] below meth c H locs 0 0 Q (F0 m 54 ls []) := by
  exact lp_rule (P := (fun u9 : Int32 × (Nat → Int32) => ∀ (H : Heap) (locs : List Loc) (ls : Array Slot), va_P E.1 vwCl (w_X8_keep E a_ a_tape a_readPlace a_script a_scriptLong a_now a_refused a_shareX a_shareY a_askedRow a_kept a_aside a_spelled a_image c_thrown c_taped c_at c_part c_partFrom c_partNumber c_wrong c_partWord c_readLaw c_readBound c_readGoal c_readSites c_scripts c_sites c_asked c_outcome c_took c_acts c_drawn c_racer c_raced c_spelledMany c_hasImage c_now u9.2) H → va_D A (w_X8_keep E a_ a_tape a_readPlace a_script a_scriptLong a_now a_refused a_shareX a_shareY a_askedRow a_kept a_aside a_spelled a_image c_thrown c_taped c_at c_part c_partFrom c_partNumber c_wrong c_partWord c_readLaw c_readBound c_readGoal c_readSites c_scripts c_sites c_asked c_outcome c_took c_acts c_drawn c_racer c_raced c_spelledMany c_hasImage c_now u9.2) → va_S A s.heap H locs → lv_has ls 2 [(0, .ref a_), (1, .int u9.1)] → W p l e ({ frames := 0, cells := 0, slots := 0, locals := 0 } : Room) s m #[Value.ref a_] below meth c H locs 0 0 Q (F0 m 54 ls []))) (R := (fun r9 : (Nat → Int32) => (∀ (H : Heap) (locs : List Loc) (ls : Array Slot), va_P E.1 vwCl (w_X8_keep E a_ a_tape a_readPlace a_script a_scriptLong a_now a_refused a_shareX a_shareY a_askedRow a_kept a_aside a_spelled a_image c_thrown c_taped c_at c_part c_partFrom c_partNumber c_wrong c_partWord c_readLaw c_readBound c_readGoal c_readSites c_scripts c_sites c_asked c_outcome c_took c_acts c_drawn c_racer c_raced c_spelledMany c_hasImage c_now r9) H → va_D A (w_X8_keep E a_ a_tape a_readPlace a_script a_scriptLong a_now a_refused a_shareX a_shareY a_askedRow a_kept a_aside a_spelled a_image c_thrown c_taped c_at c_part c_partFrom c_partNumber c_wrong c_partWord c_readLaw c_readBound c_readGoal c_readSites c_scripts c_sites c_asked c_outcome c_took c_acts c_drawn c_racer c_raced c_spelledMany c_hasImage c_now r9) → va_S A s.heap H locs → lv_has ls 2 [(0, .ref a_)] → W p l e ({ frames := 0, cells := 0, slots := 0, locals := 0 } : Room) s m #[Value.ref a_] below meth c H locs 0 0 Q (F0 m 88 ls [])))) (fun u9 xx hF hC hE => wb_X8_keep_54 l E K (c_thrown := c_thrown) (c_taped := c_taped) (c_at := c_at) (c_part := c_part) (c_partFrom := c_partFrom) (c_partNumber := c_partNumber) (c_wrong := c_wrong) (c_partWord := c_partWord) (c_readLaw := c_readLaw) (c_readBound := c_readBound) (c_readGoal := c_readGoal) (c_readSites := c_readSites) (c_scripts := c_scripts) (c_sites := c_sites) (c_asked := c_asked) (c_outcome := c_outcome) (c_took := c_took) (c_drawn := c_drawn) (c_racer := c_racer) (c_raced := c_raced) (c_spelledMany := c_spelledMany) (c_hasImage := c_hasImage) (c_now := c_now) (x1 := u9.1) (c_kept := u9.2) (c_acts := c_acts) hx hb hml hown hts hK hN hA (fun x1 c_kept q9 => hC _ q9) (fun c_kept q9 => hE _ q9) hF) j9 (x1, c_kept) c_kept' hL hX

set_option maxHeartbeats 4000000 in
set_option maxRecDepth 100000 in
theorem j_X8_keep_52 {p : Program} (l : Launch) {e : Env} {s : State} {m : MethodId} {below : List Frame} {meth : Method} {c : Code} {Q : State → Prop} (E : EE) (K : Nat) {a_ a_tape a_readPlace a_script a_scriptLong a_now a_refused a_shareX a_shareY a_askedRow a_kept a_aside a_spelled a_image : Nat} {c_thrown : Int32} {c_taped : Int32} {c_at : Int32} {c_part : Int32} {c_partFrom : Int32} {c_partNumber : Int32} {c_wrong : Int32} {c_partWord : Int64} {c_readLaw : Int32} {c_readBound : Int32} {c_readGoal : Int32} {c_readSites : Int32} {c_scripts : Int32} {c_sites : Int32} {c_asked : Int32} {c_outcome : Int32} {c_took : Int32} {c_drawn : Int64} {c_racer : Int32} {c_raced : Int32} {c_spelledMany : Int32} {c_hasImage : Int32} {c_now : Nat → Int32} {c_kept : Nat → Int32} {c_acts : Int32} (hx : p.tables.exec = Jvm.exec) (hb : c.code = cX8_keep) (hml : c.maxLocals = 2) (hown : s.vm.findClass RX8 = some m.cls) (hts : ∀ w ∈ v_f_X8_keep, w.before #[Value.ref a_] s = true) (hK : va_K E.1 vwCl (TY E) s) (hN : NX s) {A : Nat → Prop} (hA : ∀ q : Nat, s.heap.size ≤ q → A q) {n_kept : Nat → Int32} {n_acts : Int32} (hr : meth.sig.returnType = none) (hlocks : meth.locks = false) (hQ : Q = MQ below (va_Qv (fun (_u : Unit) => True) (fun (_u : Unit) tt => va_P E.1 vwCl (w_X8_keep E a_ a_tape a_readPlace a_script a_scriptLong a_now a_refused a_shareX a_shareY a_askedRow a_kept a_aside a_spelled a_image c_thrown c_taped c_at c_part c_partFrom c_partNumber c_wrong c_partWord c_readLaw c_readBound c_readGoal c_readSites c_scripts c_sites c_asked c_outcome c_took n_acts c_drawn c_racer c_raced c_spelledMany c_hasImage c_now n_kept) tt.heap ∧ va_D A (w_X8_keep E a_ a_tape a_readPlace a_script a_scriptLong a_now a_refused a_shareX a_shareY a_askedRow a_kept a_aside a_spelled a_image c_thrown c_taped c_at c_part c_partFrom c_partNumber c_wrong c_partWord c_readLaw c_readBound c_readGoal c_readSites c_scripts c_sites c_asked c_outcome c_took n_acts c_drawn c_racer c_raced c_spelledMany c_hasImage c_now n_kept)) A) #[Value.ref a_] s 0 0 A) (hF : J_X8_keep_52 K c_now c_kept c_acts = some (n_kept, n_acts)) : ∀ (H : Heap) (locs : List Loc) (ls : Array Slot), va_P E.1 vwCl (w_X8_keep E a_ a_tape a_readPlace a_script a_scriptLong a_now a_refused a_shareX a_shareY a_askedRow a_kept a_aside a_spelled a_image c_thrown c_taped c_at c_part c_partFrom c_partNumber c_wrong c_partWord c_readLaw c_readBound c_readGoal c_readSites c_scripts c_sites c_asked c_outcome c_took c_acts c_drawn c_racer c_raced c_spelledMany c_hasImage c_now c_kept) H → va_D A (w_X8_keep E a_ a_tape a_readPlace a_script a_scriptLong a_now a_refused a_shareX a_shareY a_askedRow a_kept a_aside a_spelled a_image c_thrown c_taped c_at c_part c_partFrom c_partNumber c_wrong c_partWord c_readLaw c_readBound c_readGoal c_readSites c_scripts c_sites c_asked c_outcome c_took c_acts c_drawn c_racer c_raced c_spelledMany c_hasImage c_now c_kept) → va_S A s.heap H locs → lv_has ls 2 [(0, .ref a_)] → W p l e ({ frames := 0, cells := 0, slots := 0, locals := 0 } : Room) s m #[Value.ref a_] below meth c H locs 0 0 Q (F0 m 52 ls []) := by
  unfold J_X8_keep_52 at hF
  intro H locs ls hP hD hS hl
  replace hP : va_P E.1 vwCl [(a_, .inr (9, [.int c_thrown, .ref a_tape, .int c_taped, .int c_at, .int c_part, .int c_partFrom, .int c_partNumber, .int c_wrong, .long c_partWord, .int c_readLaw, .int c_readBound, .int c_readGoal, .int c_readSites, .ref a_readPlace, .ref a_script, .ref a_scriptLong, .int c_scripts, .ref a_now, .ref a_refused, .int c_sites, .ref a_shareX, .ref a_shareY, .int c_asked, .int c_outcome, .ref a_askedRow, .int c_took, .ref a_kept, .int c_acts, .long c_drawn, .ref a_aside, .int c_racer, .int c_raced, .ref a_spelled, .int c_spelledMany, .ref a_image, .int c_hasImage])), (a_now, .inl (E.2.1, 265, .inl c_now)), (a_kept, .inl (E.2.1, 10600, .inl c_kept))] H := hP
  replace hD : va_D A [(a_, .inr (9, [.int c_thrown, .ref a_tape, .int c_taped, .int c_at, .int c_part, .int c_partFrom, .int c_partNumber, .int c_wrong, .long c_partWord, .int c_readLaw, .int c_readBound, .int c_readGoal, .int c_readSites, .ref a_readPlace, .ref a_script, .ref a_scriptLong, .int c_scripts, .ref a_now, .ref a_refused, .int c_sites, .ref a_shareX, .ref a_shareY, .int c_asked, .int c_outcome, .ref a_askedRow, .int c_took, .ref a_kept, .int c_acts, .long c_drawn, .ref a_aside, .int c_racer, .int c_raced, .ref a_spelled, .int c_spelledMany, .ref a_image, .int c_hasImage])), (a_now, .inl (E.2.1, 265, .inl c_now)), (a_kept, .inl (E.2.1, 10600, .inl c_kept))] := hD
  refine lv_iconst (v := 0) hx hb dX8_keep_52 (by decide) ?_
  refine lv_istore_n (lv' := [(1, .int (0 : Int32)), (0, .ref a_)]) hx hb dX8_keep_53 rfl hl (by decide) rfl (fun ls hl => ?_)
  replace hF := bd1_s hF
  obtain ⟨c_kept_6, hL_7, hF⟩ := hF
  refine lw_X8_keep_54 l E K (c_thrown := c_thrown) (c_taped := c_taped) (c_at := c_at) (c_part := c_part) (c_partFrom := c_partFrom) (c_partNumber := c_partNumber) (c_wrong := c_wrong) (c_partWord := c_partWord) (c_readLaw := c_readLaw) (c_readBound := c_readBound) (c_readGoal := c_readGoal) (c_readSites := c_readSites) (c_scripts := c_scripts) (c_sites := c_sites) (c_asked := c_asked) (c_outcome := c_outcome) (c_took := c_took) (c_drawn := c_drawn) (c_racer := c_racer) (c_raced := c_raced) (c_spelledMany := c_spelledMany) (c_hasImage := c_hasImage) (c_now := c_now) (c_acts := c_acts) hx hb hml hown hts hK hN hA K (0 : Int32) c_kept c_kept_6 hL_7 ?_ H locs ls (hP.sub [0, 1, 2] rfl) (hD.sub [0, 1, 2] (by decide) rfl) hS (lv_sub hl [1, 0] rfl)
  ·
    intro H locs ls hP hD hS hl
    replace hP : va_P E.1 vwCl [(a_, .inr (9, [.int c_thrown, .ref a_tape, .int c_taped, .int c_at, .int c_part, .int c_partFrom, .int c_partNumber, .int c_wrong, .long c_partWord, .int c_readLaw, .int c_readBound, .int c_readGoal, .int c_readSites, .ref a_readPlace, .ref a_script, .ref a_scriptLong, .int c_scripts, .ref a_now, .ref a_refused, .int c_sites, .ref a_shareX, .ref a_shareY, .int c_asked, .int c_outcome, .ref a_askedRow, .int c_took, .ref a_kept, .int c_acts, .long c_drawn, .ref a_aside, .int c_racer, .int c_raced, .ref a_spelled, .int c_spelledMany, .ref a_image, .int c_hasImage])), (a_now, .inl (E.2.1, 265, .inl c_now)), (a_kept, .inl (E.2.1, 10600, .inl c_kept_6))] H := hP
    replace hD : va_D A [(a_, .inr (9, [.int c_thrown, .ref a_tape, .int c_taped, .int c_at, .int c_part, .int c_partFrom, .int c_partNumber, .int c_wrong, .long c_partWord, .int c_readLaw, .int c_readBound, .int c_readGoal, .int c_readSites, .ref a_readPlace, .ref a_script, .ref a_scriptLong, .int c_scripts, .ref a_now, .ref a_refused, .int c_sites, .ref a_shareX, .ref a_shareY, .int c_asked, .int c_outcome, .ref a_askedRow, .int c_took, .ref a_kept, .int c_acts, .long c_drawn, .ref a_aside, .int c_racer, .int c_raced, .ref a_spelled, .int c_spelledMany, .ref a_image, .int c_hasImage])), (a_now, .inl (E.2.1, 265, .inl c_now)), (a_kept, .inl (E.2.1, 10600, .inl c_kept_6))] := hD
    refine lv_aload_n hx hb dX8_keep_88 rfl (lv_at hl 0 rfl) ?_
    refine lv_dup hx hb dX8_keep_89 rfl ?_
    refine gt_X8_27 (v := .int c_acts) hx hb hts i_f_X8_keep_X8 hown hK hP 0 rfl (hts (.fieldLink RX8 205 "HushWatchModel" "acts" "I") (List.mem_of_getElem? (i := 1) rfl)) rfl dX8_keep_90 ?_
    refine lv_iconst (v := 1) hx hb dX8_keep_93 (by decide) ?_
    refine lv_iadd hx hb dX8_keep_94 ?_
    refine pt_X8_27 (v := .int (c_acts + (1 : Int32))) hx hb hts i_f_X8_keep_X8 hown hK hP hD hS 0 rfl (hts (.fieldLink RX8 205 "HushWatchModel" "acts" "I") (List.mem_of_getElem? (i := 1) rfl)) rfl rfl (Nat.le_of_ble_eq_true rfl) dX8_keep_95 (fun H locs hP hD hS => ?_)
    replace hP : va_P E.1 vwCl [(a_, .inr (9, [.int c_thrown, .ref a_tape, .int c_taped, .int c_at, .int c_part, .int c_partFrom, .int c_partNumber, .int c_wrong, .long c_partWord, .int c_readLaw, .int c_readBound, .int c_readGoal, .int c_readSites, .ref a_readPlace, .ref a_script, .ref a_scriptLong, .int c_scripts, .ref a_now, .ref a_refused, .int c_sites, .ref a_shareX, .ref a_shareY, .int c_asked, .int c_outcome, .ref a_askedRow, .int c_took, .ref a_kept, .int (c_acts + (1 : Int32)), .long c_drawn, .ref a_aside, .int c_racer, .int c_raced, .ref a_spelled, .int c_spelledMany, .ref a_image, .int c_hasImage])), (a_now, .inl (E.2.1, 265, .inl c_now)), (a_kept, .inl (E.2.1, 10600, .inl c_kept_6))] H := hP
    replace hD : va_D A [(a_, .inr (9, [.int c_thrown, .ref a_tape, .int c_taped, .int c_at, .int c_part, .int c_partFrom, .int c_partNumber, .int c_wrong, .long c_partWord, .int c_readLaw, .int c_readBound, .int c_readGoal, .int c_readSites, .ref a_readPlace, .ref a_script, .ref a_scriptLong, .int c_scripts, .ref a_now, .ref a_refused, .int c_sites, .ref a_shareX, .ref a_shareY, .int c_asked, .int c_outcome, .ref a_askedRow, .int c_took, .ref a_kept, .int (c_acts + (1 : Int32)), .long c_drawn, .ref a_aside, .int c_racer, .int c_raced, .ref a_spelled, .int c_spelledMany, .ref a_image, .int c_hasImage])), (a_now, .inl (E.2.1, 265, .inl c_now)), (a_kept, .inl (E.2.1, 10600, .inl c_kept_6))] := hD
    rw [hQ]
    have h9 := fin9 (P := fun u9 : (Nat → Int32) × Int32 => va_P E.1 vwCl (w_X8_keep E a_ a_tape a_readPlace a_script a_scriptLong a_now a_refused a_shareX a_shareY a_askedRow a_kept a_aside a_spelled a_image c_thrown c_taped c_at c_part c_partFrom c_partNumber c_wrong c_partWord c_readLaw c_readBound c_readGoal c_readSites c_scripts c_sites c_asked c_outcome c_took u9.2 c_drawn c_racer c_raced c_spelledMany c_hasImage c_now u9.1) H ∧ va_D A (w_X8_keep E a_ a_tape a_readPlace a_script a_scriptLong a_now a_refused a_shareX a_shareY a_askedRow a_kept a_aside a_spelled a_image c_thrown c_taped c_at c_part c_partFrom c_partNumber c_wrong c_partWord c_readLaw c_readBound c_readGoal c_readSites c_scripts c_sites c_asked c_outcome c_took u9.2 c_drawn c_racer c_raced c_spelledMany c_hasImage c_now u9.1)) hF ⟨hP, hD⟩
    obtain ⟨hP9, hD9⟩ := h9
    exact W.vret hx hb hr (fun tt ht hW => ⟨⟨(), rfl, trivial, ht ▸ hP9, hD9⟩, hS.F ht⟩) hS.2.2 dX8_keep_98

set_option maxHeartbeats 4000000 in
set_option maxRecDepth 100000 in
theorem wb_X8_keep_13 {p : Program} (l : Launch) {e : Env} {s : State} {m : MethodId} {below : List Frame} {meth : Method} {c : Code} {Q : State → Prop} (E : EE) (K : Nat) {a_ a_tape a_readPlace a_script a_scriptLong a_now a_refused a_shareX a_shareY a_askedRow a_kept a_aside a_spelled a_image : Nat} {c_thrown : Int32} {c_taped : Int32} {c_at : Int32} {c_part : Int32} {c_partFrom : Int32} {c_partNumber : Int32} {c_wrong : Int32} {c_partWord : Int64} {c_readLaw : Int32} {c_readBound : Int32} {c_readGoal : Int32} {c_readSites : Int32} {c_scripts : Int32} {c_sites : Int32} {c_asked : Int32} {c_outcome : Int32} {c_took : Int32} {c_drawn : Int64} {c_racer : Int32} {c_raced : Int32} {c_spelledMany : Int32} {c_hasImage : Int32} {c_now : Nat → Int32} {x1 : Int32} {c_kept : Nat → Int32} {c_acts : Int32} (hx : p.tables.exec = Jvm.exec) (hb : c.code = cX8_keep) (hml : c.maxLocals = 2) (hown : s.vm.findClass RX8 = some m.cls) (hts : ∀ w ∈ v_f_X8_keep, w.before #[Value.ref a_] s = true) (hK : va_K E.1 vwCl (TY E) s) (hN : NX s) {A : Nat → Prop} (hA : ∀ q : Nat, s.heap.size ≤ q → A q) {xx : (Int32 × (Nat → Int32)) ⊕ ((Nat → Int32))} (hC : ∀ (x1 : Int32), ∀ (c_kept : Nat → Int32), xx = .inl (x1, c_kept) → ∀ (H : Heap) (locs : List Loc) (ls : Array Slot), va_P E.1 vwCl (w_X8_keep E a_ a_tape a_readPlace a_script a_scriptLong a_now a_refused a_shareX a_shareY a_askedRow a_kept a_aside a_spelled a_image c_thrown c_taped c_at c_part c_partFrom c_partNumber c_wrong c_partWord c_readLaw c_readBound c_readGoal c_readSites c_scripts c_sites c_asked c_outcome c_took c_acts c_drawn c_racer c_raced c_spelledMany c_hasImage c_now c_kept) H → va_D A (w_X8_keep E a_ a_tape a_readPlace a_script a_scriptLong a_now a_refused a_shareX a_shareY a_askedRow a_kept a_aside a_spelled a_image c_thrown c_taped c_at c_part c_partFrom c_partNumber c_wrong c_partWord c_readLaw c_readBound c_readGoal c_readSites c_scripts c_sites c_asked c_outcome c_took c_acts c_drawn c_racer c_raced c_spelledMany c_hasImage c_now c_kept) → va_S A s.heap H locs → lv_has ls 2 [(0, .ref a_), (1, .int x1)] → W p l e ({ frames := 0, cells := 0, slots := 0, locals := 0 } : Room) s m #[Value.ref a_] below meth c H locs 0 0 Q (F0 m 13 ls [])) (hE : ∀ (c_kept : Nat → Int32), xx = .inr c_kept → ((∀ (H : Heap) (locs : List Loc) (ls : Array Slot), va_P E.1 vwCl (w_X8_keep E a_ a_tape a_readPlace a_script a_scriptLong a_now a_refused a_shareX a_shareY a_askedRow a_kept a_aside a_spelled a_image c_thrown c_taped c_at c_part c_partFrom c_partNumber c_wrong c_partWord c_readLaw c_readBound c_readGoal c_readSites c_scripts c_sites c_asked c_outcome c_took c_acts c_drawn c_racer c_raced c_spelledMany c_hasImage c_now c_kept) H → va_D A (w_X8_keep E a_ a_tape a_readPlace a_script a_scriptLong a_now a_refused a_shareX a_shareY a_askedRow a_kept a_aside a_spelled a_image c_thrown c_taped c_at c_part c_partFrom c_partNumber c_wrong c_partWord c_readLaw c_readBound c_readGoal c_readSites c_scripts c_sites c_asked c_outcome c_took c_acts c_drawn c_racer c_raced c_spelledMany c_hasImage c_now c_kept) → va_S A s.heap H locs → lv_has ls 2 [(0, .ref a_)] → W p l e ({ frames := 0, cells := 0, slots := 0, locals := 0 } : Room) s m #[Value.ref a_] below meth c H locs 0 0 Q (F0 m 42 ls [])))) (hF : B_X8_keep_13  x1 c_kept = some xx) : ∀ (H : Heap) (locs : List Loc) (ls : Array Slot), va_P E.1 vwCl (w_X8_keep E a_ a_tape a_readPlace a_script a_scriptLong a_now a_refused a_shareX a_shareY a_askedRow a_kept a_aside a_spelled a_image c_thrown c_taped c_at c_part c_partFrom c_partNumber c_wrong c_partWord c_readLaw c_readBound c_readGoal c_readSites c_scripts c_sites c_asked c_outcome c_took c_acts c_drawn c_racer c_raced c_spelledMany c_hasImage c_now c_kept) H → va_D A (w_X8_keep E a_ a_tape a_readPlace a_script a_scriptLong a_now a_refused a_shareX a_shareY a_askedRow a_kept a_aside a_spelled a_image c_thrown c_taped c_at c_part c_partFrom c_partNumber c_wrong c_partWord c_readLaw c_readBound c_readGoal c_readSites c_scripts c_sites c_asked c_outcome c_took c_acts c_drawn c_racer c_raced c_spelledMany c_hasImage c_now c_kept) → va_S A s.heap H locs → lv_has ls 2 [(0, .ref a_), (1, .int x1)] → W p l e ({ frames := 0, cells := 0, slots := 0, locals := 0 } : Room) s m #[Value.ref a_] below meth c H locs 0 0 Q (F0 m 13 ls []) := by
  unfold B_X8_keep_13 at hF
  intro H locs ls hP hD hS hl
  replace hP : va_P E.1 vwCl [(a_, .inr (9, [.int c_thrown, .ref a_tape, .int c_taped, .int c_at, .int c_part, .int c_partFrom, .int c_partNumber, .int c_wrong, .long c_partWord, .int c_readLaw, .int c_readBound, .int c_readGoal, .int c_readSites, .ref a_readPlace, .ref a_script, .ref a_scriptLong, .int c_scripts, .ref a_now, .ref a_refused, .int c_sites, .ref a_shareX, .ref a_shareY, .int c_asked, .int c_outcome, .ref a_askedRow, .int c_took, .ref a_kept, .int c_acts, .long c_drawn, .ref a_aside, .int c_racer, .int c_raced, .ref a_spelled, .int c_spelledMany, .ref a_image, .int c_hasImage])), (a_now, .inl (E.2.1, 265, .inl c_now)), (a_kept, .inl (E.2.1, 10600, .inl c_kept))] H := hP
  replace hD : va_D A [(a_, .inr (9, [.int c_thrown, .ref a_tape, .int c_taped, .int c_at, .int c_part, .int c_partFrom, .int c_partNumber, .int c_wrong, .long c_partWord, .int c_readLaw, .int c_readBound, .int c_readGoal, .int c_readSites, .ref a_readPlace, .ref a_script, .ref a_scriptLong, .int c_scripts, .ref a_now, .ref a_refused, .int c_sites, .ref a_shareX, .ref a_shareY, .int c_asked, .int c_outcome, .ref a_askedRow, .int c_took, .ref a_kept, .int c_acts, .long c_drawn, .ref a_aside, .int c_racer, .int c_raced, .ref a_spelled, .int c_spelledMany, .ref a_image, .int c_hasImage])), (a_now, .inl (E.2.1, 265, .inl c_now)), (a_kept, .inl (E.2.1, 10600, .inl c_kept))] := hD
  refine lv_iload_n hx hb dX8_keep_13 rfl (lv_at hl 1 rfl) ?_
  refine lv_sipush (v := 10600) hx hb dX8_keep_14 (by decide) ?_
  refine lv_icmp_ge (tgt := 42) hx hb dX8_keep_17 (by decide) (fun c_8 => ?_) (fun c_8 => ?_)
  ·
    replace hF := ip c_8 hF
    cases hF
    exact hE c_kept rfl H locs ls (hP.sub [0, 1, 2] rfl) (hD.sub [0, 1, 2] (by decide) rfl) hS (lv_sub hl [0] rfl)
  ·
    replace hF := inn c_8 hF
    refine lv_aload_n hx hb dX8_keep_20 rfl (lv_at hl 0 rfl) ?_
    refine gt_X8_26 (v := .ref a_kept) hx hb hts i_f_X8_keep_X8 hown hK hP 0 rfl (hts (.fieldLink RX8 37 "HushWatchModel" "kept" "[I") (List.mem_of_getElem? (i := 2) rfl)) rfl dX8_keep_21 ?_
    refine lv_iload_n hx hb dX8_keep_24 rfl (lv_at hl 1 rfl) ?_
    refine lv_sipush (v := 265) hx hb dX8_keep_25 (by decide) ?_
    refine lv_isub hx hb dX8_keep_28 ?_
    refine lv_aload_n hx hb dX8_keep_29 rfl (lv_at hl 0 rfl) ?_
    refine gt_X8_26 (v := .ref a_kept) hx hb hts i_f_X8_keep_X8 hown hK hP 0 rfl (hts (.fieldLink RX8 37 "HushWatchModel" "kept" "[I") (List.mem_of_getElem? (i := 2) rfl)) rfl dX8_keep_30 ?_
    refine lv_iload_n hx hb dX8_keep_33 rfl (lv_at hl 1 rfl) ?_
    replace hF := ix_s hF
    obtain ⟨hi_9, hF⟩ := hF
    refine va_iald hx hb hK hP 2 0 rfl rfl hi_9 dX8_keep_34 ?_
    replace hF := ix_s hF
    obtain ⟨hi_10, hF⟩ := hF
    refine va_iast hx hb hK hP hD hS 2 0 rfl rfl hi_10 dX8_keep_35 (fun H locs hP hD hS => ?_)
    replace hP : va_P E.1 vwCl [(a_, .inr (9, [.int c_thrown, .ref a_tape, .int c_taped, .int c_at, .int c_part, .int c_partFrom, .int c_partNumber, .int c_wrong, .long c_partWord, .int c_readLaw, .int c_readBound, .int c_readGoal, .int c_readSites, .ref a_readPlace, .ref a_script, .ref a_scriptLong, .int c_scripts, .ref a_now, .ref a_refused, .int c_sites, .ref a_shareX, .ref a_shareY, .int c_asked, .int c_outcome, .ref a_askedRow, .int c_took, .ref a_kept, .int c_acts, .long c_drawn, .ref a_aside, .int c_racer, .int c_raced, .ref a_spelled, .int c_spelledMany, .ref a_image, .int c_hasImage])), (a_now, .inl (E.2.1, 265, .inl c_now)), (a_kept, .inl (E.2.1, 10600, .inl (upd c_kept (x1 - (265 : Int32)).toNatClampNeg (c_kept x1.toNatClampNeg))))] H := hP
    replace hD : va_D A [(a_, .inr (9, [.int c_thrown, .ref a_tape, .int c_taped, .int c_at, .int c_part, .int c_partFrom, .int c_partNumber, .int c_wrong, .long c_partWord, .int c_readLaw, .int c_readBound, .int c_readGoal, .int c_readSites, .ref a_readPlace, .ref a_script, .ref a_scriptLong, .int c_scripts, .ref a_now, .ref a_refused, .int c_sites, .ref a_shareX, .ref a_shareY, .int c_asked, .int c_outcome, .ref a_askedRow, .int c_took, .ref a_kept, .int c_acts, .long c_drawn, .ref a_aside, .int c_racer, .int c_raced, .ref a_spelled, .int c_spelledMany, .ref a_image, .int c_hasImage])), (a_now, .inl (E.2.1, 265, .inl c_now)), (a_kept, .inl (E.2.1, 10600, .inl (upd c_kept (x1 - (265 : Int32)).toNatClampNeg (c_kept x1.toNatClampNeg))))] := hD
    replace hF := nm_s hF
    obtain ⟨f_11, hf_11, hF⟩ := hF
    rw [← hf_11] at hP hD
    refine lv_iinc (v := x1 + (1 : Int32)) (lv' := [(1, .int (x1 + (1 : Int32))), (0, .ref a_)]) hx hb dX8_keep_36 hl (k := 1) rfl (rfl) (by decide) rfl (fun ls hl => ?_)
    refine lv_goto (tgt := 13) hx hb dX8_keep_39 (by decide) ?_
    cases hF
    exact hC (x1 + (1 : Int32)) f_11 rfl H locs ls (hP.sub [0, 1, 2] rfl) (hD.sub [0, 1, 2] (by decide) rfl) hS (lv_sub hl [1, 0] rfl)

set_option maxHeartbeats 4000000 in
set_option maxRecDepth 100000 in
theorem lw_X8_keep_13 {p : Program} (l : Launch) {e : Env} {s : State} {m : MethodId} {below : List Frame} {meth : Method} {c : Code} {Q : State → Prop} (E : EE) (K : Nat) {a_ a_tape a_readPlace a_script a_scriptLong a_now a_refused a_shareX a_shareY a_askedRow a_kept a_aside a_spelled a_image : Nat} {c_thrown : Int32} {c_taped : Int32} {c_at : Int32} {c_part : Int32} {c_partFrom : Int32} {c_partNumber : Int32} {c_wrong : Int32} {c_partWord : Int64} {c_readLaw : Int32} {c_readBound : Int32} {c_readGoal : Int32} {c_readSites : Int32} {c_scripts : Int32} {c_sites : Int32} {c_asked : Int32} {c_outcome : Int32} {c_took : Int32} {c_drawn : Int64} {c_racer : Int32} {c_raced : Int32} {c_spelledMany : Int32} {c_hasImage : Int32} {c_now : Nat → Int32} {c_acts : Int32} (hx : p.tables.exec = Jvm.exec) (hb : c.code = cX8_keep) (hml : c.maxLocals = 2) (hown : s.vm.findClass RX8 = some m.cls) (hts : ∀ w ∈ v_f_X8_keep, w.before #[Value.ref a_] s = true) (hK : va_K E.1 vwCl (TY E) s) (hN : NX s) {A : Nat → Prop} (hA : ∀ q : Nat, s.heap.size ≤ q → A q) (j9 : Nat) (x1 : Int32) (c_kept : Nat → Int32) (c_kept' : Nat → Int32) (hL : lpF (fun u9 : Int32 × (Nat → Int32) => B_X8_keep_13  u9.1 u9.2) j9 (x1, c_kept) = some c_kept') (hX : (∀ (H : Heap) (locs : List Loc) (ls : Array Slot), va_P E.1 vwCl (w_X8_keep E a_ a_tape a_readPlace a_script a_scriptLong a_now a_refused a_shareX a_shareY a_askedRow a_kept a_aside a_spelled a_image c_thrown c_taped c_at c_part c_partFrom c_partNumber c_wrong c_partWord c_readLaw c_readBound c_readGoal c_readSites c_scripts c_sites c_asked c_outcome c_took c_acts c_drawn c_racer c_raced c_spelledMany c_hasImage c_now c_kept') H → va_D A (w_X8_keep E a_ a_tape a_readPlace a_script a_scriptLong a_now a_refused a_shareX a_shareY a_askedRow a_kept a_aside a_spelled a_image c_thrown c_taped c_at c_part c_partFrom c_partNumber c_wrong c_partWord c_readLaw c_readBound c_readGoal c_readSites c_scripts c_sites c_asked c_outcome c_took c_acts c_drawn c_racer c_raced c_spelledMany c_hasImage c_now c_kept') → va_S A s.heap H locs → lv_has ls 2 [(0, .ref a_)] → W p l e ({ frames := 0, cells := 0, slots := 0, locals := 0 } : Room) s m #[Value.ref a_] below meth c H locs 0 0 Q (F0 m 42 ls []))) : ∀ (H : Heap) (locs : List Loc) (ls : Array Slot), va_P E.1 vwCl (w_X8_keep E a_ a_tape a_readPlace a_script a_scriptLong a_now a_refused a_shareX a_shareY a_askedRow a_kept a_aside a_spelled a_image c_thrown c_taped c_at c_part c_partFrom c_partNumber c_wrong c_partWord c_readLaw c_readBound c_readGoal c_readSites c_scripts c_sites c_asked c_outcome c_took c_acts c_drawn c_racer c_raced c_spelledMany c_hasImage c_now c_kept) H → va_D A (w_X8_keep E a_ a_tape a_readPlace a_script a_scriptLong a_now a_refused a_shareX a_shareY a_askedRow a_kept a_aside a_spelled a_image c_thrown c_taped c_at c_part c_partFrom c_partNumber c_wrong c_partWord c_readLaw c_readBound c_readGoal c_readSites c_scripts c_sites c_asked c_outcome c_took c_acts c_drawn c_racer c_raced c_spelledMany c_hasImage c_now c_kept) → va_S A s.heap H locs → lv_has ls 2 [(0, .ref a_), (1, .int x1)] → W p l e ({ frames := 0, cells := 0, slots := 0, locals := 0 } : Room) s m #[Value.ref a_] below meth c H locs 0 0 Q (F0 m 13 ls []) := by
  exact lp_rule (P := (fun u9 : Int32 × (Nat → Int32) => ∀ (H : Heap) (locs : List Loc) (ls : Array Slot), va_P E.1 vwCl (w_X8_keep E a_ a_tape a_readPlace a_script a_scriptLong a_now a_refused a_shareX a_shareY a_askedRow a_kept a_aside a_spelled a_image c_thrown c_taped c_at c_part c_partFrom c_partNumber c_wrong c_partWord c_readLaw c_readBound c_readGoal c_readSites c_scripts c_sites c_asked c_outcome c_took c_acts c_drawn c_racer c_raced c_spelledMany c_hasImage c_now u9.2) H → va_D A (w_X8_keep E a_ a_tape a_readPlace a_script a_scriptLong a_now a_refused a_shareX a_shareY a_askedRow a_kept a_aside a_spelled a_image c_thrown c_taped c_at c_part c_partFrom c_partNumber c_wrong c_partWord c_readLaw c_readBound c_readGoal c_readSites c_scripts c_sites c_asked c_outcome c_took c_acts c_drawn c_racer c_raced c_spelledMany c_hasImage c_now u9.2) → va_S A s.heap H locs → lv_has ls 2 [(0, .ref a_), (1, .int u9.1)] → W p l e ({ frames := 0, cells := 0, slots := 0, locals := 0 } : Room) s m #[Value.ref a_] below meth c H locs 0 0 Q (F0 m 13 ls []))) (R := (fun r9 : (Nat → Int32) => (∀ (H : Heap) (locs : List Loc) (ls : Array Slot), va_P E.1 vwCl (w_X8_keep E a_ a_tape a_readPlace a_script a_scriptLong a_now a_refused a_shareX a_shareY a_askedRow a_kept a_aside a_spelled a_image c_thrown c_taped c_at c_part c_partFrom c_partNumber c_wrong c_partWord c_readLaw c_readBound c_readGoal c_readSites c_scripts c_sites c_asked c_outcome c_took c_acts c_drawn c_racer c_raced c_spelledMany c_hasImage c_now r9) H → va_D A (w_X8_keep E a_ a_tape a_readPlace a_script a_scriptLong a_now a_refused a_shareX a_shareY a_askedRow a_kept a_aside a_spelled a_image c_thrown c_taped c_at c_part c_partFrom c_partNumber c_wrong c_partWord c_readLaw c_readBound c_readGoal c_readSites c_scripts c_sites c_asked c_outcome c_took c_acts c_drawn c_racer c_raced c_spelledMany c_hasImage c_now r9) → va_S A s.heap H locs → lv_has ls 2 [(0, .ref a_)] → W p l e ({ frames := 0, cells := 0, slots := 0, locals := 0 } : Room) s m #[Value.ref a_] below meth c H locs 0 0 Q (F0 m 42 ls [])))) (fun u9 xx hF hC hE => wb_X8_keep_13 l E K (c_thrown := c_thrown) (c_taped := c_taped) (c_at := c_at) (c_part := c_part) (c_partFrom := c_partFrom) (c_partNumber := c_partNumber) (c_wrong := c_wrong) (c_partWord := c_partWord) (c_readLaw := c_readLaw) (c_readBound := c_readBound) (c_readGoal := c_readGoal) (c_readSites := c_readSites) (c_scripts := c_scripts) (c_sites := c_sites) (c_asked := c_asked) (c_outcome := c_outcome) (c_took := c_took) (c_drawn := c_drawn) (c_racer := c_racer) (c_raced := c_raced) (c_spelledMany := c_spelledMany) (c_hasImage := c_hasImage) (c_now := c_now) (x1 := u9.1) (c_kept := u9.2) (c_acts := c_acts) hx hb hml hown hts hK hN hA (fun x1 c_kept q9 => hC _ q9) (fun c_kept q9 => hE _ q9) hF) j9 (x1, c_kept) c_kept' hL hX

set_option maxHeartbeats 4000000 in
set_option maxRecDepth 100000 in
theorem f_X8_keep (l : Launch) (E : EE) (sz : Nat) (K : Nat) {a_ a_tape a_readPlace a_script a_scriptLong a_now a_refused a_shareX a_shareY a_askedRow a_kept a_aside a_spelled a_image : Nat} {c_thrown : Int32} {c_taped : Int32} {c_at : Int32} {c_part : Int32} {c_partFrom : Int32} {c_partNumber : Int32} {c_wrong : Int32} {c_partWord : Int64} {c_readLaw : Int32} {c_readBound : Int32} {c_readGoal : Int32} {c_readSites : Int32} {c_scripts : Int32} {c_sites : Int32} {c_asked : Int32} {c_outcome : Int32} {c_took : Int32} {c_acts : Int32} {c_drawn : Int64} {c_racer : Int32} {c_raced : Int32} {c_spelledMany : Int32} {c_hasImage : Int32} {c_now : Nat → Int32} {c_kept : Nat → Int32} {n_kept : Nat → Int32} {n_acts : Int32} (hF : F_X8_keep K c_now c_kept c_acts = some (n_kept, n_acts)) : Met l yX8_keep v_f_X8_keep (({ frames := 0, cells := 0, slots := 0, locals := 0 } : Room)) (va_Pc [.ref a_] (pW E sz (w_X8_keep E a_ a_tape a_readPlace a_script a_scriptLong a_now a_refused a_shareX a_shareY a_askedRow a_kept a_aside a_spelled a_image c_thrown c_taped c_at c_part c_partFrom c_partNumber c_wrong c_partWord c_readLaw c_readBound c_readGoal c_readSites c_scripts c_sites c_asked c_outcome c_took c_acts c_drawn c_racer c_raced c_spelledMany c_hasImage c_now c_kept))) (va_Qv (fun (_u : Unit) => True) (fun (_u : Unit) tt => va_P E.1 vwCl (w_X8_keep E a_ a_tape a_readPlace a_script a_scriptLong a_now a_refused a_shareX a_shareY a_askedRow a_kept a_aside a_spelled a_image c_thrown c_taped c_at c_part c_partFrom c_partNumber c_wrong c_partWord c_readLaw c_readBound c_readGoal c_readSites c_scripts c_sites c_asked c_outcome c_took n_acts c_drawn c_racer c_raced c_spelledMany c_hasImage c_now n_kept) tt.heap ∧ va_D (va_A (w_X8_keep E a_ a_tape a_readPlace a_script a_scriptLong a_now a_refused a_shareX a_shareY a_askedRow a_kept a_aside a_spelled a_image c_thrown c_taped c_at c_part c_partFrom c_partNumber c_wrong c_partWord c_readLaw c_readBound c_readGoal c_readSites c_scripts c_sites c_asked c_outcome c_took c_acts c_drawn c_racer c_raced c_spelledMany c_hasImage c_now c_kept) sz) (w_X8_keep E a_ a_tape a_readPlace a_script a_scriptLong a_now a_refused a_shareX a_shareY a_askedRow a_kept a_aside a_spelled a_image c_thrown c_taped c_at c_part c_partFrom c_partNumber c_wrong c_partWord c_readLaw c_readBound c_readGoal c_readSites c_scripts c_sites c_asked c_outcome c_took n_acts c_drawn c_racer c_raced c_spelledMany c_hasImage c_now n_kept)) (va_A (w_X8_keep E a_ a_tape a_readPlace a_script a_scriptLong a_now a_refused a_shareX a_shareY a_askedRow a_kept a_aside a_spelled a_image c_thrown c_taped c_at c_part c_partFrom c_partNumber c_wrong c_partWord c_readLaw c_readBound c_readGoal c_readSites c_scripts c_sites c_asked c_outcome c_took c_acts c_drawn c_racer c_raced c_spelledMany c_hasImage c_now c_kept) sz)) 0 0 (va_A (w_X8_keep E a_ a_tape a_readPlace a_script a_scriptLong a_now a_refused a_shareX a_shareY a_askedRow a_kept a_aside a_spelled a_image c_thrown c_taped c_at c_part c_partFrom c_partNumber c_wrong c_partWord c_readLaw c_readBound c_readGoal c_readSites c_scripts c_sites c_asked c_outcome c_took c_acts c_drawn c_racer c_raced c_spelledMany c_hasImage c_now c_kept) sz) := by
  refine Met.ofW (cc := cX8_keep) (maxL := 2) (ret := none) (by decide) rfl ?_
  intro p e s m args below meth c s₁ B hml hv
  obtain ⟨rfl, hsz, ⟨hK, hN⟩, hP, hD0⟩ := hv
  have hx := B.exec
  have hb := B.bytes
  have hr := B.returns
  have hts := atoms_spec (ws := v_f_X8_keep) B.pre
  have hown : s.vm.findClass RX8 = some m.cls := own_of hd_X8_keep.1 (findClass_of_methodNamed B.named)
  have hlocks : meth.locks = false := B.notSynchronized
  subst hsz
  have hD := hD0.self (sz := s.heap.size)
  generalize hAe : va_A (w_X8_keep E a_ a_tape a_readPlace a_script a_scriptLong a_now a_refused a_shareX a_shareY a_askedRow a_kept a_aside a_spelled a_image c_thrown c_taped c_at c_part c_partFrom c_partNumber c_wrong c_partWord c_readLaw c_readBound c_readGoal c_readSites c_scripts c_sites c_asked c_outcome c_took c_acts c_drawn c_racer c_raced c_spelledMany c_hasImage c_now c_kept) s.heap.size = A at hD ⊢
  have hA : ∀ q : Nat, s.heap.size ≤ q → A q := fun q h => by rw [← hAe]; exact Or.inr h
  have hS : va_S A s.heap s.heap [] := va_S.rf
  have hl := lv_entry ([.ref a_]) (n := 2) (Nat.le_of_ble_eq_true rfl)
  rw [lg_entry_eq]
  generalize (lg_sl ([.ref a_]) ++ List.replicate (2 - (lg_sl ([.ref a_])).length) Slot.unset).toArray = ls at hl ⊢
  have hl : lv_has ls 2 [(0, .ref a_)] := hl
  obtain ⟨Q, hQ⟩ : ∃ Q : State → Prop, Q = MQ below (va_Qv (fun (_u : Unit) => True) (fun (_u : Unit) tt => va_P E.1 vwCl (w_X8_keep E a_ a_tape a_readPlace a_script a_scriptLong a_now a_refused a_shareX a_shareY a_askedRow a_kept a_aside a_spelled a_image c_thrown c_taped c_at c_part c_partFrom c_partNumber c_wrong c_partWord c_readLaw c_readBound c_readGoal c_readSites c_scripts c_sites c_asked c_outcome c_took n_acts c_drawn c_racer c_raced c_spelledMany c_hasImage c_now n_kept) tt.heap ∧ va_D A (w_X8_keep E a_ a_tape a_readPlace a_script a_scriptLong a_now a_refused a_shareX a_shareY a_askedRow a_kept a_aside a_spelled a_image c_thrown c_taped c_at c_part c_partFrom c_partNumber c_wrong c_partWord c_readLaw c_readBound c_readGoal c_readSites c_scripts c_sites c_asked c_outcome c_took n_acts c_drawn c_racer c_raced c_spelledMany c_hasImage c_now n_kept)) A) #[Value.ref a_] s 0 0 A := ⟨_, rfl⟩
  rw [← hQ]
  change W p l e ({ frames := 0, cells := 0, slots := 0, locals := 0 } : Room) s m #[Value.ref a_] below meth c s.heap [] 0 0 Q (F0 m 0 ls [])
  suffices hh9 : ∀ (H : Heap) (locs : List Loc), va_P E.1 vwCl (w_X8_keep E a_ a_tape a_readPlace a_script a_scriptLong a_now a_refused a_shareX a_shareY a_askedRow a_kept a_aside a_spelled a_image c_thrown c_taped c_at c_part c_partFrom c_partNumber c_wrong c_partWord c_readLaw c_readBound c_readGoal c_readSites c_scripts c_sites c_asked c_outcome c_took c_acts c_drawn c_racer c_raced c_spelledMany c_hasImage c_now c_kept) H → va_D A (w_X8_keep E a_ a_tape a_readPlace a_script a_scriptLong a_now a_refused a_shareX a_shareY a_askedRow a_kept a_aside a_spelled a_image c_thrown c_taped c_at c_part c_partFrom c_partNumber c_wrong c_partWord c_readLaw c_readBound c_readGoal c_readSites c_scripts c_sites c_asked c_outcome c_took c_acts c_drawn c_racer c_raced c_spelledMany c_hasImage c_now c_kept) → va_S A s.heap H locs → W p l e ({ frames := 0, cells := 0, slots := 0, locals := 0 } : Room) s m #[Value.ref a_] below meth c H locs 0 0 Q (F0 m 0 ls []) from hh9 s.heap [] hP hD hS
  clear hP hD hS
  intro H locs hP hD hS
  replace hP : va_P E.1 vwCl [(a_, .inr (9, [.int c_thrown, .ref a_tape, .int c_taped, .int c_at, .int c_part, .int c_partFrom, .int c_partNumber, .int c_wrong, .long c_partWord, .int c_readLaw, .int c_readBound, .int c_readGoal, .int c_readSites, .ref a_readPlace, .ref a_script, .ref a_scriptLong, .int c_scripts, .ref a_now, .ref a_refused, .int c_sites, .ref a_shareX, .ref a_shareY, .int c_asked, .int c_outcome, .ref a_askedRow, .int c_took, .ref a_kept, .int c_acts, .long c_drawn, .ref a_aside, .int c_racer, .int c_raced, .ref a_spelled, .int c_spelledMany, .ref a_image, .int c_hasImage])), (a_now, .inl (E.2.1, 265, .inl c_now)), (a_kept, .inl (E.2.1, 10600, .inl c_kept))] H := hP
  replace hD : va_D A [(a_, .inr (9, [.int c_thrown, .ref a_tape, .int c_taped, .int c_at, .int c_part, .int c_partFrom, .int c_partNumber, .int c_wrong, .long c_partWord, .int c_readLaw, .int c_readBound, .int c_readGoal, .int c_readSites, .ref a_readPlace, .ref a_script, .ref a_scriptLong, .int c_scripts, .ref a_now, .ref a_refused, .int c_sites, .ref a_shareX, .ref a_shareY, .int c_asked, .int c_outcome, .ref a_askedRow, .int c_took, .ref a_kept, .int c_acts, .long c_drawn, .ref a_aside, .int c_racer, .int c_raced, .ref a_spelled, .int c_spelledMany, .ref a_image, .int c_hasImage])), (a_now, .inl (E.2.1, 265, .inl c_now)), (a_kept, .inl (E.2.1, 10600, .inl c_kept))] := hD
  unfold F_X8_keep at hF
  refine lv_aload_n hx hb dX8_keep_0 rfl (lv_at hl 0 rfl) ?_
  refine gt_X8_27 (v := .int c_acts) hx hb hts i_f_X8_keep_X8 hown hK hP 0 rfl (hts (.fieldLink RX8 205 "HushWatchModel" "acts" "I") (List.mem_of_getElem? (i := 1) rfl)) rfl dX8_keep_1 ?_
  refine lv_bipush (v := 40) hx hb dX8_keep_4 (by decide) ?_
  refine lv_icmp_ne (tgt := 52) hx hb dX8_keep_6 (by decide) (fun c_1 => ?_) (fun c_1 => ?_)
  ·
    replace hF := inn c_1 hF
    exact j_X8_keep_52 l E K (c_thrown := c_thrown) (c_taped := c_taped) (c_at := c_at) (c_part := c_part) (c_partFrom := c_partFrom) (c_partNumber := c_partNumber) (c_wrong := c_wrong) (c_partWord := c_partWord) (c_readLaw := c_readLaw) (c_readBound := c_readBound) (c_readGoal := c_readGoal) (c_readSites := c_readSites) (c_scripts := c_scripts) (c_sites := c_sites) (c_asked := c_asked) (c_outcome := c_outcome) (c_took := c_took) (c_drawn := c_drawn) (c_racer := c_racer) (c_raced := c_raced) (c_spelledMany := c_spelledMany) (c_hasImage := c_hasImage) (c_now := c_now) (c_kept := c_kept) (c_acts := c_acts) hx hb hml hown hts hK hN hA hr hlocks hQ hF H locs ls (hP.sub [0, 1, 2] rfl) (hD.sub [0, 1, 2] (by decide) rfl) hS (lv_sub hl [0] rfl)
  ·
    replace hF := ip c_1 hF
    refine lv_sipush (v := 265) hx hb dX8_keep_9 (by decide) ?_
    refine lv_istore_n (lv' := [(1, .int (265 : Int32)), (0, .ref a_)]) hx hb dX8_keep_12 rfl hl (by decide) rfl (fun ls hl => ?_)
    replace hF := bd1_s hF
    obtain ⟨c_kept_12, hL_13, hF⟩ := hF
    refine lw_X8_keep_13 l E K (c_thrown := c_thrown) (c_taped := c_taped) (c_at := c_at) (c_part := c_part) (c_partFrom := c_partFrom) (c_partNumber := c_partNumber) (c_wrong := c_wrong) (c_partWord := c_partWord) (c_readLaw := c_readLaw) (c_readBound := c_readBound) (c_readGoal := c_readGoal) (c_readSites := c_readSites) (c_scripts := c_scripts) (c_sites := c_sites) (c_asked := c_asked) (c_outcome := c_outcome) (c_took := c_took) (c_drawn := c_drawn) (c_racer := c_racer) (c_raced := c_raced) (c_spelledMany := c_spelledMany) (c_hasImage := c_hasImage) (c_now := c_now) (c_acts := c_acts) hx hb hml hown hts hK hN hA K (265 : Int32) c_kept c_kept_12 hL_13 ?_ H locs ls (hP.sub [0, 1, 2] rfl) (hD.sub [0, 1, 2] (by decide) rfl) hS (lv_sub hl [1, 0] rfl)
    ·
      intro H locs ls hP hD hS hl
      replace hP : va_P E.1 vwCl [(a_, .inr (9, [.int c_thrown, .ref a_tape, .int c_taped, .int c_at, .int c_part, .int c_partFrom, .int c_partNumber, .int c_wrong, .long c_partWord, .int c_readLaw, .int c_readBound, .int c_readGoal, .int c_readSites, .ref a_readPlace, .ref a_script, .ref a_scriptLong, .int c_scripts, .ref a_now, .ref a_refused, .int c_sites, .ref a_shareX, .ref a_shareY, .int c_asked, .int c_outcome, .ref a_askedRow, .int c_took, .ref a_kept, .int c_acts, .long c_drawn, .ref a_aside, .int c_racer, .int c_raced, .ref a_spelled, .int c_spelledMany, .ref a_image, .int c_hasImage])), (a_now, .inl (E.2.1, 265, .inl c_now)), (a_kept, .inl (E.2.1, 10600, .inl c_kept_12))] H := hP
      replace hD : va_D A [(a_, .inr (9, [.int c_thrown, .ref a_tape, .int c_taped, .int c_at, .int c_part, .int c_partFrom, .int c_partNumber, .int c_wrong, .long c_partWord, .int c_readLaw, .int c_readBound, .int c_readGoal, .int c_readSites, .ref a_readPlace, .ref a_script, .ref a_scriptLong, .int c_scripts, .ref a_now, .ref a_refused, .int c_sites, .ref a_shareX, .ref a_shareY, .int c_asked, .int c_outcome, .ref a_askedRow, .int c_took, .ref a_kept, .int c_acts, .long c_drawn, .ref a_aside, .int c_racer, .int c_raced, .ref a_spelled, .int c_spelledMany, .ref a_image, .int c_hasImage])), (a_now, .inl (E.2.1, 265, .inl c_now)), (a_kept, .inl (E.2.1, 10600, .inl c_kept_12))] := hD
      refine lv_aload_n hx hb dX8_keep_42 rfl (lv_at hl 0 rfl) ?_
      refine lv_dup hx hb dX8_keep_43 rfl ?_
      refine gt_X8_27 (v := .int c_acts) hx hb hts i_f_X8_keep_X8 hown hK hP 0 rfl (hts (.fieldLink RX8 205 "HushWatchModel" "acts" "I") (List.mem_of_getElem? (i := 1) rfl)) rfl dX8_keep_44 ?_
      refine lv_iconst (v := 1) hx hb dX8_keep_47 (by decide) ?_
      refine lv_isub hx hb dX8_keep_48 ?_
      refine pt_X8_27 (v := .int (c_acts - (1 : Int32))) hx hb hts i_f_X8_keep_X8 hown hK hP hD hS 0 rfl (hts (.fieldLink RX8 205 "HushWatchModel" "acts" "I") (List.mem_of_getElem? (i := 1) rfl)) rfl rfl (Nat.le_of_ble_eq_true rfl) dX8_keep_49 (fun H locs hP hD hS => ?_)
      replace hP : va_P E.1 vwCl [(a_, .inr (9, [.int c_thrown, .ref a_tape, .int c_taped, .int c_at, .int c_part, .int c_partFrom, .int c_partNumber, .int c_wrong, .long c_partWord, .int c_readLaw, .int c_readBound, .int c_readGoal, .int c_readSites, .ref a_readPlace, .ref a_script, .ref a_scriptLong, .int c_scripts, .ref a_now, .ref a_refused, .int c_sites, .ref a_shareX, .ref a_shareY, .int c_asked, .int c_outcome, .ref a_askedRow, .int c_took, .ref a_kept, .int (c_acts - (1 : Int32)), .long c_drawn, .ref a_aside, .int c_racer, .int c_raced, .ref a_spelled, .int c_spelledMany, .ref a_image, .int c_hasImage])), (a_now, .inl (E.2.1, 265, .inl c_now)), (a_kept, .inl (E.2.1, 10600, .inl c_kept_12))] H := hP
      replace hD : va_D A [(a_, .inr (9, [.int c_thrown, .ref a_tape, .int c_taped, .int c_at, .int c_part, .int c_partFrom, .int c_partNumber, .int c_wrong, .long c_partWord, .int c_readLaw, .int c_readBound, .int c_readGoal, .int c_readSites, .ref a_readPlace, .ref a_script, .ref a_scriptLong, .int c_scripts, .ref a_now, .ref a_refused, .int c_sites, .ref a_shareX, .ref a_shareY, .int c_asked, .int c_outcome, .ref a_askedRow, .int c_took, .ref a_kept, .int (c_acts - (1 : Int32)), .long c_drawn, .ref a_aside, .int c_racer, .int c_raced, .ref a_spelled, .int c_spelledMany, .ref a_image, .int c_hasImage])), (a_now, .inl (E.2.1, 265, .inl c_now)), (a_kept, .inl (E.2.1, 10600, .inl c_kept_12))] := hD
      exact j_X8_keep_52 l E K (c_thrown := c_thrown) (c_taped := c_taped) (c_at := c_at) (c_part := c_part) (c_partFrom := c_partFrom) (c_partNumber := c_partNumber) (c_wrong := c_wrong) (c_partWord := c_partWord) (c_readLaw := c_readLaw) (c_readBound := c_readBound) (c_readGoal := c_readGoal) (c_readSites := c_readSites) (c_scripts := c_scripts) (c_sites := c_sites) (c_asked := c_asked) (c_outcome := c_outcome) (c_took := c_took) (c_drawn := c_drawn) (c_racer := c_racer) (c_raced := c_raced) (c_spelledMany := c_spelledMany) (c_hasImage := c_hasImage) (c_now := c_now) (c_kept := c_kept_12) (c_acts := c_acts - (1 : Int32)) hx hb hml hown hts hK hN hA hr hlocks hQ hF H locs ls (hP.sub [0, 1, 2] rfl) (hD.sub [0, 1, 2] (by decide) rfl) hS (lv_sub hl [0] rfl)

def F_X8_driftX (p1 : Int32) (c_now : Nat → Int32) : Option (Int32) :=
  ixF ((0 : Int32) + p1) 265 (ixF ((16 : Int32) + p1) 265 (ixF ((32 : Int32) + p1) 265 (some (((c_now ((0 : Int32) + p1).toNatClampNeg) - (c_now ((16 : Int32) + p1).toNatClampNeg)) + (c_now ((32 : Int32) + p1).toNatClampNeg)))))
abbrev w_X8_driftX (E : EE) (a_ a_tape a_readPlace a_script a_scriptLong a_now a_refused a_shareX a_shareY a_askedRow a_kept a_aside a_spelled a_image : Nat) (c_thrown : Int32) (c_taped : Int32) (c_at : Int32) (c_part : Int32) (c_partFrom : Int32) (c_partNumber : Int32) (c_wrong : Int32) (c_partWord : Int64) (c_readLaw : Int32) (c_readBound : Int32) (c_readGoal : Int32) (c_readSites : Int32) (c_scripts : Int32) (c_sites : Int32) (c_asked : Int32) (c_outcome : Int32) (c_took : Int32) (c_acts : Int32) (c_drawn : Int64) (c_racer : Int32) (c_raced : Int32) (c_spelledMany : Int32) (c_hasImage : Int32) (c_now : Nat → Int32) : va_W := [(a_, .inr (9, [.int c_thrown, .ref a_tape, .int c_taped, .int c_at, .int c_part, .int c_partFrom, .int c_partNumber, .int c_wrong, .long c_partWord, .int c_readLaw, .int c_readBound, .int c_readGoal, .int c_readSites, .ref a_readPlace, .ref a_script, .ref a_scriptLong, .int c_scripts, .ref a_now, .ref a_refused, .int c_sites, .ref a_shareX, .ref a_shareY, .int c_asked, .int c_outcome, .ref a_askedRow, .int c_took, .ref a_kept, .int c_acts, .long c_drawn, .ref a_aside, .int c_racer, .int c_raced, .ref a_spelled, .int c_spelledMany, .ref a_image, .int c_hasImage])), (a_now, .inl (E.2.1, 265, .inl c_now))]
def v_f_X8_driftX : List Cond := List.cons (.code yX8_driftX cX8_driftX 2 (some .int)) (HAppend.hAppend (α := List Cond) (β := List Cond) (γ := List Cond) [.fieldLink RX8 22 "HushWatchModel" "now" "[I"] (HAppend.hAppend (α := List Cond) (β := List Cond) (γ := List Cond) wsX80 []))
theorem gw_f_X8_driftX : v_f_X8_driftX.all goodWord = true := by decide +kernel
theorem i_f_X8_driftX_X8 : ∀ w ∈ wsX80, w ∈ v_f_X8_driftX := fun _ h => List.mem_cons_of_mem _ (List.mem_append_right _ (List.mem_append_left _ h))
theorem hd_X8_driftX : yX8_driftX.cls = RX8 ∧ yX8_driftX.cls ≠ "java/lang/invoke/MethodHandle" ∧ yX8_driftX.cls ≠ "java/lang/invoke/VarHandle" ∧ (parseMethodDescriptor yX8_driftX.desc).map (fun d => d.parameters.length) = some 1 := by decide +kernel
set_option maxHeartbeats 4000000 in
set_option maxRecDepth 100000 in
theorem f_X8_driftX (l : Launch) (E : EE) {a_ a_tape a_readPlace a_script a_scriptLong a_now a_refused a_shareX a_shareY a_askedRow a_kept a_aside a_spelled a_image : Nat} {p1 : Int32} {c_thrown : Int32} {c_taped : Int32} {c_at : Int32} {c_part : Int32} {c_partFrom : Int32} {c_partNumber : Int32} {c_wrong : Int32} {c_partWord : Int64} {c_readLaw : Int32} {c_readBound : Int32} {c_readGoal : Int32} {c_readSites : Int32} {c_scripts : Int32} {c_sites : Int32} {c_asked : Int32} {c_outcome : Int32} {c_took : Int32} {c_acts : Int32} {c_drawn : Int64} {c_racer : Int32} {c_raced : Int32} {c_spelledMany : Int32} {c_hasImage : Int32} {c_now : Nat → Int32} {rr : Int32} (hF : F_X8_driftX p1 c_now = some rr) : Met l yX8_driftX v_f_X8_driftX (({ frames := 0, cells := 0, slots := 0, locals := 0 } : Room)) (va_Pc [.ref a_, .int p1] (pP E (w_X8_driftX E a_ a_tape a_readPlace a_script a_scriptLong a_now a_refused a_shareX a_shareY a_askedRow a_kept a_aside a_spelled a_image c_thrown c_taped c_at c_part c_partFrom c_partNumber c_wrong c_partWord c_readLaw c_readBound c_readGoal c_readSites c_scripts c_sites c_asked c_outcome c_took c_acts c_drawn c_racer c_raced c_spelledMany c_hasImage c_now))) (vp_Si (fun q : Int32 => q = rr)) 0 0 (fun _ => False) := by
  refine Met.ofW (cc := cX8_driftX) (maxL := 2) (ret := (some .int)) (by decide) rfl ?_
  intro p e s m args below meth c s₁ B hml hv
  obtain ⟨rfl, ⟨hK, hN⟩, hP⟩ := hv
  have hx := B.exec
  have hb := B.bytes
  have hr := B.returns
  have hts := atoms_spec (ws := v_f_X8_driftX) B.pre
  have hown : s.vm.findClass RX8 = some m.cls := own_of hd_X8_driftX.1 (findClass_of_methodNamed B.named)
  have hlocks : meth.locks = false := B.notSynchronized
  replace hP : va_P E.1 vwCl [(a_, .inr (9, [.int c_thrown, .ref a_tape, .int c_taped, .int c_at, .int c_part, .int c_partFrom, .int c_partNumber, .int c_wrong, .long c_partWord, .int c_readLaw, .int c_readBound, .int c_readGoal, .int c_readSites, .ref a_readPlace, .ref a_script, .ref a_scriptLong, .int c_scripts, .ref a_now, .ref a_refused, .int c_sites, .ref a_shareX, .ref a_shareY, .int c_asked, .int c_outcome, .ref a_askedRow, .int c_took, .ref a_kept, .int c_acts, .long c_drawn, .ref a_aside, .int c_racer, .int c_raced, .ref a_spelled, .int c_spelledMany, .ref a_image, .int c_hasImage])), (a_now, .inl (E.2.1, 265, .inl c_now))] s.heap := hP
  have hl := lv_entry ([.ref a_, .int p1]) (n := 2) (Nat.le_of_ble_eq_true rfl)
  rw [lg_entry_eq]
  generalize (lg_sl ([.ref a_, .int p1]) ++ List.replicate (2 - (lg_sl ([.ref a_, .int p1])).length) Slot.unset).toArray = ls at hl ⊢
  have hl : lv_has ls 2 [(0, .ref a_), (1, .int p1)] := hl
  obtain ⟨Q, hQ⟩ : ∃ Q : State → Prop, Q = MQ below (vp_Si (fun q : Int32 => q = rr)) #[Value.ref a_, Value.int p1] s 0 0 (fun _ => False) := ⟨_, rfl⟩
  rw [← hQ]
  change W p l e ({ frames := 0, cells := 0, slots := 0, locals := 0 } : Room) s m #[Value.ref a_, Value.int p1] below meth c s.heap [] 0 0 Q (F0 m 0 ls [])
  unfold F_X8_driftX at hF
  refine lv_aload_n hx hb dX8_driftX_0 rfl (lv_at hl 0 rfl) ?_
  refine gt_X8_17 (v := .ref a_now) hx hb hts i_f_X8_driftX_X8 hown hK hP 0 rfl (hts (.fieldLink RX8 22 "HushWatchModel" "now" "[I") (List.mem_of_getElem? (i := 1) rfl)) rfl dX8_driftX_1 ?_
  refine lv_iconst (v := 0) hx hb dX8_driftX_4 (by decide) ?_
  refine lv_iload_n hx hb dX8_driftX_5 rfl (lv_at hl 1 rfl) ?_
  refine lv_iadd hx hb dX8_driftX_6 ?_
  replace hF := ix_s hF
  obtain ⟨hi_1, hF⟩ := hF
  refine va_iald hx hb hK hP 1 0 rfl rfl hi_1 dX8_driftX_7 ?_
  refine lv_aload_n hx hb dX8_driftX_8 rfl (lv_at hl 0 rfl) ?_
  refine gt_X8_17 (v := .ref a_now) hx hb hts i_f_X8_driftX_X8 hown hK hP 0 rfl (hts (.fieldLink RX8 22 "HushWatchModel" "now" "[I") (List.mem_of_getElem? (i := 1) rfl)) rfl dX8_driftX_9 ?_
  refine lv_bipush (v := 16) hx hb dX8_driftX_12 (by decide) ?_
  refine lv_iload_n hx hb dX8_driftX_14 rfl (lv_at hl 1 rfl) ?_
  refine lv_iadd hx hb dX8_driftX_15 ?_
  replace hF := ix_s hF
  obtain ⟨hi_2, hF⟩ := hF
  refine va_iald hx hb hK hP 1 0 rfl rfl hi_2 dX8_driftX_16 ?_
  refine lv_isub hx hb dX8_driftX_17 ?_
  refine lv_aload_n hx hb dX8_driftX_18 rfl (lv_at hl 0 rfl) ?_
  refine gt_X8_17 (v := .ref a_now) hx hb hts i_f_X8_driftX_X8 hown hK hP 0 rfl (hts (.fieldLink RX8 22 "HushWatchModel" "now" "[I") (List.mem_of_getElem? (i := 1) rfl)) rfl dX8_driftX_19 ?_
  refine lv_bipush (v := 32) hx hb dX8_driftX_22 (by decide) ?_
  refine lv_iload_n hx hb dX8_driftX_24 rfl (lv_at hl 1 rfl) ?_
  refine lv_iadd hx hb dX8_driftX_25 ?_
  replace hF := ix_s hF
  obtain ⟨hi_3, hF⟩ := hF
  refine va_iald hx hb hK hP 1 0 rfl rfl hi_3 dX8_driftX_26 ?_
  refine lv_iadd hx hb dX8_driftX_27 ?_
  rw [hQ]
  obtain e9_0 := inj1 hF
  exact W.iret (v := ((c_now ((0 : Int32) + p1).toNatClampNeg) - (c_now ((16 : Int32) + p1).toNatClampNeg)) + (c_now ((32 : Int32) + p1).toNatClampNeg)) hx hb hr (fun tt ht hW => ⟨_, rfl, e9_0, ht⟩) (fun _ h => by cases h) dX8_driftX_28

def F_X8_driftY (p1 : Int32) (c_now : Nat → Int32) : Option (Int32) :=
  ixF ((8 : Int32) + p1) 265 (ixF ((24 : Int32) + p1) 265 (ixF ((40 : Int32) + p1) 265 (some (((c_now ((8 : Int32) + p1).toNatClampNeg) - (c_now ((24 : Int32) + p1).toNatClampNeg)) + (c_now ((40 : Int32) + p1).toNatClampNeg)))))
abbrev w_X8_driftY (E : EE) (a_ a_tape a_readPlace a_script a_scriptLong a_now a_refused a_shareX a_shareY a_askedRow a_kept a_aside a_spelled a_image : Nat) (c_thrown : Int32) (c_taped : Int32) (c_at : Int32) (c_part : Int32) (c_partFrom : Int32) (c_partNumber : Int32) (c_wrong : Int32) (c_partWord : Int64) (c_readLaw : Int32) (c_readBound : Int32) (c_readGoal : Int32) (c_readSites : Int32) (c_scripts : Int32) (c_sites : Int32) (c_asked : Int32) (c_outcome : Int32) (c_took : Int32) (c_acts : Int32) (c_drawn : Int64) (c_racer : Int32) (c_raced : Int32) (c_spelledMany : Int32) (c_hasImage : Int32) (c_now : Nat → Int32) : va_W := [(a_, .inr (9, [.int c_thrown, .ref a_tape, .int c_taped, .int c_at, .int c_part, .int c_partFrom, .int c_partNumber, .int c_wrong, .long c_partWord, .int c_readLaw, .int c_readBound, .int c_readGoal, .int c_readSites, .ref a_readPlace, .ref a_script, .ref a_scriptLong, .int c_scripts, .ref a_now, .ref a_refused, .int c_sites, .ref a_shareX, .ref a_shareY, .int c_asked, .int c_outcome, .ref a_askedRow, .int c_took, .ref a_kept, .int c_acts, .long c_drawn, .ref a_aside, .int c_racer, .int c_raced, .ref a_spelled, .int c_spelledMany, .ref a_image, .int c_hasImage])), (a_now, .inl (E.2.1, 265, .inl c_now))]
def v_f_X8_driftY : List Cond := List.cons (.code yX8_driftY cX8_driftY 2 (some .int)) (HAppend.hAppend (α := List Cond) (β := List Cond) (γ := List Cond) [.fieldLink RX8 22 "HushWatchModel" "now" "[I"] (HAppend.hAppend (α := List Cond) (β := List Cond) (γ := List Cond) wsX80 []))
theorem gw_f_X8_driftY : v_f_X8_driftY.all goodWord = true := by decide +kernel
theorem i_f_X8_driftY_X8 : ∀ w ∈ wsX80, w ∈ v_f_X8_driftY := fun _ h => List.mem_cons_of_mem _ (List.mem_append_right _ (List.mem_append_left _ h))
theorem hd_X8_driftY : yX8_driftY.cls = RX8 ∧ yX8_driftY.cls ≠ "java/lang/invoke/MethodHandle" ∧ yX8_driftY.cls ≠ "java/lang/invoke/VarHandle" ∧ (parseMethodDescriptor yX8_driftY.desc).map (fun d => d.parameters.length) = some 1 := by decide +kernel
set_option maxHeartbeats 4000000 in
set_option maxRecDepth 100000 in
theorem f_X8_driftY (l : Launch) (E : EE) {a_ a_tape a_readPlace a_script a_scriptLong a_now a_refused a_shareX a_shareY a_askedRow a_kept a_aside a_spelled a_image : Nat} {p1 : Int32} {c_thrown : Int32} {c_taped : Int32} {c_at : Int32} {c_part : Int32} {c_partFrom : Int32} {c_partNumber : Int32} {c_wrong : Int32} {c_partWord : Int64} {c_readLaw : Int32} {c_readBound : Int32} {c_readGoal : Int32} {c_readSites : Int32} {c_scripts : Int32} {c_sites : Int32} {c_asked : Int32} {c_outcome : Int32} {c_took : Int32} {c_acts : Int32} {c_drawn : Int64} {c_racer : Int32} {c_raced : Int32} {c_spelledMany : Int32} {c_hasImage : Int32} {c_now : Nat → Int32} {rr : Int32} (hF : F_X8_driftY p1 c_now = some rr) : Met l yX8_driftY v_f_X8_driftY (({ frames := 0, cells := 0, slots := 0, locals := 0 } : Room)) (va_Pc [.ref a_, .int p1] (pP E (w_X8_driftY E a_ a_tape a_readPlace a_script a_scriptLong a_now a_refused a_shareX a_shareY a_askedRow a_kept a_aside a_spelled a_image c_thrown c_taped c_at c_part c_partFrom c_partNumber c_wrong c_partWord c_readLaw c_readBound c_readGoal c_readSites c_scripts c_sites c_asked c_outcome c_took c_acts c_drawn c_racer c_raced c_spelledMany c_hasImage c_now))) (vp_Si (fun q : Int32 => q = rr)) 0 0 (fun _ => False) := by
  refine Met.ofW (cc := cX8_driftY) (maxL := 2) (ret := (some .int)) (by decide) rfl ?_
  intro p e s m args below meth c s₁ B hml hv
  obtain ⟨rfl, ⟨hK, hN⟩, hP⟩ := hv
  have hx := B.exec
  have hb := B.bytes
  have hr := B.returns
  have hts := atoms_spec (ws := v_f_X8_driftY) B.pre
  have hown : s.vm.findClass RX8 = some m.cls := own_of hd_X8_driftY.1 (findClass_of_methodNamed B.named)
  have hlocks : meth.locks = false := B.notSynchronized
  replace hP : va_P E.1 vwCl [(a_, .inr (9, [.int c_thrown, .ref a_tape, .int c_taped, .int c_at, .int c_part, .int c_partFrom, .int c_partNumber, .int c_wrong, .long c_partWord, .int c_readLaw, .int c_readBound, .int c_readGoal, .int c_readSites, .ref a_readPlace, .ref a_script, .ref a_scriptLong, .int c_scripts, .ref a_now, .ref a_refused, .int c_sites, .ref a_shareX, .ref a_shareY, .int c_asked, .int c_outcome, .ref a_askedRow, .int c_took, .ref a_kept, .int c_acts, .long c_drawn, .ref a_aside, .int c_racer, .int c_raced, .ref a_spelled, .int c_spelledMany, .ref a_image, .int c_hasImage])), (a_now, .inl (E.2.1, 265, .inl c_now))] s.heap := hP
  have hl := lv_entry ([.ref a_, .int p1]) (n := 2) (Nat.le_of_ble_eq_true rfl)
  rw [lg_entry_eq]
  generalize (lg_sl ([.ref a_, .int p1]) ++ List.replicate (2 - (lg_sl ([.ref a_, .int p1])).length) Slot.unset).toArray = ls at hl ⊢
  have hl : lv_has ls 2 [(0, .ref a_), (1, .int p1)] := hl
  obtain ⟨Q, hQ⟩ : ∃ Q : State → Prop, Q = MQ below (vp_Si (fun q : Int32 => q = rr)) #[Value.ref a_, Value.int p1] s 0 0 (fun _ => False) := ⟨_, rfl⟩
  rw [← hQ]
  change W p l e ({ frames := 0, cells := 0, slots := 0, locals := 0 } : Room) s m #[Value.ref a_, Value.int p1] below meth c s.heap [] 0 0 Q (F0 m 0 ls [])
  unfold F_X8_driftY at hF
  refine lv_aload_n hx hb dX8_driftY_0 rfl (lv_at hl 0 rfl) ?_
  refine gt_X8_17 (v := .ref a_now) hx hb hts i_f_X8_driftY_X8 hown hK hP 0 rfl (hts (.fieldLink RX8 22 "HushWatchModel" "now" "[I") (List.mem_of_getElem? (i := 1) rfl)) rfl dX8_driftY_1 ?_
  refine lv_bipush (v := 8) hx hb dX8_driftY_4 (by decide) ?_
  refine lv_iload_n hx hb dX8_driftY_6 rfl (lv_at hl 1 rfl) ?_
  refine lv_iadd hx hb dX8_driftY_7 ?_
  replace hF := ix_s hF
  obtain ⟨hi_1, hF⟩ := hF
  refine va_iald hx hb hK hP 1 0 rfl rfl hi_1 dX8_driftY_8 ?_
  refine lv_aload_n hx hb dX8_driftY_9 rfl (lv_at hl 0 rfl) ?_
  refine gt_X8_17 (v := .ref a_now) hx hb hts i_f_X8_driftY_X8 hown hK hP 0 rfl (hts (.fieldLink RX8 22 "HushWatchModel" "now" "[I") (List.mem_of_getElem? (i := 1) rfl)) rfl dX8_driftY_10 ?_
  refine lv_bipush (v := 24) hx hb dX8_driftY_13 (by decide) ?_
  refine lv_iload_n hx hb dX8_driftY_15 rfl (lv_at hl 1 rfl) ?_
  refine lv_iadd hx hb dX8_driftY_16 ?_
  replace hF := ix_s hF
  obtain ⟨hi_2, hF⟩ := hF
  refine va_iald hx hb hK hP 1 0 rfl rfl hi_2 dX8_driftY_17 ?_
  refine lv_isub hx hb dX8_driftY_18 ?_
  refine lv_aload_n hx hb dX8_driftY_19 rfl (lv_at hl 0 rfl) ?_
  refine gt_X8_17 (v := .ref a_now) hx hb hts i_f_X8_driftY_X8 hown hK hP 0 rfl (hts (.fieldLink RX8 22 "HushWatchModel" "now" "[I") (List.mem_of_getElem? (i := 1) rfl)) rfl dX8_driftY_20 ?_
  refine lv_bipush (v := 40) hx hb dX8_driftY_23 (by decide) ?_
  refine lv_iload_n hx hb dX8_driftY_25 rfl (lv_at hl 1 rfl) ?_
  refine lv_iadd hx hb dX8_driftY_26 ?_
  replace hF := ix_s hF
  obtain ⟨hi_3, hF⟩ := hF
  refine va_iald hx hb hK hP 1 0 rfl rfl hi_3 dX8_driftY_27 ?_
  refine lv_iadd hx hb dX8_driftY_28 ?_
  rw [hQ]
  obtain e9_0 := inj1 hF
  exact W.iret (v := ((c_now ((8 : Int32) + p1).toNatClampNeg) - (c_now ((24 : Int32) + p1).toNatClampNeg)) + (c_now ((40 : Int32) + p1).toNatClampNeg)) hx hb hr (fun tt ht hW => ⟨_, rfl, e9_0, ht⟩) (fun _ h => by cases h) dX8_driftY_29

def B_X8_sum_4 (p1 : Int32) (c_sites : Int32) (c_now : Nat → Int32) (x2 : Int32) (x3 : Int32) : Option ((Int32 × Int32) ⊕ (Int32)) :=
  if c_sites ≤ x3 then some (.inr x2) else ixF (p1 + x3) 265 (some (.inl (x2 + (c_now (p1 + x3).toNatClampNeg), x3 + (1 : Int32))))
def F_X8_sum (K : Nat) (p1 : Int32) (c_now : Nat → Int32) (c_sites : Int32) : Option (Int32) :=
  bd1 (lpF (fun u9 : Int32 × Int32 => B_X8_sum_4 p1 c_sites c_now u9.1 u9.2) K ((0 : Int32), (0 : Int32))) (fun x2_3 => some x2_3)
abbrev w_X8_sum (E : EE) (a_ a_tape a_readPlace a_script a_scriptLong a_now a_refused a_shareX a_shareY a_askedRow a_kept a_aside a_spelled a_image : Nat) (c_thrown : Int32) (c_taped : Int32) (c_at : Int32) (c_part : Int32) (c_partFrom : Int32) (c_partNumber : Int32) (c_wrong : Int32) (c_partWord : Int64) (c_readLaw : Int32) (c_readBound : Int32) (c_readGoal : Int32) (c_readSites : Int32) (c_scripts : Int32) (c_sites : Int32) (c_asked : Int32) (c_outcome : Int32) (c_took : Int32) (c_acts : Int32) (c_drawn : Int64) (c_racer : Int32) (c_raced : Int32) (c_spelledMany : Int32) (c_hasImage : Int32) (c_now : Nat → Int32) : va_W := [(a_, .inr (9, [.int c_thrown, .ref a_tape, .int c_taped, .int c_at, .int c_part, .int c_partFrom, .int c_partNumber, .int c_wrong, .long c_partWord, .int c_readLaw, .int c_readBound, .int c_readGoal, .int c_readSites, .ref a_readPlace, .ref a_script, .ref a_scriptLong, .int c_scripts, .ref a_now, .ref a_refused, .int c_sites, .ref a_shareX, .ref a_shareY, .int c_asked, .int c_outcome, .ref a_askedRow, .int c_took, .ref a_kept, .int c_acts, .long c_drawn, .ref a_aside, .int c_racer, .int c_raced, .ref a_spelled, .int c_spelledMany, .ref a_image, .int c_hasImage])), (a_now, .inl (E.2.1, 265, .inl c_now))]
def v_f_X8_sum : List Cond := List.cons (.code yX8_sum cX8_sum 4 (some .int)) (HAppend.hAppend (α := List Cond) (β := List Cond) (γ := List Cond) [.fieldLink RX8 196 "HushWatchModel" "sites" "I", .fieldLink RX8 22 "HushWatchModel" "now" "[I"] (HAppend.hAppend (α := List Cond) (β := List Cond) (γ := List Cond) wsX80 []))
theorem gw_f_X8_sum : v_f_X8_sum.all goodWord = true := by decide +kernel
theorem i_f_X8_sum_X8 : ∀ w ∈ wsX80, w ∈ v_f_X8_sum := fun _ h => List.mem_cons_of_mem _ (List.mem_append_right _ (List.mem_append_left _ h))
theorem hd_X8_sum : yX8_sum.cls = RX8 ∧ yX8_sum.cls ≠ "java/lang/invoke/MethodHandle" ∧ yX8_sum.cls ≠ "java/lang/invoke/VarHandle" ∧ (parseMethodDescriptor yX8_sum.desc).map (fun d => d.parameters.length) = some 1 := by decide +kernel
set_option maxHeartbeats 4000000 in
set_option maxRecDepth 100000 in
theorem wb_X8_sum_4 {p : Program} (l : Launch) {e : Env} {s : State} {m : MethodId} {below : List Frame} {meth : Method} {c : Code} {Q : State → Prop} (E : EE) (K : Nat) {a_ a_tape a_readPlace a_script a_scriptLong a_now a_refused a_shareX a_shareY a_askedRow a_kept a_aside a_spelled a_image : Nat} {p1 : Int32} {c_thrown : Int32} {c_taped : Int32} {c_at : Int32} {c_part : Int32} {c_partFrom : Int32} {c_partNumber : Int32} {c_wrong : Int32} {c_partWord : Int64} {c_readLaw : Int32} {c_readBound : Int32} {c_readGoal : Int32} {c_readSites : Int32} {c_scripts : Int32} {c_sites : Int32} {c_asked : Int32} {c_outcome : Int32} {c_took : Int32} {c_acts : Int32} {c_drawn : Int64} {c_racer : Int32} {c_raced : Int32} {c_spelledMany : Int32} {c_hasImage : Int32} {c_now : Nat → Int32} {x2 : Int32} {x3 : Int32} (hx : p.tables.exec = Jvm.exec) (hb : c.code = cX8_sum) (hml : c.maxLocals = 4) (hown : s.vm.findClass RX8 = some m.cls) (hts : ∀ w ∈ v_f_X8_sum, w.before #[Value.ref a_, Value.int p1] s = true) (hK : va_K E.1 vwCl (TY E) s) (hN : NX s) {xx : (Int32 × Int32) ⊕ (Int32)} (hC : ∀ (x2 : Int32), ∀ (x3 : Int32), xx = .inl (x2, x3) → ∀ (ls : Array Slot), lv_has ls 4 [(0, .ref a_), (1, .int p1), (2, .int x2), (3, .int x3)] → W p l e ({ frames := 0, cells := 0, slots := 0, locals := 0 } : Room) s m #[Value.ref a_, Value.int p1] below meth c s.heap [] 0 0 Q (F0 m 4 ls [])) (hE : ∀ (x2 : Int32), xx = .inr x2 → ((∀ (ls : Array Slot), lv_has ls 4 [(2, .int x2)] → W p l e ({ frames := 0, cells := 0, slots := 0, locals := 0 } : Room) s m #[Value.ref a_, Value.int p1] below meth c s.heap [] 0 0 Q (F0 m 29 ls [])))) (hF : B_X8_sum_4 p1 c_sites c_now x2 x3 = some xx) (hP : va_P E.1 vwCl (w_X8_sum E a_ a_tape a_readPlace a_script a_scriptLong a_now a_refused a_shareX a_shareY a_askedRow a_kept a_aside a_spelled a_image c_thrown c_taped c_at c_part c_partFrom c_partNumber c_wrong c_partWord c_readLaw c_readBound c_readGoal c_readSites c_scripts c_sites c_asked c_outcome c_took c_acts c_drawn c_racer c_raced c_spelledMany c_hasImage c_now) s.heap) : ∀ (ls : Array Slot), lv_has ls 4 [(0, .ref a_), (1, .int p1), (2, .int x2), (3, .int x3)] → W p l e ({ frames := 0, cells := 0, slots := 0, locals := 0 } : Room) s m #[Value.ref a_, Value.int p1] below meth c s.heap [] 0 0 Q (F0 m 4 ls []) := by
  unfold B_X8_sum_4 at hF
  replace hP : va_P E.1 vwCl [(a_, .inr (9, [.int c_thrown, .ref a_tape, .int c_taped, .int c_at, .int c_part, .int c_partFrom, .int c_partNumber, .int c_wrong, .long c_partWord, .int c_readLaw, .int c_readBound, .int c_readGoal, .int c_readSites, .ref a_readPlace, .ref a_script, .ref a_scriptLong, .int c_scripts, .ref a_now, .ref a_refused, .int c_sites, .ref a_shareX, .ref a_shareY, .int c_asked, .int c_outcome, .ref a_askedRow, .int c_took, .ref a_kept, .int c_acts, .long c_drawn, .ref a_aside, .int c_racer, .int c_raced, .ref a_spelled, .int c_spelledMany, .ref a_image, .int c_hasImage])), (a_now, .inl (E.2.1, 265, .inl c_now))] s.heap := hP
  intro ls hl
  refine lv_iload_n hx hb dX8_sum_4 rfl (lv_at hl 3 rfl) ?_
  refine lv_aload_n hx hb dX8_sum_5 rfl (lv_at hl 0 rfl) ?_
  refine gt_X8_19 (v := .int c_sites) hx hb hts i_f_X8_sum_X8 hown hK hP 0 rfl (hts (.fieldLink RX8 196 "HushWatchModel" "sites" "I") (List.mem_of_getElem? (i := 1) rfl)) rfl dX8_sum_6 ?_
  refine lv_icmp_ge (tgt := 29) hx hb dX8_sum_9 (by decide) (fun c_1 => ?_) (fun c_1 => ?_)
  ·
    replace hF := ip c_1 hF
    cases hF
    exact hE x2 rfl ls (lv_sub hl [2] rfl)
  ·
    replace hF := inn c_1 hF
    refine lv_iload_n hx hb dX8_sum_12 rfl (lv_at hl 2 rfl) ?_
    refine lv_aload_n hx hb dX8_sum_13 rfl (lv_at hl 0 rfl) ?_
    refine gt_X8_17 (v := .ref a_now) hx hb hts i_f_X8_sum_X8 hown hK hP 0 rfl (hts (.fieldLink RX8 22 "HushWatchModel" "now" "[I") (List.mem_of_getElem? (i := 2) rfl)) rfl dX8_sum_14 ?_
    refine lv_iload_n hx hb dX8_sum_17 rfl (lv_at hl 1 rfl) ?_
    refine lv_iload_n hx hb dX8_sum_18 rfl (lv_at hl 3 rfl) ?_
    refine lv_iadd hx hb dX8_sum_19 ?_
    replace hF := ix_s hF
    obtain ⟨hi_2, hF⟩ := hF
    refine va_iald hx hb hK hP 1 0 rfl rfl hi_2 dX8_sum_20 ?_
    refine lv_iadd hx hb dX8_sum_21 ?_
    refine lv_istore_n (lv' := [(2, .int (x2 + (c_now (p1 + x3).toNatClampNeg))), (0, .ref a_), (1, .int p1), (3, .int x3)]) hx hb dX8_sum_22 rfl hl (by decide) rfl (fun ls hl => ?_)
    refine lv_iinc (v := x3 + (1 : Int32)) (lv' := [(3, .int (x3 + (1 : Int32))), (2, .int (x2 + (c_now (p1 + x3).toNatClampNeg))), (0, .ref a_), (1, .int p1)]) hx hb dX8_sum_23 hl (k := 3) rfl (rfl) (by decide) rfl (fun ls hl => ?_)
    refine lv_goto (tgt := 4) hx hb dX8_sum_26 (by decide) ?_
    cases hF
    exact hC (x2 + (c_now (p1 + x3).toNatClampNeg)) (x3 + (1 : Int32)) rfl ls (lv_sub hl [2, 3, 1, 0] rfl)

set_option maxHeartbeats 4000000 in
set_option maxRecDepth 100000 in
theorem lw_X8_sum_4 {p : Program} (l : Launch) {e : Env} {s : State} {m : MethodId} {below : List Frame} {meth : Method} {c : Code} {Q : State → Prop} (E : EE) (K : Nat) {a_ a_tape a_readPlace a_script a_scriptLong a_now a_refused a_shareX a_shareY a_askedRow a_kept a_aside a_spelled a_image : Nat} {p1 : Int32} {c_thrown : Int32} {c_taped : Int32} {c_at : Int32} {c_part : Int32} {c_partFrom : Int32} {c_partNumber : Int32} {c_wrong : Int32} {c_partWord : Int64} {c_readLaw : Int32} {c_readBound : Int32} {c_readGoal : Int32} {c_readSites : Int32} {c_scripts : Int32} {c_sites : Int32} {c_asked : Int32} {c_outcome : Int32} {c_took : Int32} {c_acts : Int32} {c_drawn : Int64} {c_racer : Int32} {c_raced : Int32} {c_spelledMany : Int32} {c_hasImage : Int32} {c_now : Nat → Int32} (hx : p.tables.exec = Jvm.exec) (hb : c.code = cX8_sum) (hml : c.maxLocals = 4) (hown : s.vm.findClass RX8 = some m.cls) (hts : ∀ w ∈ v_f_X8_sum, w.before #[Value.ref a_, Value.int p1] s = true) (hK : va_K E.1 vwCl (TY E) s) (hN : NX s) (hP : va_P E.1 vwCl (w_X8_sum E a_ a_tape a_readPlace a_script a_scriptLong a_now a_refused a_shareX a_shareY a_askedRow a_kept a_aside a_spelled a_image c_thrown c_taped c_at c_part c_partFrom c_partNumber c_wrong c_partWord c_readLaw c_readBound c_readGoal c_readSites c_scripts c_sites c_asked c_outcome c_took c_acts c_drawn c_racer c_raced c_spelledMany c_hasImage c_now) s.heap) (j9 : Nat) (x2 : Int32) (x3 : Int32) (x2' : Int32) (hL : lpF (fun u9 : Int32 × Int32 => B_X8_sum_4 p1 c_sites c_now u9.1 u9.2) j9 (x2, x3) = some x2') (hX : (∀ (ls : Array Slot), lv_has ls 4 [(2, .int x2')] → W p l e ({ frames := 0, cells := 0, slots := 0, locals := 0 } : Room) s m #[Value.ref a_, Value.int p1] below meth c s.heap [] 0 0 Q (F0 m 29 ls []))) : ∀ (ls : Array Slot), lv_has ls 4 [(0, .ref a_), (1, .int p1), (2, .int x2), (3, .int x3)] → W p l e ({ frames := 0, cells := 0, slots := 0, locals := 0 } : Room) s m #[Value.ref a_, Value.int p1] below meth c s.heap [] 0 0 Q (F0 m 4 ls []) := by
  exact lp_rule (P := (fun u9 : Int32 × Int32 => ∀ (ls : Array Slot), lv_has ls 4 [(0, .ref a_), (1, .int p1), (2, .int u9.1), (3, .int u9.2)] → W p l e ({ frames := 0, cells := 0, slots := 0, locals := 0 } : Room) s m #[Value.ref a_, Value.int p1] below meth c s.heap [] 0 0 Q (F0 m 4 ls []))) (R := (fun r9 : Int32 => (∀ (ls : Array Slot), lv_has ls 4 [(2, .int r9)] → W p l e ({ frames := 0, cells := 0, slots := 0, locals := 0 } : Room) s m #[Value.ref a_, Value.int p1] below meth c s.heap [] 0 0 Q (F0 m 29 ls [])))) (fun u9 xx hF hC hE => wb_X8_sum_4 l E K (p1 := p1) (c_thrown := c_thrown) (c_taped := c_taped) (c_at := c_at) (c_part := c_part) (c_partFrom := c_partFrom) (c_partNumber := c_partNumber) (c_wrong := c_wrong) (c_partWord := c_partWord) (c_readLaw := c_readLaw) (c_readBound := c_readBound) (c_readGoal := c_readGoal) (c_readSites := c_readSites) (c_scripts := c_scripts) (c_sites := c_sites) (c_asked := c_asked) (c_outcome := c_outcome) (c_took := c_took) (c_acts := c_acts) (c_drawn := c_drawn) (c_racer := c_racer) (c_raced := c_raced) (c_spelledMany := c_spelledMany) (c_hasImage := c_hasImage) (c_now := c_now) (x2 := u9.1) (x3 := u9.2) hx hb hml hown hts hK hN (fun x2 x3 q9 => hC _ q9) (fun x2 q9 => hE _ q9) hF hP) j9 (x2, x3) x2' hL hX

set_option maxHeartbeats 4000000 in
set_option maxRecDepth 100000 in
theorem f_X8_sum (l : Launch) (E : EE) (K : Nat) {a_ a_tape a_readPlace a_script a_scriptLong a_now a_refused a_shareX a_shareY a_askedRow a_kept a_aside a_spelled a_image : Nat} {p1 : Int32} {c_thrown : Int32} {c_taped : Int32} {c_at : Int32} {c_part : Int32} {c_partFrom : Int32} {c_partNumber : Int32} {c_wrong : Int32} {c_partWord : Int64} {c_readLaw : Int32} {c_readBound : Int32} {c_readGoal : Int32} {c_readSites : Int32} {c_scripts : Int32} {c_sites : Int32} {c_asked : Int32} {c_outcome : Int32} {c_took : Int32} {c_acts : Int32} {c_drawn : Int64} {c_racer : Int32} {c_raced : Int32} {c_spelledMany : Int32} {c_hasImage : Int32} {c_now : Nat → Int32} {rr : Int32} (hF : F_X8_sum K p1 c_now c_sites = some rr) : Met l yX8_sum v_f_X8_sum (({ frames := 0, cells := 0, slots := 0, locals := 0 } : Room)) (va_Pc [.ref a_, .int p1] (pP E (w_X8_sum E a_ a_tape a_readPlace a_script a_scriptLong a_now a_refused a_shareX a_shareY a_askedRow a_kept a_aside a_spelled a_image c_thrown c_taped c_at c_part c_partFrom c_partNumber c_wrong c_partWord c_readLaw c_readBound c_readGoal c_readSites c_scripts c_sites c_asked c_outcome c_took c_acts c_drawn c_racer c_raced c_spelledMany c_hasImage c_now))) (vp_Si (fun q : Int32 => q = rr)) 0 0 (fun _ => False) := by
  refine Met.ofW (cc := cX8_sum) (maxL := 4) (ret := (some .int)) (by decide) rfl ?_
  intro p e s m args below meth c s₁ B hml hv
  obtain ⟨rfl, ⟨hK, hN⟩, hP⟩ := hv
  have hx := B.exec
  have hb := B.bytes
  have hr := B.returns
  have hts := atoms_spec (ws := v_f_X8_sum) B.pre
  have hown : s.vm.findClass RX8 = some m.cls := own_of hd_X8_sum.1 (findClass_of_methodNamed B.named)
  have hlocks : meth.locks = false := B.notSynchronized
  replace hP : va_P E.1 vwCl [(a_, .inr (9, [.int c_thrown, .ref a_tape, .int c_taped, .int c_at, .int c_part, .int c_partFrom, .int c_partNumber, .int c_wrong, .long c_partWord, .int c_readLaw, .int c_readBound, .int c_readGoal, .int c_readSites, .ref a_readPlace, .ref a_script, .ref a_scriptLong, .int c_scripts, .ref a_now, .ref a_refused, .int c_sites, .ref a_shareX, .ref a_shareY, .int c_asked, .int c_outcome, .ref a_askedRow, .int c_took, .ref a_kept, .int c_acts, .long c_drawn, .ref a_aside, .int c_racer, .int c_raced, .ref a_spelled, .int c_spelledMany, .ref a_image, .int c_hasImage])), (a_now, .inl (E.2.1, 265, .inl c_now))] s.heap := hP
  have hl := lv_entry ([.ref a_, .int p1]) (n := 4) (Nat.le_of_ble_eq_true rfl)
  rw [lg_entry_eq]
  generalize (lg_sl ([.ref a_, .int p1]) ++ List.replicate (4 - (lg_sl ([.ref a_, .int p1])).length) Slot.unset).toArray = ls at hl ⊢
  have hl : lv_has ls 4 [(0, .ref a_), (1, .int p1)] := hl
  obtain ⟨Q, hQ⟩ : ∃ Q : State → Prop, Q = MQ below (vp_Si (fun q : Int32 => q = rr)) #[Value.ref a_, Value.int p1] s 0 0 (fun _ => False) := ⟨_, rfl⟩
  rw [← hQ]
  change W p l e ({ frames := 0, cells := 0, slots := 0, locals := 0 } : Room) s m #[Value.ref a_, Value.int p1] below meth c s.heap [] 0 0 Q (F0 m 0 ls [])
  unfold F_X8_sum at hF
  refine lv_iconst (v := 0) hx hb dX8_sum_0 (by decide) ?_
  refine lv_istore_n (lv' := [(2, .int (0 : Int32)), (0, .ref a_), (1, .int p1)]) hx hb dX8_sum_1 rfl hl (by decide) rfl (fun ls hl => ?_)
  refine lv_iconst (v := 0) hx hb dX8_sum_2 (by decide) ?_
  refine lv_istore_n (lv' := [(3, .int (0 : Int32)), (2, .int (0 : Int32)), (0, .ref a_), (1, .int p1)]) hx hb dX8_sum_3 rfl hl (by decide) rfl (fun ls hl => ?_)
  replace hF := bd1_s hF
  obtain ⟨x2_3, hL_4, hF⟩ := hF
  refine lw_X8_sum_4 l E K (p1 := p1) (c_thrown := c_thrown) (c_taped := c_taped) (c_at := c_at) (c_part := c_part) (c_partFrom := c_partFrom) (c_partNumber := c_partNumber) (c_wrong := c_wrong) (c_partWord := c_partWord) (c_readLaw := c_readLaw) (c_readBound := c_readBound) (c_readGoal := c_readGoal) (c_readSites := c_readSites) (c_scripts := c_scripts) (c_sites := c_sites) (c_asked := c_asked) (c_outcome := c_outcome) (c_took := c_took) (c_acts := c_acts) (c_drawn := c_drawn) (c_racer := c_racer) (c_raced := c_raced) (c_spelledMany := c_spelledMany) (c_hasImage := c_hasImage) (c_now := c_now) hx hb hml hown hts hK hN hP K (0 : Int32) (0 : Int32) x2_3 hL_4 ?_ ls (lv_sub hl [2, 3, 1, 0] rfl)
  ·
    intro ls hl
    refine lv_iload_n hx hb dX8_sum_29 rfl (lv_at hl 0 rfl) ?_
    rw [hQ]
    obtain e9_0 := inj1 hF
    exact W.iret (v := x2_3) hx hb hr (fun tt ht hW => ⟨_, rfl, e9_0, ht⟩) (fun _ h => by cases h) dX8_sum_30

def F_X8_pointX (K : Nat) (p1 : Int32) (c_now : Nat → Int32) (c_sites : Int32) : Option (Int32) :=
  bd1 (F_X8_sum K (16 : Int32) c_now c_sites) (fun r_1 => some (r_1 + (c_sites * p1)))
abbrev w_X8_pointX (E : EE) (a_ a_tape a_readPlace a_script a_scriptLong a_now a_refused a_shareX a_shareY a_askedRow a_kept a_aside a_spelled a_image : Nat) (c_thrown : Int32) (c_taped : Int32) (c_at : Int32) (c_part : Int32) (c_partFrom : Int32) (c_partNumber : Int32) (c_wrong : Int32) (c_partWord : Int64) (c_readLaw : Int32) (c_readBound : Int32) (c_readGoal : Int32) (c_readSites : Int32) (c_scripts : Int32) (c_sites : Int32) (c_asked : Int32) (c_outcome : Int32) (c_took : Int32) (c_acts : Int32) (c_drawn : Int64) (c_racer : Int32) (c_raced : Int32) (c_spelledMany : Int32) (c_hasImage : Int32) (c_now : Nat → Int32) : va_W := [(a_, .inr (9, [.int c_thrown, .ref a_tape, .int c_taped, .int c_at, .int c_part, .int c_partFrom, .int c_partNumber, .int c_wrong, .long c_partWord, .int c_readLaw, .int c_readBound, .int c_readGoal, .int c_readSites, .ref a_readPlace, .ref a_script, .ref a_scriptLong, .int c_scripts, .ref a_now, .ref a_refused, .int c_sites, .ref a_shareX, .ref a_shareY, .int c_asked, .int c_outcome, .ref a_askedRow, .int c_took, .ref a_kept, .int c_acts, .long c_drawn, .ref a_aside, .int c_racer, .int c_raced, .ref a_spelled, .int c_spelledMany, .ref a_image, .int c_hasImage])), (a_now, .inl (E.2.1, 265, .inl c_now))]
def v_f_X8_pointX : List Cond := List.cons (.code yX8_pointX cX8_pointX 2 (some .int)) (HAppend.hAppend (α := List Cond) (β := List Cond) (γ := List Cond) [.fieldLink RX8 196 "HushWatchModel" "sites" "I", .methodLink RX8 199 yX8_sum, .instanceMethod yX8_sum, .selects RX8 yX8_sum yX8_sum, .initialized RX8] (HAppend.hAppend (α := List Cond) (β := List Cond) (γ := List Cond) v_f_X8_sum (HAppend.hAppend (α := List Cond) (β := List Cond) (γ := List Cond) wsX80 [])))
theorem gw_f_X8_pointX : v_f_X8_pointX.all goodWord = true := by decide +kernel
theorem i_f_X8_pointX_X8 : ∀ w ∈ wsX80, w ∈ v_f_X8_pointX := fun _ h => List.mem_cons_of_mem _ (List.mem_append_right _ (List.mem_append_right _ (List.mem_append_left _ h)))
theorem g_f_X8_pointX_f_X8_sum_199 : GoodIn v_f_X8_pointX (wsV RX8 199 RX8 yX8_sum v_f_X8_sum) := goodIn_app (goodIn_of _ (by decide +kernel)) (goodIn_sub (fun _ h => List.mem_cons_of_mem _ (List.mem_append_right _ (List.mem_append_left _ h))) gw_f_X8_sum)
theorem hd_X8_pointX : yX8_pointX.cls = RX8 ∧ yX8_pointX.cls ≠ "java/lang/invoke/MethodHandle" ∧ yX8_pointX.cls ≠ "java/lang/invoke/VarHandle" ∧ (parseMethodDescriptor yX8_pointX.desc).map (fun d => d.parameters.length) = some 1 := by decide +kernel
set_option maxHeartbeats 4000000 in
set_option maxRecDepth 100000 in
theorem f_X8_pointX (l : Launch) (E : EE) (K : Nat) {a_ a_tape a_readPlace a_script a_scriptLong a_now a_refused a_shareX a_shareY a_askedRow a_kept a_aside a_spelled a_image : Nat} {p1 : Int32} {c_thrown : Int32} {c_taped : Int32} {c_at : Int32} {c_part : Int32} {c_partFrom : Int32} {c_partNumber : Int32} {c_wrong : Int32} {c_partWord : Int64} {c_readLaw : Int32} {c_readBound : Int32} {c_readGoal : Int32} {c_readSites : Int32} {c_scripts : Int32} {c_sites : Int32} {c_asked : Int32} {c_outcome : Int32} {c_took : Int32} {c_acts : Int32} {c_drawn : Int64} {c_racer : Int32} {c_raced : Int32} {c_spelledMany : Int32} {c_hasImage : Int32} {c_now : Nat → Int32} {rr : Int32} (hF : F_X8_pointX K p1 c_now c_sites = some rr) : Met l yX8_pointX v_f_X8_pointX (({ frames := 1, cells := 0, slots := 0, locals := 23 } : Room)) (va_Pc [.ref a_, .int p1] (pP E (w_X8_pointX E a_ a_tape a_readPlace a_script a_scriptLong a_now a_refused a_shareX a_shareY a_askedRow a_kept a_aside a_spelled a_image c_thrown c_taped c_at c_part c_partFrom c_partNumber c_wrong c_partWord c_readLaw c_readBound c_readGoal c_readSites c_scripts c_sites c_asked c_outcome c_took c_acts c_drawn c_racer c_raced c_spelledMany c_hasImage c_now))) (vp_Si (fun q : Int32 => q = rr)) 0 0 (fun _ => False) := by
  refine Met.ofW (cc := cX8_pointX) (maxL := 2) (ret := (some .int)) (by decide) rfl ?_
  intro p e s m args below meth c s₁ B hml hv
  obtain ⟨rfl, ⟨hK, hN⟩, hP⟩ := hv
  have hx := B.exec
  have hb := B.bytes
  have hr := B.returns
  have hts := atoms_spec (ws := v_f_X8_pointX) B.pre
  have hown : s.vm.findClass RX8 = some m.cls := own_of hd_X8_pointX.1 (findClass_of_methodNamed B.named)
  have hlocks : meth.locks = false := B.notSynchronized
  replace hP : va_P E.1 vwCl [(a_, .inr (9, [.int c_thrown, .ref a_tape, .int c_taped, .int c_at, .int c_part, .int c_partFrom, .int c_partNumber, .int c_wrong, .long c_partWord, .int c_readLaw, .int c_readBound, .int c_readGoal, .int c_readSites, .ref a_readPlace, .ref a_script, .ref a_scriptLong, .int c_scripts, .ref a_now, .ref a_refused, .int c_sites, .ref a_shareX, .ref a_shareY, .int c_asked, .int c_outcome, .ref a_askedRow, .int c_took, .ref a_kept, .int c_acts, .long c_drawn, .ref a_aside, .int c_racer, .int c_raced, .ref a_spelled, .int c_spelledMany, .ref a_image, .int c_hasImage])), (a_now, .inl (E.2.1, 265, .inl c_now))] s.heap := hP
  have hl := lv_entry ([.ref a_, .int p1]) (n := 2) (Nat.le_of_ble_eq_true rfl)
  rw [lg_entry_eq]
  generalize (lg_sl ([.ref a_, .int p1]) ++ List.replicate (2 - (lg_sl ([.ref a_, .int p1])).length) Slot.unset).toArray = ls at hl ⊢
  have hl : lv_has ls 2 [(0, .ref a_), (1, .int p1)] := hl
  obtain ⟨Q, hQ⟩ : ∃ Q : State → Prop, Q = MQ below (vp_Si (fun q : Int32 => q = rr)) #[Value.ref a_, Value.int p1] s 0 0 (fun _ => False) := ⟨_, rfl⟩
  rw [← hQ]
  change W p l e ({ frames := 1, cells := 0, slots := 0, locals := 23 } : Room) s m #[Value.ref a_, Value.int p1] below meth c s.heap [] 0 0 Q (F0 m 0 ls [])
  unfold F_X8_pointX at hF
  refine lv_aload_n hx hb dX8_pointX_0 rfl (lv_at hl 0 rfl) ?_
  refine lv_bipush (v := 16) hx hb dX8_pointX_1 (by decide) ?_
  replace hF := bd1_s hF
  obtain ⟨r_1, hc_2, hF⟩ := hF
  have hPc : va_P E.1 vwCl (w_X8_sum E a_ a_tape a_readPlace a_script a_scriptLong a_now a_refused a_shareX a_shareY a_askedRow a_kept a_aside a_spelled a_image c_thrown c_taped c_at c_part c_partFrom c_partNumber c_wrong c_partWord c_readLaw c_readBound c_readGoal c_readSites c_scripts c_sites c_asked c_outcome c_took c_acts c_drawn c_racer c_raced c_spelledMany c_hasImage c_now) s.heap := hP.sub (ws' := [(a_, .inr (9, [.int c_thrown, .ref a_tape, .int c_taped, .int c_at, .int c_part, .int c_partFrom, .int c_partNumber, .int c_wrong, .long c_partWord, .int c_readLaw, .int c_readBound, .int c_readGoal, .int c_readSites, .ref a_readPlace, .ref a_script, .ref a_scriptLong, .int c_scripts, .ref a_now, .ref a_refused, .int c_sites, .ref a_shareX, .ref a_shareY, .int c_asked, .int c_outcome, .ref a_askedRow, .int c_took, .ref a_kept, .int c_acts, .long c_drawn, .ref a_aside, .int c_racer, .int c_raced, .ref a_spelled, .int c_spelledMany, .ref a_image, .int c_hasImage])), (a_now, .inl (E.2.1, 265, .inl c_now))]) [0, 1] rfl
  have hrc := va_recv hK hPc (ci := 9) (q0 := 0) rfl rfl
  refine pE_i (va_runV (As := [.int (16 : Int32)]) (rest := [])  ⟨hx, hb, hml, hown, hts⟩ (f_X8_sum l E K (a_ := a_) (a_tape := a_tape) (a_readPlace := a_readPlace) (a_script := a_script) (a_scriptLong := a_scriptLong) (a_now := a_now) (a_refused := a_refused) (a_shareX := a_shareX) (a_shareY := a_shareY) (a_askedRow := a_askedRow) (a_kept := a_kept) (a_aside := a_aside) (a_spelled := a_spelled) (a_image := a_image) (p1 := (16 : Int32)) (c_thrown := c_thrown) (c_taped := c_taped) (c_at := c_at) (c_part := c_part) (c_partFrom := c_partFrom) (c_partNumber := c_partNumber) (c_wrong := c_wrong) (c_partWord := c_partWord) (c_readLaw := c_readLaw) (c_readBound := c_readBound) (c_readGoal := c_readGoal) (c_readSites := c_readSites) (c_scripts := c_scripts) (c_sites := c_sites) (c_asked := c_asked) (c_outcome := c_outcome) (c_took := c_took) (c_acts := c_acts) (c_drawn := c_drawn) (c_racer := c_racer) (c_raced := c_raced) (c_spelledMany := c_spelledMany) (c_hasImage := c_hasImage) (c_now := c_now) hc_2) (cwV 1 hts g_f_X8_pointX_f_X8_sum_199 rfl rfl rfl hd_X8_sum ⟨Nat.le_of_ble_eq_true rfl, Nat.le_of_ble_eq_true rfl⟩) ⟨pP.blind, hrc, (pP.pre ⟨hK, hN⟩ hPc)⟩ rfl rfl hl.1 rfl (lv_room (Nat.le_of_ble_eq_true rfl)) dX8_pointX_3 ⟨Nat.le_of_ble_eq_true rfl, Nat.le_of_ble_eq_true rfl⟩) ?_
  refine lv_aload_n hx hb dX8_pointX_6 rfl (lv_at hl 0 rfl) ?_
  refine gt_X8_19 (v := .int c_sites) hx hb hts i_f_X8_pointX_X8 hown hK hP 0 rfl (hts (.fieldLink RX8 196 "HushWatchModel" "sites" "I") (List.mem_of_getElem? (i := 1) rfl)) rfl dX8_pointX_7 ?_
  refine lv_iload_n hx hb dX8_pointX_10 rfl (lv_at hl 1 rfl) ?_
  refine lv_imul hx hb dX8_pointX_11 ?_
  refine lv_iadd hx hb dX8_pointX_12 ?_
  rw [hQ]
  obtain e9_0 := inj1 hF
  exact W.iret (v := r_1 + (c_sites * p1)) hx hb hr (fun tt ht hW => ⟨_, rfl, e9_0, ht⟩) (fun _ h => by cases h) dX8_pointX_13

def F_X8_pointY (K : Nat) (p1 : Int32) (c_now : Nat → Int32) (c_sites : Int32) : Option (Int32) :=
  bd1 (F_X8_sum K (24 : Int32) c_now c_sites) (fun r_1 => some (r_1 + (c_sites * p1)))
abbrev w_X8_pointY (E : EE) (a_ a_tape a_readPlace a_script a_scriptLong a_now a_refused a_shareX a_shareY a_askedRow a_kept a_aside a_spelled a_image : Nat) (c_thrown : Int32) (c_taped : Int32) (c_at : Int32) (c_part : Int32) (c_partFrom : Int32) (c_partNumber : Int32) (c_wrong : Int32) (c_partWord : Int64) (c_readLaw : Int32) (c_readBound : Int32) (c_readGoal : Int32) (c_readSites : Int32) (c_scripts : Int32) (c_sites : Int32) (c_asked : Int32) (c_outcome : Int32) (c_took : Int32) (c_acts : Int32) (c_drawn : Int64) (c_racer : Int32) (c_raced : Int32) (c_spelledMany : Int32) (c_hasImage : Int32) (c_now : Nat → Int32) : va_W := [(a_, .inr (9, [.int c_thrown, .ref a_tape, .int c_taped, .int c_at, .int c_part, .int c_partFrom, .int c_partNumber, .int c_wrong, .long c_partWord, .int c_readLaw, .int c_readBound, .int c_readGoal, .int c_readSites, .ref a_readPlace, .ref a_script, .ref a_scriptLong, .int c_scripts, .ref a_now, .ref a_refused, .int c_sites, .ref a_shareX, .ref a_shareY, .int c_asked, .int c_outcome, .ref a_askedRow, .int c_took, .ref a_kept, .int c_acts, .long c_drawn, .ref a_aside, .int c_racer, .int c_raced, .ref a_spelled, .int c_spelledMany, .ref a_image, .int c_hasImage])), (a_now, .inl (E.2.1, 265, .inl c_now))]
def v_f_X8_pointY : List Cond := List.cons (.code yX8_pointY cX8_pointY 2 (some .int)) (HAppend.hAppend (α := List Cond) (β := List Cond) (γ := List Cond) [.fieldLink RX8 196 "HushWatchModel" "sites" "I", .methodLink RX8 199 yX8_sum, .instanceMethod yX8_sum, .selects RX8 yX8_sum yX8_sum, .initialized RX8] (HAppend.hAppend (α := List Cond) (β := List Cond) (γ := List Cond) v_f_X8_sum (HAppend.hAppend (α := List Cond) (β := List Cond) (γ := List Cond) wsX80 [])))
theorem gw_f_X8_pointY : v_f_X8_pointY.all goodWord = true := by decide +kernel
theorem i_f_X8_pointY_X8 : ∀ w ∈ wsX80, w ∈ v_f_X8_pointY := fun _ h => List.mem_cons_of_mem _ (List.mem_append_right _ (List.mem_append_right _ (List.mem_append_left _ h)))
theorem g_f_X8_pointY_f_X8_sum_199 : GoodIn v_f_X8_pointY (wsV RX8 199 RX8 yX8_sum v_f_X8_sum) := goodIn_app (goodIn_of _ (by decide +kernel)) (goodIn_sub (fun _ h => List.mem_cons_of_mem _ (List.mem_append_right _ (List.mem_append_left _ h))) gw_f_X8_sum)
theorem hd_X8_pointY : yX8_pointY.cls = RX8 ∧ yX8_pointY.cls ≠ "java/lang/invoke/MethodHandle" ∧ yX8_pointY.cls ≠ "java/lang/invoke/VarHandle" ∧ (parseMethodDescriptor yX8_pointY.desc).map (fun d => d.parameters.length) = some 1 := by decide +kernel
set_option maxHeartbeats 4000000 in
set_option maxRecDepth 100000 in
theorem f_X8_pointY (l : Launch) (E : EE) (K : Nat) {a_ a_tape a_readPlace a_script a_scriptLong a_now a_refused a_shareX a_shareY a_askedRow a_kept a_aside a_spelled a_image : Nat} {p1 : Int32} {c_thrown : Int32} {c_taped : Int32} {c_at : Int32} {c_part : Int32} {c_partFrom : Int32} {c_partNumber : Int32} {c_wrong : Int32} {c_partWord : Int64} {c_readLaw : Int32} {c_readBound : Int32} {c_readGoal : Int32} {c_readSites : Int32} {c_scripts : Int32} {c_sites : Int32} {c_asked : Int32} {c_outcome : Int32} {c_took : Int32} {c_acts : Int32} {c_drawn : Int64} {c_racer : Int32} {c_raced : Int32} {c_spelledMany : Int32} {c_hasImage : Int32} {c_now : Nat → Int32} {rr : Int32} (hF : F_X8_pointY K p1 c_now c_sites = some rr) : Met l yX8_pointY v_f_X8_pointY (({ frames := 1, cells := 0, slots := 0, locals := 23 } : Room)) (va_Pc [.ref a_, .int p1] (pP E (w_X8_pointY E a_ a_tape a_readPlace a_script a_scriptLong a_now a_refused a_shareX a_shareY a_askedRow a_kept a_aside a_spelled a_image c_thrown c_taped c_at c_part c_partFrom c_partNumber c_wrong c_partWord c_readLaw c_readBound c_readGoal c_readSites c_scripts c_sites c_asked c_outcome c_took c_acts c_drawn c_racer c_raced c_spelledMany c_hasImage c_now))) (vp_Si (fun q : Int32 => q = rr)) 0 0 (fun _ => False) := by
  refine Met.ofW (cc := cX8_pointY) (maxL := 2) (ret := (some .int)) (by decide) rfl ?_
  intro p e s m args below meth c s₁ B hml hv
  obtain ⟨rfl, ⟨hK, hN⟩, hP⟩ := hv
  have hx := B.exec
  have hb := B.bytes
  have hr := B.returns
  have hts := atoms_spec (ws := v_f_X8_pointY) B.pre
  have hown : s.vm.findClass RX8 = some m.cls := own_of hd_X8_pointY.1 (findClass_of_methodNamed B.named)
  have hlocks : meth.locks = false := B.notSynchronized
  replace hP : va_P E.1 vwCl [(a_, .inr (9, [.int c_thrown, .ref a_tape, .int c_taped, .int c_at, .int c_part, .int c_partFrom, .int c_partNumber, .int c_wrong, .long c_partWord, .int c_readLaw, .int c_readBound, .int c_readGoal, .int c_readSites, .ref a_readPlace, .ref a_script, .ref a_scriptLong, .int c_scripts, .ref a_now, .ref a_refused, .int c_sites, .ref a_shareX, .ref a_shareY, .int c_asked, .int c_outcome, .ref a_askedRow, .int c_took, .ref a_kept, .int c_acts, .long c_drawn, .ref a_aside, .int c_racer, .int c_raced, .ref a_spelled, .int c_spelledMany, .ref a_image, .int c_hasImage])), (a_now, .inl (E.2.1, 265, .inl c_now))] s.heap := hP
  have hl := lv_entry ([.ref a_, .int p1]) (n := 2) (Nat.le_of_ble_eq_true rfl)
  rw [lg_entry_eq]
  generalize (lg_sl ([.ref a_, .int p1]) ++ List.replicate (2 - (lg_sl ([.ref a_, .int p1])).length) Slot.unset).toArray = ls at hl ⊢
  have hl : lv_has ls 2 [(0, .ref a_), (1, .int p1)] := hl
  obtain ⟨Q, hQ⟩ : ∃ Q : State → Prop, Q = MQ below (vp_Si (fun q : Int32 => q = rr)) #[Value.ref a_, Value.int p1] s 0 0 (fun _ => False) := ⟨_, rfl⟩
  rw [← hQ]
  change W p l e ({ frames := 1, cells := 0, slots := 0, locals := 23 } : Room) s m #[Value.ref a_, Value.int p1] below meth c s.heap [] 0 0 Q (F0 m 0 ls [])
  unfold F_X8_pointY at hF
  refine lv_aload_n hx hb dX8_pointY_0 rfl (lv_at hl 0 rfl) ?_
  refine lv_bipush (v := 24) hx hb dX8_pointY_1 (by decide) ?_
  replace hF := bd1_s hF
  obtain ⟨r_1, hc_2, hF⟩ := hF
  have hPc : va_P E.1 vwCl (w_X8_sum E a_ a_tape a_readPlace a_script a_scriptLong a_now a_refused a_shareX a_shareY a_askedRow a_kept a_aside a_spelled a_image c_thrown c_taped c_at c_part c_partFrom c_partNumber c_wrong c_partWord c_readLaw c_readBound c_readGoal c_readSites c_scripts c_sites c_asked c_outcome c_took c_acts c_drawn c_racer c_raced c_spelledMany c_hasImage c_now) s.heap := hP.sub (ws' := [(a_, .inr (9, [.int c_thrown, .ref a_tape, .int c_taped, .int c_at, .int c_part, .int c_partFrom, .int c_partNumber, .int c_wrong, .long c_partWord, .int c_readLaw, .int c_readBound, .int c_readGoal, .int c_readSites, .ref a_readPlace, .ref a_script, .ref a_scriptLong, .int c_scripts, .ref a_now, .ref a_refused, .int c_sites, .ref a_shareX, .ref a_shareY, .int c_asked, .int c_outcome, .ref a_askedRow, .int c_took, .ref a_kept, .int c_acts, .long c_drawn, .ref a_aside, .int c_racer, .int c_raced, .ref a_spelled, .int c_spelledMany, .ref a_image, .int c_hasImage])), (a_now, .inl (E.2.1, 265, .inl c_now))]) [0, 1] rfl
  have hrc := va_recv hK hPc (ci := 9) (q0 := 0) rfl rfl
  refine pE_i (va_runV (As := [.int (24 : Int32)]) (rest := [])  ⟨hx, hb, hml, hown, hts⟩ (f_X8_sum l E K (a_ := a_) (a_tape := a_tape) (a_readPlace := a_readPlace) (a_script := a_script) (a_scriptLong := a_scriptLong) (a_now := a_now) (a_refused := a_refused) (a_shareX := a_shareX) (a_shareY := a_shareY) (a_askedRow := a_askedRow) (a_kept := a_kept) (a_aside := a_aside) (a_spelled := a_spelled) (a_image := a_image) (p1 := (24 : Int32)) (c_thrown := c_thrown) (c_taped := c_taped) (c_at := c_at) (c_part := c_part) (c_partFrom := c_partFrom) (c_partNumber := c_partNumber) (c_wrong := c_wrong) (c_partWord := c_partWord) (c_readLaw := c_readLaw) (c_readBound := c_readBound) (c_readGoal := c_readGoal) (c_readSites := c_readSites) (c_scripts := c_scripts) (c_sites := c_sites) (c_asked := c_asked) (c_outcome := c_outcome) (c_took := c_took) (c_acts := c_acts) (c_drawn := c_drawn) (c_racer := c_racer) (c_raced := c_raced) (c_spelledMany := c_spelledMany) (c_hasImage := c_hasImage) (c_now := c_now) hc_2) (cwV 1 hts g_f_X8_pointY_f_X8_sum_199 rfl rfl rfl hd_X8_sum ⟨Nat.le_of_ble_eq_true rfl, Nat.le_of_ble_eq_true rfl⟩) ⟨pP.blind, hrc, (pP.pre ⟨hK, hN⟩ hPc)⟩ rfl rfl hl.1 rfl (lv_room (Nat.le_of_ble_eq_true rfl)) dX8_pointY_3 ⟨Nat.le_of_ble_eq_true rfl, Nat.le_of_ble_eq_true rfl⟩) ?_
  refine lv_aload_n hx hb dX8_pointY_6 rfl (lv_at hl 0 rfl) ?_
  refine gt_X8_19 (v := .int c_sites) hx hb hts i_f_X8_pointY_X8 hown hK hP 0 rfl (hts (.fieldLink RX8 196 "HushWatchModel" "sites" "I") (List.mem_of_getElem? (i := 1) rfl)) rfl dX8_pointY_7 ?_
  refine lv_iload_n hx hb dX8_pointY_10 rfl (lv_at hl 1 rfl) ?_
  refine lv_imul hx hb dX8_pointY_11 ?_
  refine lv_iadd hx hb dX8_pointY_12 ?_
  rw [hQ]
  obtain e9_0 := inj1 hF
  exact W.iret (v := r_1 + (c_sites * p1)) hx hb hr (fun tt ht hW => ⟨_, rfl, e9_0, ht⟩) (fun _ h => by cases h) dX8_pointY_13

def J_X8_valueOf_26 (p1 : Int64) (p2 : Int64) (c_now : Nat → Int32) (k0 : Int64) (x5 : Int64) : Option (Int64) :=
  if (c_now 64) = (0 : Int32) then some (p1 + p2) else if (c_now 64) = (1 : Int32) then some ((p1 * p1) + (p2 * p2)) else if (c_now 64) = (2 : Int32) then if lg_cmp x5 k0 ≤ (0 : Int32) then some k0 else some x5 else some (x5 + k0)
def J_X8_valueOf_12 (p1 : Int64) (p2 : Int64) (c_now : Nat → Int32) (k0 : Int64) : Option (Int64) :=
  if (0 : Int32) ≤ lg_cmp p2 (0 : Int64) then J_X8_valueOf_26 p1 p2 c_now p2 k0 else J_X8_valueOf_26 p1 p2 c_now (-p2) k0
def F_X8_valueOf (p1 : Int64) (p2 : Int64) (c_now : Nat → Int32) : Option (Int64) :=
  if (0 : Int32) ≤ lg_cmp p1 (0 : Int64) then J_X8_valueOf_12 p1 p2 c_now p1 else J_X8_valueOf_12 p1 p2 c_now (-p1)
abbrev w_X8_valueOf (E : EE) (a_ a_tape a_readPlace a_script a_scriptLong a_now a_refused a_shareX a_shareY a_askedRow a_kept a_aside a_spelled a_image : Nat) (c_thrown : Int32) (c_taped : Int32) (c_at : Int32) (c_part : Int32) (c_partFrom : Int32) (c_partNumber : Int32) (c_wrong : Int32) (c_partWord : Int64) (c_readLaw : Int32) (c_readBound : Int32) (c_readGoal : Int32) (c_readSites : Int32) (c_scripts : Int32) (c_sites : Int32) (c_asked : Int32) (c_outcome : Int32) (c_took : Int32) (c_acts : Int32) (c_drawn : Int64) (c_racer : Int32) (c_raced : Int32) (c_spelledMany : Int32) (c_hasImage : Int32) (c_now : Nat → Int32) : va_W := [(a_, .inr (9, [.int c_thrown, .ref a_tape, .int c_taped, .int c_at, .int c_part, .int c_partFrom, .int c_partNumber, .int c_wrong, .long c_partWord, .int c_readLaw, .int c_readBound, .int c_readGoal, .int c_readSites, .ref a_readPlace, .ref a_script, .ref a_scriptLong, .int c_scripts, .ref a_now, .ref a_refused, .int c_sites, .ref a_shareX, .ref a_shareY, .int c_asked, .int c_outcome, .ref a_askedRow, .int c_took, .ref a_kept, .int c_acts, .long c_drawn, .ref a_aside, .int c_racer, .int c_raced, .ref a_spelled, .int c_spelledMany, .ref a_image, .int c_hasImage])), (a_now, .inl (E.2.1, 265, .inl c_now))]
def v_f_X8_valueOf : List Cond := List.cons (.code yX8_valueOf cX8_valueOf 9 (some .long)) (HAppend.hAppend (α := List Cond) (β := List Cond) (γ := List Cond) [.fieldLink RX8 22 "HushWatchModel" "now" "[I"] (HAppend.hAppend (α := List Cond) (β := List Cond) (γ := List Cond) wsX80 []))
theorem gw_f_X8_valueOf : v_f_X8_valueOf.all goodWord = true := by decide +kernel
theorem i_f_X8_valueOf_X8 : ∀ w ∈ wsX80, w ∈ v_f_X8_valueOf := fun _ h => List.mem_cons_of_mem _ (List.mem_append_right _ (List.mem_append_left _ h))
theorem hd_X8_valueOf : yX8_valueOf.cls = RX8 ∧ yX8_valueOf.cls ≠ "java/lang/invoke/MethodHandle" ∧ yX8_valueOf.cls ≠ "java/lang/invoke/VarHandle" ∧ (parseMethodDescriptor yX8_valueOf.desc).map (fun d => d.parameters.length) = some 2 := by decide +kernel
set_option maxHeartbeats 4000000 in
set_option maxRecDepth 100000 in
theorem j_X8_valueOf_26 {p : Program} (l : Launch) {e : Env} {s : State} {m : MethodId} {below : List Frame} {meth : Method} {c : Code} {Q : State → Prop} (E : EE) {a_ a_tape a_readPlace a_script a_scriptLong a_now a_refused a_shareX a_shareY a_askedRow a_kept a_aside a_spelled a_image : Nat} {p1 : Int64} {p2 : Int64} {c_thrown : Int32} {c_taped : Int32} {c_at : Int32} {c_part : Int32} {c_partFrom : Int32} {c_partNumber : Int32} {c_wrong : Int32} {c_partWord : Int64} {c_readLaw : Int32} {c_readBound : Int32} {c_readGoal : Int32} {c_readSites : Int32} {c_scripts : Int32} {c_sites : Int32} {c_asked : Int32} {c_outcome : Int32} {c_took : Int32} {c_acts : Int32} {c_drawn : Int64} {c_racer : Int32} {c_raced : Int32} {c_spelledMany : Int32} {c_hasImage : Int32} {c_now : Nat → Int32} {k0 : Int64} {x5 : Int64} (hx : p.tables.exec = Jvm.exec) (hb : c.code = cX8_valueOf) (hml : c.maxLocals = 9) (hown : s.vm.findClass RX8 = some m.cls) (hts : ∀ w ∈ v_f_X8_valueOf, w.before #[Value.ref a_, Value.long p1, Value.long p2] s = true) (hK : va_K E.1 vwCl (TY E) s) (hN : NX s) {rr : Int64} (hr : meth.sig.returnType = (some .long)) (hlocks : meth.locks = false) (hQ : Q = MQ below (vp_Sl (fun q : Int64 => q = rr)) #[Value.ref a_, Value.long p1, Value.long p2] s 0 0 (fun _ => False)) (hF : J_X8_valueOf_26 p1 p2 c_now k0 x5 = some rr) (hP : va_P E.1 vwCl (w_X8_valueOf E a_ a_tape a_readPlace a_script a_scriptLong a_now a_refused a_shareX a_shareY a_askedRow a_kept a_aside a_spelled a_image c_thrown c_taped c_at c_part c_partFrom c_partNumber c_wrong c_partWord c_readLaw c_readBound c_readGoal c_readSites c_scripts c_sites c_asked c_outcome c_took c_acts c_drawn c_racer c_raced c_spelledMany c_hasImage c_now) s.heap) : ∀ (ls : Array Slot), lv_has ls 9 [(0, .ref a_), (1, .long p1), (3, .long p2), (5, .long x5)] → W p l e ({ frames := 0, cells := 0, slots := 0, locals := 0 } : Room) s m #[Value.ref a_, Value.long p1, Value.long p2] below meth c s.heap [] 0 0 Q (F0 m 26 ls [.long k0]) := by
  unfold J_X8_valueOf_26 at hF
  replace hP : va_P E.1 vwCl [(a_, .inr (9, [.int c_thrown, .ref a_tape, .int c_taped, .int c_at, .int c_part, .int c_partFrom, .int c_partNumber, .int c_wrong, .long c_partWord, .int c_readLaw, .int c_readBound, .int c_readGoal, .int c_readSites, .ref a_readPlace, .ref a_script, .ref a_scriptLong, .int c_scripts, .ref a_now, .ref a_refused, .int c_sites, .ref a_shareX, .ref a_shareY, .int c_asked, .int c_outcome, .ref a_askedRow, .int c_took, .ref a_kept, .int c_acts, .long c_drawn, .ref a_aside, .int c_racer, .int c_raced, .ref a_spelled, .int c_spelledMany, .ref a_image, .int c_hasImage])), (a_now, .inl (E.2.1, 265, .inl c_now))] s.heap := hP
  intro ls hl
  refine lv_lstore (lv' := [(7, .long k0), (0, .ref a_), (1, .long p1), (3, .long p2), (5, .long x5)]) hx hb dX8_valueOf_26 hl (by decide) rfl (fun ls hl => ?_)
  refine lv_aload_n hx hb dX8_valueOf_28 rfl (lv_at hl 1 rfl) ?_
  refine gt_X8_17 (v := .ref a_now) hx hb hts i_f_X8_valueOf_X8 hown hK hP 0 rfl (hts (.fieldLink RX8 22 "HushWatchModel" "now" "[I") (List.mem_of_getElem? (i := 1) rfl)) rfl dX8_valueOf_29 ?_
  refine lv_bipush (v := 64) hx hb dX8_valueOf_32 (by decide) ?_
  refine va_iald hx hb hK hP 1 0 rfl rfl (vin rfl) dX8_valueOf_34 ?_
  refine W.eq (g2 := F0 m 35 ls [.int (c_now 64)]) rfl ?_
  rcases Classical.em ((c_now 64) = (0 : Int32)) with c_3_0 | c_3_0
  ·
    replace hF := ip c_3_0 hF
    refine lv_tableIn (off := 25) (tgt := 60) hx hb dX8_valueOf_35 (by rw [c_3_0]; decide) (by rw [c_3_0]; decide) (by rw [c_3_0]; decide) (by decide) ?_
    refine lv_lload_n hx hb dX8_valueOf_60 rfl (lv_at hl 2 rfl) ?_
    refine lv_lload_n hx hb dX8_valueOf_61 rfl (lv_at hl 3 rfl) ?_
    refine lv_ladd hx hb dX8_valueOf_62 ?_
    rw [hQ]
    obtain e9_0 := inj1 hF
    exact W.lret (v := p1 + p2) hx hb hr (fun tt ht hW => ⟨_, rfl, e9_0, ht⟩) (fun _ h => by cases h) dX8_valueOf_63
  replace hF := inn c_3_0 hF
  rcases Classical.em ((c_now 64) = (1 : Int32)) with c_3_1 | c_3_1
  ·
    replace hF := ip c_3_1 hF
    refine lv_tableIn (off := 29) (tgt := 64) hx hb dX8_valueOf_35 (by rw [c_3_1]; decide) (by rw [c_3_1]; decide) (by rw [c_3_1]; decide) (by decide) ?_
    refine lv_lload_n hx hb dX8_valueOf_64 rfl (lv_at hl 2 rfl) ?_
    refine lv_lload_n hx hb dX8_valueOf_65 rfl (lv_at hl 2 rfl) ?_
    refine lv_lmul hx hb dX8_valueOf_66 ?_
    refine lv_lload_n hx hb dX8_valueOf_67 rfl (lv_at hl 3 rfl) ?_
    refine lv_lload_n hx hb dX8_valueOf_68 rfl (lv_at hl 3 rfl) ?_
    refine lv_lmul hx hb dX8_valueOf_69 ?_
    refine lv_ladd hx hb dX8_valueOf_70 ?_
    rw [hQ]
    obtain e9_0 := inj1 hF
    exact W.lret (v := (p1 * p1) + (p2 * p2)) hx hb hr (fun tt ht hW => ⟨_, rfl, e9_0, ht⟩) (fun _ h => by cases h) dX8_valueOf_71
  replace hF := inn c_3_1 hF
  rcases Classical.em ((c_now 64) = (2 : Int32)) with c_3_2 | c_3_2
  ·
    replace hF := ip c_3_2 hF
    refine lv_tableIn (off := 37) (tgt := 72) hx hb dX8_valueOf_35 (by rw [c_3_2]; decide) (by rw [c_3_2]; decide) (by rw [c_3_2]; decide) (by decide) ?_
    refine lv_lload hx hb dX8_valueOf_72 (lv_at hl 4 rfl) ?_
    refine lv_lload hx hb dX8_valueOf_74 (lv_at hl 0 rfl) ?_
    refine W.lcmp hx hb dX8_valueOf_76 ?_
    refine lv_if_le (tgt := 85) hx hb dX8_valueOf_77 (by decide) (fun c_4 => ?_) (fun c_4 => ?_)
    ·
      replace hF := ip c_4 hF
      refine lv_lload hx hb dX8_valueOf_85 (lv_at hl 0 rfl) ?_
      rw [hQ]
      obtain e9_0 := inj1 hF
      exact W.lret (v := k0) hx hb hr (fun tt ht hW => ⟨_, rfl, e9_0, ht⟩) (fun _ h => by cases h) dX8_valueOf_87
    ·
      replace hF := inn c_4 hF
      refine lv_lload hx hb dX8_valueOf_80 (lv_at hl 4 rfl) ?_
      refine lv_goto (tgt := 87) hx hb dX8_valueOf_82 (by decide) ?_
      rw [hQ]
      obtain e9_0 := inj1 hF
      exact W.lret (v := x5) hx hb hr (fun tt ht hW => ⟨_, rfl, e9_0, ht⟩) (fun _ h => by cases h) dX8_valueOf_87
  replace hF := inn c_3_2 hF
  refine lv_tableOut (tgt := 88) hx hb dX8_valueOf_35 (by have t0 : (0 : Int32).toInt = 0 := (by decide); have t1 : (1 : Int32).toInt = 1 := (by decide); have t2 : (2 : Int32).toInt = 2 := (by decide); simp only [← Int32.toInt_inj, t0, t1, t2] at c_3_0 c_3_1 c_3_2; omega) (by decide) ?_
  refine lv_lload hx hb dX8_valueOf_88 (lv_at hl 4 rfl) ?_
  refine lv_lload hx hb dX8_valueOf_90 (lv_at hl 0 rfl) ?_
  refine lv_ladd hx hb dX8_valueOf_92 ?_
  rw [hQ]
  obtain e9_0 := inj1 hF
  exact W.lret (v := x5 + k0) hx hb hr (fun tt ht hW => ⟨_, rfl, e9_0, ht⟩) (fun _ h => by cases h) dX8_valueOf_93

set_option maxHeartbeats 4000000 in
set_option maxRecDepth 100000 in
theorem j_X8_valueOf_12 {p : Program} (l : Launch) {e : Env} {s : State} {m : MethodId} {below : List Frame} {meth : Method} {c : Code} {Q : State → Prop} (E : EE) {a_ a_tape a_readPlace a_script a_scriptLong a_now a_refused a_shareX a_shareY a_askedRow a_kept a_aside a_spelled a_image : Nat} {p1 : Int64} {p2 : Int64} {c_thrown : Int32} {c_taped : Int32} {c_at : Int32} {c_part : Int32} {c_partFrom : Int32} {c_partNumber : Int32} {c_wrong : Int32} {c_partWord : Int64} {c_readLaw : Int32} {c_readBound : Int32} {c_readGoal : Int32} {c_readSites : Int32} {c_scripts : Int32} {c_sites : Int32} {c_asked : Int32} {c_outcome : Int32} {c_took : Int32} {c_acts : Int32} {c_drawn : Int64} {c_racer : Int32} {c_raced : Int32} {c_spelledMany : Int32} {c_hasImage : Int32} {c_now : Nat → Int32} {k0 : Int64} (hx : p.tables.exec = Jvm.exec) (hb : c.code = cX8_valueOf) (hml : c.maxLocals = 9) (hown : s.vm.findClass RX8 = some m.cls) (hts : ∀ w ∈ v_f_X8_valueOf, w.before #[Value.ref a_, Value.long p1, Value.long p2] s = true) (hK : va_K E.1 vwCl (TY E) s) (hN : NX s) {rr : Int64} (hr : meth.sig.returnType = (some .long)) (hlocks : meth.locks = false) (hQ : Q = MQ below (vp_Sl (fun q : Int64 => q = rr)) #[Value.ref a_, Value.long p1, Value.long p2] s 0 0 (fun _ => False)) (hF : J_X8_valueOf_12 p1 p2 c_now k0 = some rr) (hP : va_P E.1 vwCl (w_X8_valueOf E a_ a_tape a_readPlace a_script a_scriptLong a_now a_refused a_shareX a_shareY a_askedRow a_kept a_aside a_spelled a_image c_thrown c_taped c_at c_part c_partFrom c_partNumber c_wrong c_partWord c_readLaw c_readBound c_readGoal c_readSites c_scripts c_sites c_asked c_outcome c_took c_acts c_drawn c_racer c_raced c_spelledMany c_hasImage c_now) s.heap) : ∀ (ls : Array Slot), lv_has ls 9 [(0, .ref a_), (1, .long p1), (3, .long p2)] → W p l e ({ frames := 0, cells := 0, slots := 0, locals := 0 } : Room) s m #[Value.ref a_, Value.long p1, Value.long p2] below meth c s.heap [] 0 0 Q (F0 m 12 ls [.long k0]) := by
  unfold J_X8_valueOf_12 at hF
  replace hP : va_P E.1 vwCl [(a_, .inr (9, [.int c_thrown, .ref a_tape, .int c_taped, .int c_at, .int c_part, .int c_partFrom, .int c_partNumber, .int c_wrong, .long c_partWord, .int c_readLaw, .int c_readBound, .int c_readGoal, .int c_readSites, .ref a_readPlace, .ref a_script, .ref a_scriptLong, .int c_scripts, .ref a_now, .ref a_refused, .int c_sites, .ref a_shareX, .ref a_shareY, .int c_asked, .int c_outcome, .ref a_askedRow, .int c_took, .ref a_kept, .int c_acts, .long c_drawn, .ref a_aside, .int c_racer, .int c_raced, .ref a_spelled, .int c_spelledMany, .ref a_image, .int c_hasImage])), (a_now, .inl (E.2.1, 265, .inl c_now))] s.heap := hP
  intro ls hl
  refine lv_lstore (lv' := [(5, .long k0), (0, .ref a_), (1, .long p1), (3, .long p2)]) hx hb dX8_valueOf_12 hl (by decide) rfl (fun ls hl => ?_)
  refine lv_lload_n hx hb dX8_valueOf_14 rfl (lv_at hl 3 rfl) ?_
  refine lv_lconst (v := 0) hx hb dX8_valueOf_15 (by decide) ?_
  refine W.lcmp hx hb dX8_valueOf_16 ?_
  refine lv_if_ge (tgt := 25) hx hb dX8_valueOf_17 (by decide) (fun c_2 => ?_) (fun c_2 => ?_)
  ·
    replace hF := ip c_2 hF
    refine lv_lload_n hx hb dX8_valueOf_25 rfl (lv_at hl 3 rfl) ?_
    exact j_X8_valueOf_26 l E (p1 := p1) (p2 := p2) (c_thrown := c_thrown) (c_taped := c_taped) (c_at := c_at) (c_part := c_part) (c_partFrom := c_partFrom) (c_partNumber := c_partNumber) (c_wrong := c_wrong) (c_partWord := c_partWord) (c_readLaw := c_readLaw) (c_readBound := c_readBound) (c_readGoal := c_readGoal) (c_readSites := c_readSites) (c_scripts := c_scripts) (c_sites := c_sites) (c_asked := c_asked) (c_outcome := c_outcome) (c_took := c_took) (c_acts := c_acts) (c_drawn := c_drawn) (c_racer := c_racer) (c_raced := c_raced) (c_spelledMany := c_spelledMany) (c_hasImage := c_hasImage) (c_now := c_now) (k0 := p2) (x5 := k0) hx hb hml hown hts hK hN hr hlocks hQ hF hP ls (lv_sub hl [1, 2, 3, 0] rfl)
  ·
    replace hF := inn c_2 hF
    refine lv_lload_n hx hb dX8_valueOf_20 rfl (lv_at hl 3 rfl) ?_
    refine lv_lneg hx hb dX8_valueOf_21 ?_
    refine lv_goto (tgt := 26) hx hb dX8_valueOf_22 (by decide) ?_
    exact j_X8_valueOf_26 l E (p1 := p1) (p2 := p2) (c_thrown := c_thrown) (c_taped := c_taped) (c_at := c_at) (c_part := c_part) (c_partFrom := c_partFrom) (c_partNumber := c_partNumber) (c_wrong := c_wrong) (c_partWord := c_partWord) (c_readLaw := c_readLaw) (c_readBound := c_readBound) (c_readGoal := c_readGoal) (c_readSites := c_readSites) (c_scripts := c_scripts) (c_sites := c_sites) (c_asked := c_asked) (c_outcome := c_outcome) (c_took := c_took) (c_acts := c_acts) (c_drawn := c_drawn) (c_racer := c_racer) (c_raced := c_raced) (c_spelledMany := c_spelledMany) (c_hasImage := c_hasImage) (c_now := c_now) (k0 := -p2) (x5 := k0) hx hb hml hown hts hK hN hr hlocks hQ hF hP ls (lv_sub hl [1, 2, 3, 0] rfl)

set_option maxHeartbeats 4000000 in
set_option maxRecDepth 100000 in
theorem f_X8_valueOf (l : Launch) (E : EE) {a_ a_tape a_readPlace a_script a_scriptLong a_now a_refused a_shareX a_shareY a_askedRow a_kept a_aside a_spelled a_image : Nat} {p1 : Int64} {p2 : Int64} {c_thrown : Int32} {c_taped : Int32} {c_at : Int32} {c_part : Int32} {c_partFrom : Int32} {c_partNumber : Int32} {c_wrong : Int32} {c_partWord : Int64} {c_readLaw : Int32} {c_readBound : Int32} {c_readGoal : Int32} {c_readSites : Int32} {c_scripts : Int32} {c_sites : Int32} {c_asked : Int32} {c_outcome : Int32} {c_took : Int32} {c_acts : Int32} {c_drawn : Int64} {c_racer : Int32} {c_raced : Int32} {c_spelledMany : Int32} {c_hasImage : Int32} {c_now : Nat → Int32} {rr : Int64} (hF : F_X8_valueOf p1 p2 c_now = some rr) : Met l yX8_valueOf v_f_X8_valueOf (({ frames := 0, cells := 0, slots := 0, locals := 0 } : Room)) (va_Pc [.ref a_, .long p1, .long p2] (pP E (w_X8_valueOf E a_ a_tape a_readPlace a_script a_scriptLong a_now a_refused a_shareX a_shareY a_askedRow a_kept a_aside a_spelled a_image c_thrown c_taped c_at c_part c_partFrom c_partNumber c_wrong c_partWord c_readLaw c_readBound c_readGoal c_readSites c_scripts c_sites c_asked c_outcome c_took c_acts c_drawn c_racer c_raced c_spelledMany c_hasImage c_now))) (vp_Sl (fun q : Int64 => q = rr)) 0 0 (fun _ => False) := by
  refine Met.ofW (cc := cX8_valueOf) (maxL := 9) (ret := (some .long)) (by decide) rfl ?_
  intro p e s m args below meth c s₁ B hml hv
  obtain ⟨rfl, ⟨hK, hN⟩, hP⟩ := hv
  have hx := B.exec
  have hb := B.bytes
  have hr := B.returns
  have hts := atoms_spec (ws := v_f_X8_valueOf) B.pre
  have hown : s.vm.findClass RX8 = some m.cls := own_of hd_X8_valueOf.1 (findClass_of_methodNamed B.named)
  have hlocks : meth.locks = false := B.notSynchronized
  replace hP : va_P E.1 vwCl [(a_, .inr (9, [.int c_thrown, .ref a_tape, .int c_taped, .int c_at, .int c_part, .int c_partFrom, .int c_partNumber, .int c_wrong, .long c_partWord, .int c_readLaw, .int c_readBound, .int c_readGoal, .int c_readSites, .ref a_readPlace, .ref a_script, .ref a_scriptLong, .int c_scripts, .ref a_now, .ref a_refused, .int c_sites, .ref a_shareX, .ref a_shareY, .int c_asked, .int c_outcome, .ref a_askedRow, .int c_took, .ref a_kept, .int c_acts, .long c_drawn, .ref a_aside, .int c_racer, .int c_raced, .ref a_spelled, .int c_spelledMany, .ref a_image, .int c_hasImage])), (a_now, .inl (E.2.1, 265, .inl c_now))] s.heap := hP
  have hl := lv_entry ([.ref a_, .long p1, .long p2]) (n := 9) (Nat.le_of_ble_eq_true rfl)
  rw [lg_entry_eq]
  generalize (lg_sl ([.ref a_, .long p1, .long p2]) ++ List.replicate (9 - (lg_sl ([.ref a_, .long p1, .long p2])).length) Slot.unset).toArray = ls at hl ⊢
  have hl : lv_has ls 9 [(0, .ref a_), (1, .long p1), (3, .long p2)] := hl
  obtain ⟨Q, hQ⟩ : ∃ Q : State → Prop, Q = MQ below (vp_Sl (fun q : Int64 => q = rr)) #[Value.ref a_, Value.long p1, Value.long p2] s 0 0 (fun _ => False) := ⟨_, rfl⟩
  rw [← hQ]
  change W p l e ({ frames := 0, cells := 0, slots := 0, locals := 0 } : Room) s m #[Value.ref a_, Value.long p1, Value.long p2] below meth c s.heap [] 0 0 Q (F0 m 0 ls [])
  unfold F_X8_valueOf at hF
  refine lv_lload_n hx hb dX8_valueOf_0 rfl (lv_at hl 1 rfl) ?_
  refine lv_lconst (v := 0) hx hb dX8_valueOf_1 (by decide) ?_
  refine W.lcmp hx hb dX8_valueOf_2 ?_
  refine lv_if_ge (tgt := 11) hx hb dX8_valueOf_3 (by decide) (fun c_1 => ?_) (fun c_1 => ?_)
  ·
    replace hF := ip c_1 hF
    refine lv_lload_n hx hb dX8_valueOf_11 rfl (lv_at hl 1 rfl) ?_
    exact j_X8_valueOf_12 l E (p1 := p1) (p2 := p2) (c_thrown := c_thrown) (c_taped := c_taped) (c_at := c_at) (c_part := c_part) (c_partFrom := c_partFrom) (c_partNumber := c_partNumber) (c_wrong := c_wrong) (c_partWord := c_partWord) (c_readLaw := c_readLaw) (c_readBound := c_readBound) (c_readGoal := c_readGoal) (c_readSites := c_readSites) (c_scripts := c_scripts) (c_sites := c_sites) (c_asked := c_asked) (c_outcome := c_outcome) (c_took := c_took) (c_acts := c_acts) (c_drawn := c_drawn) (c_racer := c_racer) (c_raced := c_raced) (c_spelledMany := c_spelledMany) (c_hasImage := c_hasImage) (c_now := c_now) (k0 := p1) hx hb hml hown hts hK hN hr hlocks hQ hF hP ls (lv_sub hl [0, 1, 2] rfl)
  ·
    replace hF := inn c_1 hF
    refine lv_lload_n hx hb dX8_valueOf_6 rfl (lv_at hl 1 rfl) ?_
    refine lv_lneg hx hb dX8_valueOf_7 ?_
    refine lv_goto (tgt := 12) hx hb dX8_valueOf_8 (by decide) ?_
    exact j_X8_valueOf_12 l E (p1 := p1) (p2 := p2) (c_thrown := c_thrown) (c_taped := c_taped) (c_at := c_at) (c_part := c_part) (c_partFrom := c_partFrom) (c_partNumber := c_partNumber) (c_wrong := c_wrong) (c_partWord := c_partWord) (c_readLaw := c_readLaw) (c_readBound := c_readBound) (c_readGoal := c_readGoal) (c_readSites := c_readSites) (c_scripts := c_scripts) (c_sites := c_sites) (c_asked := c_asked) (c_outcome := c_outcome) (c_took := c_took) (c_acts := c_acts) (c_drawn := c_drawn) (c_racer := c_racer) (c_raced := c_raced) (c_spelledMany := c_spelledMany) (c_hasImage := c_hasImage) (c_now := c_now) (k0 := -p1) hx hb hml hown hts hK hN hr hlocks hQ hF hP ls (lv_sub hl [0, 1, 2] rfl)

def F_X8_isAllowed (p1 : Int32) (p2 : Int32) (c_now : Nat → Int32) : Option (Int32) :=
  bd1 (F_X8_valueOf p1.toInt64 p2.toInt64 c_now) (fun r_1 => if (0 : Int32) ≤ lg_cmp r_1 ((c_now 65).toInt64) then some (0 : Int32) else some (1 : Int32))
abbrev w_X8_isAllowed (E : EE) (a_ a_tape a_readPlace a_script a_scriptLong a_now a_refused a_shareX a_shareY a_askedRow a_kept a_aside a_spelled a_image : Nat) (c_thrown : Int32) (c_taped : Int32) (c_at : Int32) (c_part : Int32) (c_partFrom : Int32) (c_partNumber : Int32) (c_wrong : Int32) (c_partWord : Int64) (c_readLaw : Int32) (c_readBound : Int32) (c_readGoal : Int32) (c_readSites : Int32) (c_scripts : Int32) (c_sites : Int32) (c_asked : Int32) (c_outcome : Int32) (c_took : Int32) (c_acts : Int32) (c_drawn : Int64) (c_racer : Int32) (c_raced : Int32) (c_spelledMany : Int32) (c_hasImage : Int32) (c_now : Nat → Int32) : va_W := [(a_, .inr (9, [.int c_thrown, .ref a_tape, .int c_taped, .int c_at, .int c_part, .int c_partFrom, .int c_partNumber, .int c_wrong, .long c_partWord, .int c_readLaw, .int c_readBound, .int c_readGoal, .int c_readSites, .ref a_readPlace, .ref a_script, .ref a_scriptLong, .int c_scripts, .ref a_now, .ref a_refused, .int c_sites, .ref a_shareX, .ref a_shareY, .int c_asked, .int c_outcome, .ref a_askedRow, .int c_took, .ref a_kept, .int c_acts, .long c_drawn, .ref a_aside, .int c_racer, .int c_raced, .ref a_spelled, .int c_spelledMany, .ref a_image, .int c_hasImage])), (a_now, .inl (E.2.1, 265, .inl c_now))]
def v_f_X8_isAllowed : List Cond := List.cons (.code yX8_isAllowed cX8_isAllowed 3 (some .boolean)) (HAppend.hAppend (α := List Cond) (β := List Cond) (γ := List Cond) [.fieldLink RX8 22 "HushWatchModel" "now" "[I", .methodLink RX8 218 yX8_valueOf, .instanceMethod yX8_valueOf, .selects RX8 yX8_valueOf yX8_valueOf, .initialized RX8] (HAppend.hAppend (α := List Cond) (β := List Cond) (γ := List Cond) v_f_X8_valueOf (HAppend.hAppend (α := List Cond) (β := List Cond) (γ := List Cond) wsX80 [])))
theorem gw_f_X8_isAllowed : v_f_X8_isAllowed.all goodWord = true := by decide +kernel
theorem i_f_X8_isAllowed_X8 : ∀ w ∈ wsX80, w ∈ v_f_X8_isAllowed := fun _ h => List.mem_cons_of_mem _ (List.mem_append_right _ (List.mem_append_right _ (List.mem_append_left _ h)))
theorem g_f_X8_isAllowed_f_X8_valueOf_218 : GoodIn v_f_X8_isAllowed (wsV RX8 218 RX8 yX8_valueOf v_f_X8_valueOf) := goodIn_app (goodIn_of _ (by decide +kernel)) (goodIn_sub (fun _ h => List.mem_cons_of_mem _ (List.mem_append_right _ (List.mem_append_left _ h))) gw_f_X8_valueOf)
theorem hd_X8_isAllowed : yX8_isAllowed.cls = RX8 ∧ yX8_isAllowed.cls ≠ "java/lang/invoke/MethodHandle" ∧ yX8_isAllowed.cls ≠ "java/lang/invoke/VarHandle" ∧ (parseMethodDescriptor yX8_isAllowed.desc).map (fun d => d.parameters.length) = some 2 := by decide +kernel
set_option maxHeartbeats 4000000 in
set_option maxRecDepth 100000 in
theorem f_X8_isAllowed (l : Launch) (E : EE) {a_ a_tape a_readPlace a_script a_scriptLong a_now a_refused a_shareX a_shareY a_askedRow a_kept a_aside a_spelled a_image : Nat} {p1 : Int32} {p2 : Int32} {c_thrown : Int32} {c_taped : Int32} {c_at : Int32} {c_part : Int32} {c_partFrom : Int32} {c_partNumber : Int32} {c_wrong : Int32} {c_partWord : Int64} {c_readLaw : Int32} {c_readBound : Int32} {c_readGoal : Int32} {c_readSites : Int32} {c_scripts : Int32} {c_sites : Int32} {c_asked : Int32} {c_outcome : Int32} {c_took : Int32} {c_acts : Int32} {c_drawn : Int64} {c_racer : Int32} {c_raced : Int32} {c_spelledMany : Int32} {c_hasImage : Int32} {c_now : Nat → Int32} {rr : Int32} (hF : F_X8_isAllowed p1 p2 c_now = some rr) : Met l yX8_isAllowed v_f_X8_isAllowed (({ frames := 1, cells := 0, slots := 0, locals := 28 } : Room)) (va_Pc [.ref a_, .int p1, .int p2] (pP E (w_X8_isAllowed E a_ a_tape a_readPlace a_script a_scriptLong a_now a_refused a_shareX a_shareY a_askedRow a_kept a_aside a_spelled a_image c_thrown c_taped c_at c_part c_partFrom c_partNumber c_wrong c_partWord c_readLaw c_readBound c_readGoal c_readSites c_scripts c_sites c_asked c_outcome c_took c_acts c_drawn c_racer c_raced c_spelledMany c_hasImage c_now))) (vp_Si (fun q : Int32 => q = rr ∧ (q = 0 ∨ q = 1))) 0 0 (fun _ => False) := by
  refine Met.ofW (cc := cX8_isAllowed) (maxL := 3) (ret := (some .boolean)) (by decide) rfl ?_
  intro p e s m args below meth c s₁ B hml hv
  obtain ⟨rfl, ⟨hK, hN⟩, hP⟩ := hv
  have hx := B.exec
  have hb := B.bytes
  have hr := B.returns
  have hts := atoms_spec (ws := v_f_X8_isAllowed) B.pre
  have hown : s.vm.findClass RX8 = some m.cls := own_of hd_X8_isAllowed.1 (findClass_of_methodNamed B.named)
  have hlocks : meth.locks = false := B.notSynchronized
  replace hP : va_P E.1 vwCl [(a_, .inr (9, [.int c_thrown, .ref a_tape, .int c_taped, .int c_at, .int c_part, .int c_partFrom, .int c_partNumber, .int c_wrong, .long c_partWord, .int c_readLaw, .int c_readBound, .int c_readGoal, .int c_readSites, .ref a_readPlace, .ref a_script, .ref a_scriptLong, .int c_scripts, .ref a_now, .ref a_refused, .int c_sites, .ref a_shareX, .ref a_shareY, .int c_asked, .int c_outcome, .ref a_askedRow, .int c_took, .ref a_kept, .int c_acts, .long c_drawn, .ref a_aside, .int c_racer, .int c_raced, .ref a_spelled, .int c_spelledMany, .ref a_image, .int c_hasImage])), (a_now, .inl (E.2.1, 265, .inl c_now))] s.heap := hP
  have hl := lv_entry ([.ref a_, .int p1, .int p2]) (n := 3) (Nat.le_of_ble_eq_true rfl)
  rw [lg_entry_eq]
  generalize (lg_sl ([.ref a_, .int p1, .int p2]) ++ List.replicate (3 - (lg_sl ([.ref a_, .int p1, .int p2])).length) Slot.unset).toArray = ls at hl ⊢
  have hl : lv_has ls 3 [(0, .ref a_), (1, .int p1), (2, .int p2)] := hl
  obtain ⟨Q, hQ⟩ : ∃ Q : State → Prop, Q = MQ below (vp_Si (fun q : Int32 => q = rr ∧ (q = 0 ∨ q = 1))) #[Value.ref a_, Value.int p1, Value.int p2] s 0 0 (fun _ => False) := ⟨_, rfl⟩
  rw [← hQ]
  change W p l e ({ frames := 1, cells := 0, slots := 0, locals := 28 } : Room) s m #[Value.ref a_, Value.int p1, Value.int p2] below meth c s.heap [] 0 0 Q (F0 m 0 ls [])
  unfold F_X8_isAllowed at hF
  refine lv_aload_n hx hb dX8_isAllowed_0 rfl (lv_at hl 0 rfl) ?_
  refine lv_iload_n hx hb dX8_isAllowed_1 rfl (lv_at hl 1 rfl) ?_
  refine lv_i2l (v := p1.toInt64) hx hb dX8_isAllowed_2 rfl ?_
  refine lv_iload_n hx hb dX8_isAllowed_3 rfl (lv_at hl 2 rfl) ?_
  refine lv_i2l (v := p2.toInt64) hx hb dX8_isAllowed_4 rfl ?_
  replace hF := bd1_s hF
  obtain ⟨r_1, hc_2, hF⟩ := hF
  have hPc : va_P E.1 vwCl (w_X8_valueOf E a_ a_tape a_readPlace a_script a_scriptLong a_now a_refused a_shareX a_shareY a_askedRow a_kept a_aside a_spelled a_image c_thrown c_taped c_at c_part c_partFrom c_partNumber c_wrong c_partWord c_readLaw c_readBound c_readGoal c_readSites c_scripts c_sites c_asked c_outcome c_took c_acts c_drawn c_racer c_raced c_spelledMany c_hasImage c_now) s.heap := hP.sub (ws' := [(a_, .inr (9, [.int c_thrown, .ref a_tape, .int c_taped, .int c_at, .int c_part, .int c_partFrom, .int c_partNumber, .int c_wrong, .long c_partWord, .int c_readLaw, .int c_readBound, .int c_readGoal, .int c_readSites, .ref a_readPlace, .ref a_script, .ref a_scriptLong, .int c_scripts, .ref a_now, .ref a_refused, .int c_sites, .ref a_shareX, .ref a_shareY, .int c_asked, .int c_outcome, .ref a_askedRow, .int c_took, .ref a_kept, .int c_acts, .long c_drawn, .ref a_aside, .int c_racer, .int c_raced, .ref a_spelled, .int c_spelledMany, .ref a_image, .int c_hasImage])), (a_now, .inl (E.2.1, 265, .inl c_now))]) [0, 1] rfl
  have hrc := va_recv hK hPc (ci := 9) (q0 := 0) rfl rfl
  refine pE_l (va_runV (As := [.long p1.toInt64, .long p2.toInt64]) (rest := [])  ⟨hx, hb, hml, hown, hts⟩ (f_X8_valueOf l E (a_ := a_) (a_tape := a_tape) (a_readPlace := a_readPlace) (a_script := a_script) (a_scriptLong := a_scriptLong) (a_now := a_now) (a_refused := a_refused) (a_shareX := a_shareX) (a_shareY := a_shareY) (a_askedRow := a_askedRow) (a_kept := a_kept) (a_aside := a_aside) (a_spelled := a_spelled) (a_image := a_image) (p1 := p1.toInt64) (p2 := p2.toInt64) (c_thrown := c_thrown) (c_taped := c_taped) (c_at := c_at) (c_part := c_part) (c_partFrom := c_partFrom) (c_partNumber := c_partNumber) (c_wrong := c_wrong) (c_partWord := c_partWord) (c_readLaw := c_readLaw) (c_readBound := c_readBound) (c_readGoal := c_readGoal) (c_readSites := c_readSites) (c_scripts := c_scripts) (c_sites := c_sites) (c_asked := c_asked) (c_outcome := c_outcome) (c_took := c_took) (c_acts := c_acts) (c_drawn := c_drawn) (c_racer := c_racer) (c_raced := c_raced) (c_spelledMany := c_spelledMany) (c_hasImage := c_hasImage) (c_now := c_now) hc_2) (cwV 2 hts g_f_X8_isAllowed_f_X8_valueOf_218 rfl rfl rfl hd_X8_valueOf ⟨Nat.le_of_ble_eq_true rfl, Nat.le_of_ble_eq_true rfl⟩) ⟨pP.blind, hrc, (pP.pre ⟨hK, hN⟩ hPc)⟩ rfl rfl hl.1 rfl (lv_room (Nat.le_of_ble_eq_true rfl)) dX8_isAllowed_5 ⟨Nat.le_of_ble_eq_true rfl, Nat.le_of_ble_eq_true rfl⟩) ?_
  refine lv_aload_n hx hb dX8_isAllowed_8 rfl (lv_at hl 0 rfl) ?_
  refine gt_X8_17 (v := .ref a_now) hx hb hts i_f_X8_isAllowed_X8 hown hK hP 0 rfl (hts (.fieldLink RX8 22 "HushWatchModel" "now" "[I") (List.mem_of_getElem? (i := 1) rfl)) rfl dX8_isAllowed_9 ?_
  refine lv_bipush (v := 65) hx hb dX8_isAllowed_12 (by decide) ?_
  refine va_iald hx hb hK hP 1 0 rfl rfl (vin rfl) dX8_isAllowed_14 ?_
  refine W.eq (g2 := F0 m 15 ls [.int (c_now 65), .long r_1]) rfl ?_
  refine lv_i2l (v := (c_now 65).toInt64) hx hb dX8_isAllowed_15 rfl ?_
  refine W.lcmp hx hb dX8_isAllowed_16 ?_
  refine lv_if_ge (tgt := 24) hx hb dX8_isAllowed_17 (by decide) (fun c_3 => ?_) (fun c_3 => ?_)
  ·
    replace hF := ip c_3 hF
    refine lv_iconst (v := 0) hx hb dX8_isAllowed_24 (by decide) ?_
    rw [hQ]
    obtain e9_0 := inj1 hF
    exact W.zret (v := (0 : Int32)) hx hb hr rfl (fun tt ht hW => ⟨_, rfl, ⟨e9_0, Or.inl rfl⟩, ht⟩) (fun _ h => by cases h) dX8_isAllowed_25
  ·
    replace hF := inn c_3 hF
    refine lv_iconst (v := 1) hx hb dX8_isAllowed_20 (by decide) ?_
    refine lv_goto (tgt := 25) hx hb dX8_isAllowed_21 (by decide) ?_
    rw [hQ]
    obtain e9_0 := inj1 hF
    exact W.zret (v := (1 : Int32)) hx hb hr rfl (fun tt ht hW => ⟨_, rfl, ⟨e9_0, Or.inr rfl⟩, ht⟩) (fun _ h => by cases h) dX8_isAllowed_25
