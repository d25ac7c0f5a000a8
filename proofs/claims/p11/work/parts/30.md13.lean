def dl_X8_back_30_md13_0 : List (Nat × Instr × Nat) := [(11, .iload_n 1, 1), (12, .sipush 265, 3), (15, .if_icmp .ge 21, 3), (18, .aload_n 0, 1), (19, .getfield 22, 3), (22, .iload_n 1, 1), (23, .aload_n 0, 1), (24, .getfield 46, 3), (27, .iload_n 1, 1), (28, .iaload, 1), (29, .iastore, 1), (30, .iinc 1 1, 3), (33, .goto (-22), 3), (0, .aload_n 0, 1), (1, .getfield 208, 3), (4, .ifCond .ne 5, 3), (9, .iconst 0, 1), (10, .istore_n 1, 1), (36, .aload_n 0, 1), (37, .iconst 0, 1), (38, .putfield 205, 3), (41, .aload_n 0, 1), (42, .getfield 22, 3), (45, .bipush 67, 2), (47, .iaload, 1), (48, .ireturn, 1), (7, .iconst (-1), 1), (8, .ireturn, 1)]
set_option maxRecDepth 100000 in
theorem dall_X8_back_30_md13_0 : dchk cX8_back dl_X8_back_30_md13_0 = true := by decide +kernel
theorem dX8_back_11 : decode cX8_back 11 = .ok (.iload_n 1, 1) := dchk_at dall_X8_back_30_md13_0 (k := 0) rfl
theorem dX8_back_12 : decode cX8_back 12 = .ok (.sipush 265, 3) := dchk_at dall_X8_back_30_md13_0 (k := 1) rfl
theorem dX8_back_15 : decode cX8_back 15 = .ok (.if_icmp .ge 21, 3) := dchk_at dall_X8_back_30_md13_0 (k := 2) rfl
theorem dX8_back_18 : decode cX8_back 18 = .ok (.aload_n 0, 1) := dchk_at dall_X8_back_30_md13_0 (k := 3) rfl
theorem dX8_back_19 : decode cX8_back 19 = .ok (.getfield 22, 3) := dchk_at dall_X8_back_30_md13_0 (k := 4) rfl
theorem dX8_back_22 : decode cX8_back 22 = .ok (.iload_n 1, 1) := dchk_at dall_X8_back_30_md13_0 (k := 5) rfl
theorem dX8_back_23 : decode cX8_back 23 = .ok (.aload_n 0, 1) := dchk_at dall_X8_back_30_md13_0 (k := 6) rfl
theorem dX8_back_24 : decode cX8_back 24 = .ok (.getfield 46, 3) := dchk_at dall_X8_back_30_md13_0 (k := 7) rfl
theorem dX8_back_27 : decode cX8_back 27 = .ok (.iload_n 1, 1) := dchk_at dall_X8_back_30_md13_0 (k := 8) rfl
theorem dX8_back_28 : decode cX8_back 28 = .ok (.iaload, 1) := dchk_at dall_X8_back_30_md13_0 (k := 9) rfl
theorem dX8_back_29 : decode cX8_back 29 = .ok (.iastore, 1) := dchk_at dall_X8_back_30_md13_0 (k := 10) rfl
theorem dX8_back_30 : decode cX8_back 30 = .ok (.iinc 1 1, 3) := dchk_at dall_X8_back_30_md13_0 (k := 11) rfl
theorem dX8_back_33 : decode cX8_back 33 = .ok (.goto (-22), 3) := dchk_at dall_X8_back_30_md13_0 (k := 12) rfl
theorem dX8_back_0 : decode cX8_back 0 = .ok (.aload_n 0, 1) := dchk_at dall_X8_back_30_md13_0 (k := 13) rfl
theorem dX8_back_1 : decode cX8_back 1 = .ok (.getfield 208, 3) := dchk_at dall_X8_back_30_md13_0 (k := 14) rfl
theorem dX8_back_4 : decode cX8_back 4 = .ok (.ifCond .ne 5, 3) := dchk_at dall_X8_back_30_md13_0 (k := 15) rfl
theorem dX8_back_9 : decode cX8_back 9 = .ok (.iconst 0, 1) := dchk_at dall_X8_back_30_md13_0 (k := 16) rfl
theorem dX8_back_10 : decode cX8_back 10 = .ok (.istore_n 1, 1) := dchk_at dall_X8_back_30_md13_0 (k := 17) rfl
theorem dX8_back_36 : decode cX8_back 36 = .ok (.aload_n 0, 1) := dchk_at dall_X8_back_30_md13_0 (k := 18) rfl
theorem dX8_back_37 : decode cX8_back 37 = .ok (.iconst 0, 1) := dchk_at dall_X8_back_30_md13_0 (k := 19) rfl
theorem dX8_back_38 : decode cX8_back 38 = .ok (.putfield 205, 3) := dchk_at dall_X8_back_30_md13_0 (k := 20) rfl
theorem dX8_back_41 : decode cX8_back 41 = .ok (.aload_n 0, 1) := dchk_at dall_X8_back_30_md13_0 (k := 21) rfl
theorem dX8_back_42 : decode cX8_back 42 = .ok (.getfield 22, 3) := dchk_at dall_X8_back_30_md13_0 (k := 22) rfl
theorem dX8_back_45 : decode cX8_back 45 = .ok (.bipush 67, 2) := dchk_at dall_X8_back_30_md13_0 (k := 23) rfl
theorem dX8_back_47 : decode cX8_back 47 = .ok (.iaload, 1) := dchk_at dall_X8_back_30_md13_0 (k := 24) rfl
theorem dX8_back_48 : decode cX8_back 48 = .ok (.ireturn, 1) := dchk_at dall_X8_back_30_md13_0 (k := 25) rfl
theorem dX8_back_7 : decode cX8_back 7 = .ok (.iconst (-1), 1) := dchk_at dall_X8_back_30_md13_0 (k := 26) rfl
theorem dX8_back_8 : decode cX8_back 8 = .ok (.ireturn, 1) := dchk_at dall_X8_back_30_md13_0 (k := 27) rfl
def dl_X8_begins_30_md13_0 : List (Nat × Instr × Nat) := [(0, .aload_n 0, 1), (1, .iconst 0, 1), (2, .putfield 64, 3), (5, .aload_n 0, 1), (6, .iconst (-1), 1), (7, .putfield 103, 3), (10, .aload_n 0, 1), (11, .invokevirtual 109, 3), (14, .return_, 1)]
set_option maxRecDepth 100000 in
theorem dall_X8_begins_30_md13_0 : dchk cX8_begins dl_X8_begins_30_md13_0 = true := by decide +kernel
theorem dX8_begins_0 : decode cX8_begins 0 = .ok (.aload_n 0, 1) := dchk_at dall_X8_begins_30_md13_0 (k := 0) rfl
theorem dX8_begins_1 : decode cX8_begins 1 = .ok (.iconst 0, 1) := dchk_at dall_X8_begins_30_md13_0 (k := 1) rfl
theorem dX8_begins_2 : decode cX8_begins 2 = .ok (.putfield 64, 3) := dchk_at dall_X8_begins_30_md13_0 (k := 2) rfl
theorem dX8_begins_5 : decode cX8_begins 5 = .ok (.aload_n 0, 1) := dchk_at dall_X8_begins_30_md13_0 (k := 3) rfl
theorem dX8_begins_6 : decode cX8_begins 6 = .ok (.iconst (-1), 1) := dchk_at dall_X8_begins_30_md13_0 (k := 4) rfl
theorem dX8_begins_7 : decode cX8_begins 7 = .ok (.putfield 103, 3) := dchk_at dall_X8_begins_30_md13_0 (k := 5) rfl
theorem dX8_begins_10 : decode cX8_begins 10 = .ok (.aload_n 0, 1) := dchk_at dall_X8_begins_30_md13_0 (k := 6) rfl
theorem dX8_begins_11 : decode cX8_begins 11 = .ok (.invokevirtual 109, 3) := dchk_at dall_X8_begins_30_md13_0 (k := 7) rfl
theorem dX8_begins_14 : decode cX8_begins 14 = .ok (.return_, 1) := dchk_at dall_X8_begins_30_md13_0 (k := 8) rfl
def dl_X8_bound_30_md13_0 : List (Nat × Instr × Nat) := [(0, .aload_n 0, 1), (1, .ldc 182, 2), (3, .iconst 2, 1), (4, .iload_n 1, 1), (5, .iconst 0, 1), (6, .iconst 0, 1), (7, .invokevirtual 350, 3), (10, .ireturn, 1)]
set_option maxRecDepth 100000 in
theorem dall_X8_bound_30_md13_0 : dchk cX8_bound dl_X8_bound_30_md13_0 = true := by decide +kernel
theorem dX8_bound_0 : decode cX8_bound 0 = .ok (.aload_n 0, 1) := dchk_at dall_X8_bound_30_md13_0 (k := 0) rfl
theorem dX8_bound_1 : decode cX8_bound 1 = .ok (.ldc 182, 2) := dchk_at dall_X8_bound_30_md13_0 (k := 1) rfl
theorem dX8_bound_3 : decode cX8_bound 3 = .ok (.iconst 2, 1) := dchk_at dall_X8_bound_30_md13_0 (k := 2) rfl
theorem dX8_bound_4 : decode cX8_bound 4 = .ok (.iload_n 1, 1) := dchk_at dall_X8_bound_30_md13_0 (k := 3) rfl
theorem dX8_bound_5 : decode cX8_bound 5 = .ok (.iconst 0, 1) := dchk_at dall_X8_bound_30_md13_0 (k := 4) rfl
theorem dX8_bound_6 : decode cX8_bound 6 = .ok (.iconst 0, 1) := dchk_at dall_X8_bound_30_md13_0 (k := 5) rfl
theorem dX8_bound_7 : decode cX8_bound 7 = .ok (.invokevirtual 350, 3) := dchk_at dall_X8_bound_30_md13_0 (k := 6) rfl
theorem dX8_bound_10 : decode cX8_bound 10 = .ok (.ireturn, 1) := dchk_at dall_X8_bound_30_md13_0 (k := 7) rfl
def dl_X8_byteOf_30_md13_0 : List (Nat × Instr × Nat) := [(45, .istore 6, 2), (47, .iload 6, 2), (49, .bipush 24, 2), (51, .bipush 8, 2), (53, .iload 5, 2), (55, .iconst 4, 1), (56, .irem, 1), (57, .imul, 1), (58, .isub, 1), (59, .ishr, 1), (60, .sipush 255, 3), (63, .iand, 1), (64, .ireturn, 1), (0, .iload 5, 2), (2, .iconst 4, 1), (3, .if_icmp .ge 7, 3), (10, .iload 5, 2), (12, .bipush 8, 2), (14, .if_icmp .ge 7, 3), (21, .iload 5, 2), (23, .bipush 12, 2), (25, .if_icmp .ge 7, 3), (32, .iload 5, 2), (34, .bipush 16, 2), (36, .if_icmp .ge 7, 3), (43, .iload 4, 2), (39, .iload_n 3, 1), (40, .goto 5, 3), (28, .iload_n 2, 1), (29, .goto 16, 3), (17, .iload_n 1, 1), (18, .goto 27, 3), (6, .iload_n 0, 1), (7, .goto 38, 3)]
set_option maxRecDepth 100000 in
theorem dall_X8_byteOf_30_md13_0 : dchk cX8_byteOf dl_X8_byteOf_30_md13_0 = true := by decide +kernel
theorem dX8_byteOf_45 : decode cX8_byteOf 45 = .ok (.istore 6, 2) := dchk_at dall_X8_byteOf_30_md13_0 (k := 0) rfl
theorem dX8_byteOf_47 : decode cX8_byteOf 47 = .ok (.iload 6, 2) := dchk_at dall_X8_byteOf_30_md13_0 (k := 1) rfl
theorem dX8_byteOf_49 : decode cX8_byteOf 49 = .ok (.bipush 24, 2) := dchk_at dall_X8_byteOf_30_md13_0 (k := 2) rfl
theorem dX8_byteOf_51 : decode cX8_byteOf 51 = .ok (.bipush 8, 2) := dchk_at dall_X8_byteOf_30_md13_0 (k := 3) rfl
theorem dX8_byteOf_53 : decode cX8_byteOf 53 = .ok (.iload 5, 2) := dchk_at dall_X8_byteOf_30_md13_0 (k := 4) rfl
theorem dX8_byteOf_55 : decode cX8_byteOf 55 = .ok (.iconst 4, 1) := dchk_at dall_X8_byteOf_30_md13_0 (k := 5) rfl
theorem dX8_byteOf_56 : decode cX8_byteOf 56 = .ok (.irem, 1) := dchk_at dall_X8_byteOf_30_md13_0 (k := 6) rfl
theorem dX8_byteOf_57 : decode cX8_byteOf 57 = .ok (.imul, 1) := dchk_at dall_X8_byteOf_30_md13_0 (k := 7) rfl
theorem dX8_byteOf_58 : decode cX8_byteOf 58 = .ok (.isub, 1) := dchk_at dall_X8_byteOf_30_md13_0 (k := 8) rfl
theorem dX8_byteOf_59 : decode cX8_byteOf 59 = .ok (.ishr, 1) := dchk_at dall_X8_byteOf_30_md13_0 (k := 9) rfl
theorem dX8_byteOf_60 : decode cX8_byteOf 60 = .ok (.sipush 255, 3) := dchk_at dall_X8_byteOf_30_md13_0 (k := 10) rfl
theorem dX8_byteOf_63 : decode cX8_byteOf 63 = .ok (.iand, 1) := dchk_at dall_X8_byteOf_30_md13_0 (k := 11) rfl
theorem dX8_byteOf_64 : decode cX8_byteOf 64 = .ok (.ireturn, 1) := dchk_at dall_X8_byteOf_30_md13_0 (k := 12) rfl
theorem dX8_byteOf_0 : decode cX8_byteOf 0 = .ok (.iload 5, 2) := dchk_at dall_X8_byteOf_30_md13_0 (k := 13) rfl
theorem dX8_byteOf_2 : decode cX8_byteOf 2 = .ok (.iconst 4, 1) := dchk_at dall_X8_byteOf_30_md13_0 (k := 14) rfl
theorem dX8_byteOf_3 : decode cX8_byteOf 3 = .ok (.if_icmp .ge 7, 3) := dchk_at dall_X8_byteOf_30_md13_0 (k := 15) rfl
theorem dX8_byteOf_10 : decode cX8_byteOf 10 = .ok (.iload 5, 2) := dchk_at dall_X8_byteOf_30_md13_0 (k := 16) rfl
theorem dX8_byteOf_12 : decode cX8_byteOf 12 = .ok (.bipush 8, 2) := dchk_at dall_X8_byteOf_30_md13_0 (k := 17) rfl
theorem dX8_byteOf_14 : decode cX8_byteOf 14 = .ok (.if_icmp .ge 7, 3) := dchk_at dall_X8_byteOf_30_md13_0 (k := 18) rfl
theorem dX8_byteOf_21 : decode cX8_byteOf 21 = .ok (.iload 5, 2) := dchk_at dall_X8_byteOf_30_md13_0 (k := 19) rfl
theorem dX8_byteOf_23 : decode cX8_byteOf 23 = .ok (.bipush 12, 2) := dchk_at dall_X8_byteOf_30_md13_0 (k := 20) rfl
theorem dX8_byteOf_25 : decode cX8_byteOf 25 = .ok (.if_icmp .ge 7, 3) := dchk_at dall_X8_byteOf_30_md13_0 (k := 21) rfl
theorem dX8_byteOf_32 : decode cX8_byteOf 32 = .ok (.iload 5, 2) := dchk_at dall_X8_byteOf_30_md13_0 (k := 22) rfl
theorem dX8_byteOf_34 : decode cX8_byteOf 34 = .ok (.bipush 16, 2) := dchk_at dall_X8_byteOf_30_md13_0 (k := 23) rfl
theorem dX8_byteOf_36 : decode cX8_byteOf 36 = .ok (.if_icmp .ge 7, 3) := dchk_at dall_X8_byteOf_30_md13_0 (k := 24) rfl
theorem dX8_byteOf_43 : decode cX8_byteOf 43 = .ok (.iload 4, 2) := dchk_at dall_X8_byteOf_30_md13_0 (k := 25) rfl
theorem dX8_byteOf_39 : decode cX8_byteOf 39 = .ok (.iload_n 3, 1) := dchk_at dall_X8_byteOf_30_md13_0 (k := 26) rfl
theorem dX8_byteOf_40 : decode cX8_byteOf 40 = .ok (.goto 5, 3) := dchk_at dall_X8_byteOf_30_md13_0 (k := 27) rfl
theorem dX8_byteOf_28 : decode cX8_byteOf 28 = .ok (.iload_n 2, 1) := dchk_at dall_X8_byteOf_30_md13_0 (k := 28) rfl
theorem dX8_byteOf_29 : decode cX8_byteOf 29 = .ok (.goto 16, 3) := dchk_at dall_X8_byteOf_30_md13_0 (k := 29) rfl
theorem dX8_byteOf_17 : decode cX8_byteOf 17 = .ok (.iload_n 1, 1) := dchk_at dall_X8_byteOf_30_md13_0 (k := 30) rfl
theorem dX8_byteOf_18 : decode cX8_byteOf 18 = .ok (.goto 27, 3) := dchk_at dall_X8_byteOf_30_md13_0 (k := 31) rfl
theorem dX8_byteOf_6 : decode cX8_byteOf 6 = .ok (.iload_n 0, 1) := dchk_at dall_X8_byteOf_30_md13_0 (k := 32) rfl
theorem dX8_byteOf_7 : decode cX8_byteOf 7 = .ok (.goto 38, 3) := dchk_at dall_X8_byteOf_30_md13_0 (k := 33) rfl
def dl_X8_canStand_30_md13_0 : List (Nat × Instr × Nat) := [(0, .aload_n 0, 1), (1, .getfield 22, 3), (4, .iconst 0, 1), (5, .iload_n 1, 1), (6, .iadd, 1), (7, .iaload, 1), (8, .i2l, 1), (9, .ldc2_w 285, 3), (12, .ldc2_w 287, 3), (15, .invokestatic 60, 3), (18, .ifCond .eq 29, 3), (47, .iconst 0, 1), (48, .ireturn, 1), (21, .aload_n 0, 1), (22, .getfield 22, 3), (25, .bipush 8, 2), (27, .iload_n 1, 1), (28, .iadd, 1), (29, .iaload, 1), (30, .i2l, 1), (31, .ldc2_w 285, 3), (34, .ldc2_w 287, 3), (37, .invokestatic 60, 3), (40, .ifCond .eq 7, 3), (43, .iconst 1, 1), (44, .goto 4, 3)]
set_option maxRecDepth 100000 in
theorem dall_X8_canStand_30_md13_0 : dchk cX8_canStand dl_X8_canStand_30_md13_0 = true := by decide +kernel
theorem dX8_canStand_0 : decode cX8_canStand 0 = .ok (.aload_n 0, 1) := dchk_at dall_X8_canStand_30_md13_0 (k := 0) rfl
theorem dX8_canStand_1 : decode cX8_canStand 1 = .ok (.getfield 22, 3) := dchk_at dall_X8_canStand_30_md13_0 (k := 1) rfl
theorem dX8_canStand_4 : decode cX8_canStand 4 = .ok (.iconst 0, 1) := dchk_at dall_X8_canStand_30_md13_0 (k := 2) rfl
theorem dX8_canStand_5 : decode cX8_canStand 5 = .ok (.iload_n 1, 1) := dchk_at dall_X8_canStand_30_md13_0 (k := 3) rfl
theorem dX8_canStand_6 : decode cX8_canStand 6 = .ok (.iadd, 1) := dchk_at dall_X8_canStand_30_md13_0 (k := 4) rfl
theorem dX8_canStand_7 : decode cX8_canStand 7 = .ok (.iaload, 1) := dchk_at dall_X8_canStand_30_md13_0 (k := 5) rfl
theorem dX8_canStand_8 : decode cX8_canStand 8 = .ok (.i2l, 1) := dchk_at dall_X8_canStand_30_md13_0 (k := 6) rfl
theorem dX8_canStand_9 : decode cX8_canStand 9 = .ok (.ldc2_w 285, 3) := dchk_at dall_X8_canStand_30_md13_0 (k := 7) rfl
theorem dX8_canStand_12 : decode cX8_canStand 12 = .ok (.ldc2_w 287, 3) := dchk_at dall_X8_canStand_30_md13_0 (k := 8) rfl
theorem dX8_canStand_15 : decode cX8_canStand 15 = .ok (.invokestatic 60, 3) := dchk_at dall_X8_canStand_30_md13_0 (k := 9) rfl
theorem dX8_canStand_18 : decode cX8_canStand 18 = .ok (.ifCond .eq 29, 3) := dchk_at dall_X8_canStand_30_md13_0 (k := 10) rfl
theorem dX8_canStand_47 : decode cX8_canStand 47 = .ok (.iconst 0, 1) := dchk_at dall_X8_canStand_30_md13_0 (k := 11) rfl
theorem dX8_canStand_48 : decode cX8_canStand 48 = .ok (.ireturn, 1) := dchk_at dall_X8_canStand_30_md13_0 (k := 12) rfl
theorem dX8_canStand_21 : decode cX8_canStand 21 = .ok (.aload_n 0, 1) := dchk_at dall_X8_canStand_30_md13_0 (k := 13) rfl
theorem dX8_canStand_22 : decode cX8_canStand 22 = .ok (.getfield 22, 3) := dchk_at dall_X8_canStand_30_md13_0 (k := 14) rfl
theorem dX8_canStand_25 : decode cX8_canStand 25 = .ok (.bipush 8, 2) := dchk_at dall_X8_canStand_30_md13_0 (k := 15) rfl
theorem dX8_canStand_27 : decode cX8_canStand 27 = .ok (.iload_n 1, 1) := dchk_at dall_X8_canStand_30_md13_0 (k := 16) rfl
theorem dX8_canStand_28 : decode cX8_canStand 28 = .ok (.iadd, 1) := dchk_at dall_X8_canStand_30_md13_0 (k := 17) rfl
theorem dX8_canStand_29 : decode cX8_canStand 29 = .ok (.iaload, 1) := dchk_at dall_X8_canStand_30_md13_0 (k := 18) rfl
theorem dX8_canStand_30 : decode cX8_canStand 30 = .ok (.i2l, 1) := dchk_at dall_X8_canStand_30_md13_0 (k := 19) rfl
theorem dX8_canStand_31 : decode cX8_canStand 31 = .ok (.ldc2_w 285, 3) := dchk_at dall_X8_canStand_30_md13_0 (k := 20) rfl
theorem dX8_canStand_34 : decode cX8_canStand 34 = .ok (.ldc2_w 287, 3) := dchk_at dall_X8_canStand_30_md13_0 (k := 21) rfl
theorem dX8_canStand_37 : decode cX8_canStand 37 = .ok (.invokestatic 60, 3) := dchk_at dall_X8_canStand_30_md13_0 (k := 22) rfl
theorem dX8_canStand_40 : decode cX8_canStand 40 = .ok (.ifCond .eq 7, 3) := dchk_at dall_X8_canStand_30_md13_0 (k := 23) rfl
theorem dX8_canStand_43 : decode cX8_canStand 43 = .ok (.iconst 1, 1) := dchk_at dall_X8_canStand_30_md13_0 (k := 24) rfl
theorem dX8_canStand_44 : decode cX8_canStand 44 = .ok (.goto 4, 3) := dchk_at dall_X8_canStand_30_md13_0 (k := 25) rfl
def dl_X8_isWord_30_md13_0 : List (Nat × Instr × Nat) := [(0, .aload_n 0, 1), (1, .getfield 83, 3), (4, .iconst 1, 1), (5, .if_icmp .ne 16, 3), (21, .iconst 0, 1), (22, .ireturn, 1), (8, .aload_n 0, 1), (9, .getfield 67, 3), (12, .lload_n 1, 1), (13, .lcmp, 1), (14, .ifCond .ne 7, 3), (17, .iconst 1, 1), (18, .goto 4, 3)]
set_option maxRecDepth 100000 in
theorem dall_X8_isWord_30_md13_0 : dchk cX8_isWord dl_X8_isWord_30_md13_0 = true := by decide +kernel
theorem dX8_isWord_0 : decode cX8_isWord 0 = .ok (.aload_n 0, 1) := dchk_at dall_X8_isWord_30_md13_0 (k := 0) rfl
theorem dX8_isWord_1 : decode cX8_isWord 1 = .ok (.getfield 83, 3) := dchk_at dall_X8_isWord_30_md13_0 (k := 1) rfl
theorem dX8_isWord_4 : decode cX8_isWord 4 = .ok (.iconst 1, 1) := dchk_at dall_X8_isWord_30_md13_0 (k := 2) rfl
theorem dX8_isWord_5 : decode cX8_isWord 5 = .ok (.if_icmp .ne 16, 3) := dchk_at dall_X8_isWord_30_md13_0 (k := 3) rfl
theorem dX8_isWord_21 : decode cX8_isWord 21 = .ok (.iconst 0, 1) := dchk_at dall_X8_isWord_30_md13_0 (k := 4) rfl
theorem dX8_isWord_22 : decode cX8_isWord 22 = .ok (.ireturn, 1) := dchk_at dall_X8_isWord_30_md13_0 (k := 5) rfl
theorem dX8_isWord_8 : decode cX8_isWord 8 = .ok (.aload_n 0, 1) := dchk_at dall_X8_isWord_30_md13_0 (k := 6) rfl
theorem dX8_isWord_9 : decode cX8_isWord 9 = .ok (.getfield 67, 3) := dchk_at dall_X8_isWord_30_md13_0 (k := 7) rfl
theorem dX8_isWord_12 : decode cX8_isWord 12 = .ok (.lload_n 1, 1) := dchk_at dall_X8_isWord_30_md13_0 (k := 8) rfl
theorem dX8_isWord_13 : decode cX8_isWord 13 = .ok (.lcmp, 1) := dchk_at dall_X8_isWord_30_md13_0 (k := 9) rfl
theorem dX8_isWord_14 : decode cX8_isWord 14 = .ok (.ifCond .ne 7, 3) := dchk_at dall_X8_isWord_30_md13_0 (k := 10) rfl
theorem dX8_isWord_17 : decode cX8_isWord 17 = .ok (.iconst 1, 1) := dchk_at dall_X8_isWord_30_md13_0 (k := 11) rfl
theorem dX8_isWord_18 : decode cX8_isWord 18 = .ok (.goto 4, 3) := dchk_at dall_X8_isWord_30_md13_0 (k := 12) rfl
def dl_X8_word_30_md13_0 : List (Nat × Instr × Nat) := [(65, .istore 9, 2), (67, .iload 9, 2), (69, .ifCond .ne 8, 3), (77, .ldc2_w 79, 3), (80, .lload 6, 2), (82, .lmul, 1), (83, .iload 9, 2), (85, .i2l, 1), (86, .ladd, 1), (87, .ldc2_w 81, 3), (90, .lsub, 1), (91, .lconst 1, 1), (92, .ladd, 1), (93, .lstore 6, 2), (95, .iinc 8 1, 3), (98, .goto (-92), 3), (72, .lload 6, 2), (74, .goto 19, 3), (6, .iload 8, 2), (8, .bipush 6, 2), (10, .if_icmp .ge 91, 3), (13, .iload 8, 2), (15, .ifCond .ne 7, 3), (22, .iload 8, 2), (24, .iconst 1, 1), (25, .if_icmp .ne 7, 3), (32, .iload 8, 2), (34, .iconst 2, 1), (35, .if_icmp .ne 7, 3), (42, .iload 8, 2), (44, .iconst 3, 1), (45, .if_icmp .ne 7, 3), (52, .iload 8, 2), (54, .iconst 4, 1), (55, .if_icmp .ne 8, 3), (63, .iload 5, 2), (58, .iload 4, 2), (60, .goto 5, 3), (48, .iload_n 3, 1), (49, .goto 16, 3), (38, .iload_n 2, 1), (39, .goto 26, 3), (28, .iload_n 1, 1), (29, .goto 36, 3), (18, .iload_n 0, 1), (19, .goto 46, 3), (0, .lconst 0, 1), (1, .lstore 6, 2), (3, .iconst 0, 1), (4, .istore 8, 2)]
set_option maxRecDepth 100000 in
theorem dall_X8_word_30_md13_0 : dchk cX8_word dl_X8_word_30_md13_0 = true := by decide +kernel
theorem dX8_word_65 : decode cX8_word 65 = .ok (.istore 9, 2) := dchk_at dall_X8_word_30_md13_0 (k := 0) rfl
theorem dX8_word_67 : decode cX8_word 67 = .ok (.iload 9, 2) := dchk_at dall_X8_word_30_md13_0 (k := 1) rfl
theorem dX8_word_69 : decode cX8_word 69 = .ok (.ifCond .ne 8, 3) := dchk_at dall_X8_word_30_md13_0 (k := 2) rfl
theorem dX8_word_77 : decode cX8_word 77 = .ok (.ldc2_w 79, 3) := dchk_at dall_X8_word_30_md13_0 (k := 3) rfl
theorem dX8_word_80 : decode cX8_word 80 = .ok (.lload 6, 2) := dchk_at dall_X8_word_30_md13_0 (k := 4) rfl
theorem dX8_word_82 : decode cX8_word 82 = .ok (.lmul, 1) := dchk_at dall_X8_word_30_md13_0 (k := 5) rfl
theorem dX8_word_83 : decode cX8_word 83 = .ok (.iload 9, 2) := dchk_at dall_X8_word_30_md13_0 (k := 6) rfl
theorem dX8_word_85 : decode cX8_word 85 = .ok (.i2l, 1) := dchk_at dall_X8_word_30_md13_0 (k := 7) rfl
theorem dX8_word_86 : decode cX8_word 86 = .ok (.ladd, 1) := dchk_at dall_X8_word_30_md13_0 (k := 8) rfl
theorem dX8_word_87 : decode cX8_word 87 = .ok (.ldc2_w 81, 3) := dchk_at dall_X8_word_30_md13_0 (k := 9) rfl
theorem dX8_word_90 : decode cX8_word 90 = .ok (.lsub, 1) := dchk_at dall_X8_word_30_md13_0 (k := 10) rfl
theorem dX8_word_91 : decode cX8_word 91 = .ok (.lconst 1, 1) := dchk_at dall_X8_word_30_md13_0 (k := 11) rfl
theorem dX8_word_92 : decode cX8_word 92 = .ok (.ladd, 1) := dchk_at dall_X8_word_30_md13_0 (k := 12) rfl
theorem dX8_word_93 : decode cX8_word 93 = .ok (.lstore 6, 2) := dchk_at dall_X8_word_30_md13_0 (k := 13) rfl
theorem dX8_word_95 : decode cX8_word 95 = .ok (.iinc 8 1, 3) := dchk_at dall_X8_word_30_md13_0 (k := 14) rfl
theorem dX8_word_98 : decode cX8_word 98 = .ok (.goto (-92), 3) := dchk_at dall_X8_word_30_md13_0 (k := 15) rfl
theorem dX8_word_72 : decode cX8_word 72 = .ok (.lload 6, 2) := dchk_at dall_X8_word_30_md13_0 (k := 16) rfl
theorem dX8_word_74 : decode cX8_word 74 = .ok (.goto 19, 3) := dchk_at dall_X8_word_30_md13_0 (k := 17) rfl
theorem dX8_word_6 : decode cX8_word 6 = .ok (.iload 8, 2) := dchk_at dall_X8_word_30_md13_0 (k := 18) rfl
theorem dX8_word_8 : decode cX8_word 8 = .ok (.bipush 6, 2) := dchk_at dall_X8_word_30_md13_0 (k := 19) rfl
theorem dX8_word_10 : decode cX8_word 10 = .ok (.if_icmp .ge 91, 3) := dchk_at dall_X8_word_30_md13_0 (k := 20) rfl
theorem dX8_word_13 : decode cX8_word 13 = .ok (.iload 8, 2) := dchk_at dall_X8_word_30_md13_0 (k := 21) rfl
theorem dX8_word_15 : decode cX8_word 15 = .ok (.ifCond .ne 7, 3) := dchk_at dall_X8_word_30_md13_0 (k := 22) rfl
theorem dX8_word_22 : decode cX8_word 22 = .ok (.iload 8, 2) := dchk_at dall_X8_word_30_md13_0 (k := 23) rfl
theorem dX8_word_24 : decode cX8_word 24 = .ok (.iconst 1, 1) := dchk_at dall_X8_word_30_md13_0 (k := 24) rfl
theorem dX8_word_25 : decode cX8_word 25 = .ok (.if_icmp .ne 7, 3) := dchk_at dall_X8_word_30_md13_0 (k := 25) rfl
theorem dX8_word_32 : decode cX8_word 32 = .ok (.iload 8, 2) := dchk_at dall_X8_word_30_md13_0 (k := 26) rfl
theorem dX8_word_34 : decode cX8_word 34 = .ok (.iconst 2, 1) := dchk_at dall_X8_word_30_md13_0 (k := 27) rfl
theorem dX8_word_35 : decode cX8_word 35 = .ok (.if_icmp .ne 7, 3) := dchk_at dall_X8_word_30_md13_0 (k := 28) rfl
theorem dX8_word_42 : decode cX8_word 42 = .ok (.iload 8, 2) := dchk_at dall_X8_word_30_md13_0 (k := 29) rfl
theorem dX8_word_44 : decode cX8_word 44 = .ok (.iconst 3, 1) := dchk_at dall_X8_word_30_md13_0 (k := 30) rfl
theorem dX8_word_45 : decode cX8_word 45 = .ok (.if_icmp .ne 7, 3) := dchk_at dall_X8_word_30_md13_0 (k := 31) rfl
theorem dX8_word_52 : decode cX8_word 52 = .ok (.iload 8, 2) := dchk_at dall_X8_word_30_md13_0 (k := 32) rfl
theorem dX8_word_54 : decode cX8_word 54 = .ok (.iconst 4, 1) := dchk_at dall_X8_word_30_md13_0 (k := 33) rfl
theorem dX8_word_55 : decode cX8_word 55 = .ok (.if_icmp .ne 8, 3) := dchk_at dall_X8_word_30_md13_0 (k := 34) rfl
theorem dX8_word_63 : decode cX8_word 63 = .ok (.iload 5, 2) := dchk_at dall_X8_word_30_md13_0 (k := 35) rfl
theorem dX8_word_58 : decode cX8_word 58 = .ok (.iload 4, 2) := dchk_at dall_X8_word_30_md13_0 (k := 36) rfl
theorem dX8_word_60 : decode cX8_word 60 = .ok (.goto 5, 3) := dchk_at dall_X8_word_30_md13_0 (k := 37) rfl
theorem dX8_word_48 : decode cX8_word 48 = .ok (.iload_n 3, 1) := dchk_at dall_X8_word_30_md13_0 (k := 38) rfl
theorem dX8_word_49 : decode cX8_word 49 = .ok (.goto 16, 3) := dchk_at dall_X8_word_30_md13_0 (k := 39) rfl
theorem dX8_word_38 : decode cX8_word 38 = .ok (.iload_n 2, 1) := dchk_at dall_X8_word_30_md13_0 (k := 40) rfl
theorem dX8_word_39 : decode cX8_word 39 = .ok (.goto 26, 3) := dchk_at dall_X8_word_30_md13_0 (k := 41) rfl
theorem dX8_word_28 : decode cX8_word 28 = .ok (.iload_n 1, 1) := dchk_at dall_X8_word_30_md13_0 (k := 42) rfl
theorem dX8_word_29 : decode cX8_word 29 = .ok (.goto 36, 3) := dchk_at dall_X8_word_30_md13_0 (k := 43) rfl
theorem dX8_word_18 : decode cX8_word 18 = .ok (.iload_n 0, 1) := dchk_at dall_X8_word_30_md13_0 (k := 44) rfl
theorem dX8_word_19 : decode cX8_word 19 = .ok (.goto 46, 3) := dchk_at dall_X8_word_30_md13_0 (k := 45) rfl
theorem dX8_word_0 : decode cX8_word 0 = .ok (.lconst 0, 1) := dchk_at dall_X8_word_30_md13_0 (k := 46) rfl
theorem dX8_word_1 : decode cX8_word 1 = .ok (.lstore 6, 2) := dchk_at dall_X8_word_30_md13_0 (k := 47) rfl
theorem dX8_word_3 : decode cX8_word 3 = .ok (.iconst 0, 1) := dchk_at dall_X8_word_30_md13_0 (k := 48) rfl
theorem dX8_word_4 : decode cX8_word 4 = .ok (.istore 8, 2) := dchk_at dall_X8_word_30_md13_0 (k := 49) rfl
def dl_X8_word_30_md13_1 : List (Nat × Instr × Nat) := [(101, .lload 6, 2), (103, .lreturn, 1)]
set_option maxRecDepth 100000 in
theorem dall_X8_word_30_md13_1 : dchk cX8_word dl_X8_word_30_md13_1 = true := by decide +kernel
theorem dX8_word_101 : decode cX8_word 101 = .ok (.lload 6, 2) := dchk_at dall_X8_word_30_md13_1 (k := 0) rfl
theorem dX8_word_103 : decode cX8_word 103 = .ok (.lreturn, 1) := dchk_at dall_X8_word_30_md13_1 (k := 1) rfl
def B_X8_back_11 (c_image : Nat → Int32) (x1 : Int32) (c_now : Nat → Int32) : Option ((Int32 × (Nat → Int32)) ⊕ ((Nat → Int32))) :=
  if (265 : Int32) ≤ x1 then some (.inr c_now) else ixF x1 265 (ixF x1 265 (nmF (upd c_now x1.toNatClampNeg (c_image x1.toNatClampNeg)) (fun f_5 => some (.inl (x1 + (1 : Int32), f_5)))))
def F_X8_back (K : Nat) (c_now : Nat → Int32) (c_acts : Int32) (c_image : Nat → Int32) (c_hasImage : Int32) : Option (Int32 × (Nat → Int32) × Int32) :=
  if c_hasImage = (0 : Int32) then some ((-1 : Int32), c_now, c_acts) else bd1 (lpF (fun u9 : Int32 × (Nat → Int32) => B_X8_back_11 c_image u9.1 u9.2) K ((0 : Int32), c_now)) (fun c_now_6 => some (c_now_6 67, c_now_6, (0 : Int32)))
abbrev w_X8_back (E : EE) (a_ a_tape a_readPlace a_script a_scriptLong a_now a_refused a_shareX a_shareY a_askedRow a_kept a_aside a_spelled a_image : Nat) (c_thrown : Int32) (c_taped : Int32) (c_at : Int32) (c_part : Int32) (c_partFrom : Int32) (c_partNumber : Int32) (c_wrong : Int32) (c_partWord : Int64) (c_readLaw : Int32) (c_readBound : Int32) (c_readGoal : Int32) (c_readSites : Int32) (c_scripts : Int32) (c_sites : Int32) (c_asked : Int32) (c_outcome : Int32) (c_took : Int32) (c_acts : Int32) (c_drawn : Int64) (c_racer : Int32) (c_raced : Int32) (c_spelledMany : Int32) (c_hasImage : Int32) (c_now : Nat → Int32) (c_image : Nat → Int32) : va_W := [(a_, .inr (9, [.int c_thrown, .ref a_tape, .int c_taped, .int c_at, .int c_part, .int c_partFrom, .int c_partNumber, .int c_wrong, .long c_partWord, .int c_readLaw, .int c_readBound, .int c_readGoal, .int c_readSites, .ref a_readPlace, .ref a_script, .ref a_scriptLong, .int c_scripts, .ref a_now, .ref a_refused, .int c_sites, .ref a_shareX, .ref a_shareY, .int c_asked, .int c_outcome, .ref a_askedRow, .int c_took, .ref a_kept, .int c_acts, .long c_drawn, .ref a_aside, .int c_racer, .int c_raced, .ref a_spelled, .int c_spelledMany, .ref a_image, .int c_hasImage])), (a_now, .inl (E.2.1, 265, .inl c_now)), (a_image, .inl (E.2.1, 265, .inl c_image))]
def v_f_X8_back : List Cond := List.cons (.code yX8_back cX8_back 2 (some .int)) (HAppend.hAppend (α := List Cond) (β := List Cond) (γ := List Cond) [.fieldLink RX8 208 "HushWatchModel" "hasImage" "Z", .fieldLink RX8 22 "HushWatchModel" "now" "[I", .fieldLink RX8 46 "HushWatchModel" "image" "[I", .fieldLink RX8 205 "HushWatchModel" "acts" "I"] (HAppend.hAppend (α := List Cond) (β := List Cond) (γ := List Cond) wsX80 []))
theorem gw_f_X8_back : v_f_X8_back.all goodWord = true := by decide +kernel
theorem i_f_X8_back_X8 : ∀ w ∈ wsX80, w ∈ v_f_X8_back := fun _ h => List.mem_cons_of_mem _ (List.mem_append_right _ (List.mem_append_left _ h))
theorem hd_X8_back : yX8_back.cls = RX8 ∧ yX8_back.cls ≠ "java/lang/invoke/MethodHandle" ∧ yX8_back.cls ≠ "java/lang/invoke/VarHandle" ∧ (parseMethodDescriptor yX8_back.desc).map (fun d => d.parameters.length) = some 0 := by decide +kernel
set_option maxHeartbeats 4000000 in
set_option maxRecDepth 100000 in
theorem wb_X8_back_11 {p : Program} (l : Launch) {e : Env} {s : State} {m : MethodId} {below : List Frame} {meth : Method} {c : Code} {Q : State → Prop} (E : EE) (K : Nat) {a_ a_tape a_readPlace a_script a_scriptLong a_now a_refused a_shareX a_shareY a_askedRow a_kept a_aside a_spelled a_image : Nat} {c_thrown : Int32} {c_taped : Int32} {c_at : Int32} {c_part : Int32} {c_partFrom : Int32} {c_partNumber : Int32} {c_wrong : Int32} {c_partWord : Int64} {c_readLaw : Int32} {c_readBound : Int32} {c_readGoal : Int32} {c_readSites : Int32} {c_scripts : Int32} {c_sites : Int32} {c_asked : Int32} {c_outcome : Int32} {c_took : Int32} {c_drawn : Int64} {c_racer : Int32} {c_raced : Int32} {c_spelledMany : Int32} {c_hasImage : Int32} {c_image : Nat → Int32} {x1 : Int32} {c_now : Nat → Int32} {c_acts : Int32} (hx : p.tables.exec = Jvm.exec) (hb : c.code = cX8_back) (hml : c.maxLocals = 2) (hown : s.vm.findClass RX8 = some m.cls) (hts : ∀ w ∈ v_f_X8_back, w.before #[Value.ref a_] s = true) (hK : va_K E.1 vwCl (TY E) s) (hN : NX s) {A : Nat → Prop} (hA : ∀ q : Nat, s.heap.size ≤ q → A q) {xx : (Int32 × (Nat → Int32)) ⊕ ((Nat → Int32))} (hC : ∀ (x1 : Int32), ∀ (c_now : Nat → Int32), xx = .inl (x1, c_now) → ∀ (H : Heap) (locs : List Loc) (ls : Array Slot), va_P E.1 vwCl (w_X8_back E a_ a_tape a_readPlace a_script a_scriptLong a_now a_refused a_shareX a_shareY a_askedRow a_kept a_aside a_spelled a_image c_thrown c_taped c_at c_part c_partFrom c_partNumber c_wrong c_partWord c_readLaw c_readBound c_readGoal c_readSites c_scripts c_sites c_asked c_outcome c_took c_acts c_drawn c_racer c_raced c_spelledMany c_hasImage c_now c_image) H → va_D A (w_X8_back E a_ a_tape a_readPlace a_script a_scriptLong a_now a_refused a_shareX a_shareY a_askedRow a_kept a_aside a_spelled a_image c_thrown c_taped c_at c_part c_partFrom c_partNumber c_wrong c_partWord c_readLaw c_readBound c_readGoal c_readSites c_scripts c_sites c_asked c_outcome c_took c_acts c_drawn c_racer c_raced c_spelledMany c_hasImage c_now c_image) → va_S A s.heap H locs → lv_has ls 2 [(0, .ref a_), (1, .int x1)] → W p l e ({ frames := 0, cells := 0, slots := 0, locals := 0 } : Room) s m #[Value.ref a_] below meth c H locs 0 0 Q (F0 m 11 ls [])) (hE : ∀ (c_now : Nat → Int32), xx = .inr c_now → ((∀ (H : Heap) (locs : List Loc) (ls : Array Slot), va_P E.1 vwCl (w_X8_back E a_ a_tape a_readPlace a_script a_scriptLong a_now a_refused a_shareX a_shareY a_askedRow a_kept a_aside a_spelled a_image c_thrown c_taped c_at c_part c_partFrom c_partNumber c_wrong c_partWord c_readLaw c_readBound c_readGoal c_readSites c_scripts c_sites c_asked c_outcome c_took c_acts c_drawn c_racer c_raced c_spelledMany c_hasImage c_now c_image) H → va_D A (w_X8_back E a_ a_tape a_readPlace a_script a_scriptLong a_now a_refused a_shareX a_shareY a_askedRow a_kept a_aside a_spelled a_image c_thrown c_taped c_at c_part c_partFrom c_partNumber c_wrong c_partWord c_readLaw c_readBound c_readGoal c_readSites c_scripts c_sites c_asked c_outcome c_took c_acts c_drawn c_racer c_raced c_spelledMany c_hasImage c_now c_image) → va_S A s.heap H locs → lv_has ls 2 [(0, .ref a_)] → W p l e ({ frames := 0, cells := 0, slots := 0, locals := 0 } : Room) s m #[Value.ref a_] below meth c H locs 0 0 Q (F0 m 36 ls [])))) (hF : B_X8_back_11 c_image x1 c_now = some xx) : ∀ (H : Heap) (locs : List Loc) (ls : Array Slot), va_P E.1 vwCl (w_X8_back E a_ a_tape a_readPlace a_script a_scriptLong a_now a_refused a_shareX a_shareY a_askedRow a_kept a_aside a_spelled a_image c_thrown c_taped c_at c_part c_partFrom c_partNumber c_wrong c_partWord c_readLaw c_readBound c_readGoal c_readSites c_scripts c_sites c_asked c_outcome c_took c_acts c_drawn c_racer c_raced c_spelledMany c_hasImage c_now c_image) H → va_D A (w_X8_back E a_ a_tape a_readPlace a_script a_scriptLong a_now a_refused a_shareX a_shareY a_askedRow a_kept a_aside a_spelled a_image c_thrown c_taped c_at c_part c_partFrom c_partNumber c_wrong c_partWord c_readLaw c_readBound c_readGoal c_readSites c_scripts c_sites c_asked c_outcome c_took c_acts c_drawn c_racer c_raced c_spelledMany c_hasImage c_now c_image) → va_S A s.heap H locs → lv_has ls 2 [(0, .ref a_), (1, .int x1)] → W p l e ({ frames := 0, cells := 0, slots := 0, locals := 0 } : Room) s m #[Value.ref a_] below meth c H locs 0 0 Q (F0 m 11 ls []) := by
  unfold B_X8_back_11 at hF
  intro H locs ls hP hD hS hl
  replace hP : va_P E.1 vwCl [(a_, .inr (9, [.int c_thrown, .ref a_tape, .int c_taped, .int c_at, .int c_part, .int c_partFrom, .int c_partNumber, .int c_wrong, .long c_partWord, .int c_readLaw, .int c_readBound, .int c_readGoal, .int c_readSites, .ref a_readPlace, .ref a_script, .ref a_scriptLong, .int c_scripts, .ref a_now, .ref a_refused, .int c_sites, .ref a_shareX, .ref a_shareY, .int c_asked, .int c_outcome, .ref a_askedRow, .int c_took, .ref a_kept, .int c_acts, .long c_drawn, .ref a_aside, .int c_racer, .int c_raced, .ref a_spelled, .int c_spelledMany, .ref a_image, .int c_hasImage])), (a_now, .inl (E.2.1, 265, .inl c_now)), (a_image, .inl (E.2.1, 265, .inl c_image))] H := hP
  replace hD : va_D A [(a_, .inr (9, [.int c_thrown, .ref a_tape, .int c_taped, .int c_at, .int c_part, .int c_partFrom, .int c_partNumber, .int c_wrong, .long c_partWord, .int c_readLaw, .int c_readBound, .int c_readGoal, .int c_readSites, .ref a_readPlace, .ref a_script, .ref a_scriptLong, .int c_scripts, .ref a_now, .ref a_refused, .int c_sites, .ref a_shareX, .ref a_shareY, .int c_asked, .int c_outcome, .ref a_askedRow, .int c_took, .ref a_kept, .int c_acts, .long c_drawn, .ref a_aside, .int c_racer, .int c_raced, .ref a_spelled, .int c_spelledMany, .ref a_image, .int c_hasImage])), (a_now, .inl (E.2.1, 265, .inl c_now)), (a_image, .inl (E.2.1, 265, .inl c_image))] := hD
  refine lv_iload_n hx hb dX8_back_11 rfl (lv_at hl 1 rfl) ?_
  refine lv_sipush (v := 265) hx hb dX8_back_12 (by decide) ?_
  refine lv_icmp_ge (tgt := 36) hx hb dX8_back_15 (by decide) (fun c_2 => ?_) (fun c_2 => ?_)
  ·
    replace hF := ip c_2 hF
    cases hF
    exact hE c_now rfl H locs ls (hP.sub [0, 1, 2] rfl) (hD.sub [0, 1, 2] (by decide) rfl) hS (lv_sub hl [0] rfl)
  ·
    replace hF := inn c_2 hF
    refine lv_aload_n hx hb dX8_back_18 rfl (lv_at hl 0 rfl) ?_
    refine gt_X8_17 (v := .ref a_now) hx hb hts i_f_X8_back_X8 hown hK hP 0 rfl (hts (.fieldLink RX8 22 "HushWatchModel" "now" "[I") (List.mem_of_getElem? (i := 2) rfl)) rfl dX8_back_19 ?_
    refine lv_iload_n hx hb dX8_back_22 rfl (lv_at hl 1 rfl) ?_
    refine lv_aload_n hx hb dX8_back_23 rfl (lv_at hl 0 rfl) ?_
    refine gt_X8_34 (v := .ref a_image) hx hb hts i_f_X8_back_X8 hown hK hP 0 rfl (hts (.fieldLink RX8 46 "HushWatchModel" "image" "[I") (List.mem_of_getElem? (i := 3) rfl)) rfl dX8_back_24 ?_
    refine lv_iload_n hx hb dX8_back_27 rfl (lv_at hl 1 rfl) ?_
    replace hF := ix_s hF
    obtain ⟨hi_3, hF⟩ := hF
    refine va_iald hx hb hK hP 2 0 rfl rfl hi_3 dX8_back_28 ?_
    replace hF := ix_s hF
    obtain ⟨hi_4, hF⟩ := hF
    refine va_iast hx hb hK hP hD hS 1 0 rfl rfl hi_4 dX8_back_29 (fun H locs hP hD hS => ?_)
    replace hP : va_P E.1 vwCl [(a_, .inr (9, [.int c_thrown, .ref a_tape, .int c_taped, .int c_at, .int c_part, .int c_partFrom, .int c_partNumber, .int c_wrong, .long c_partWord, .int c_readLaw, .int c_readBound, .int c_readGoal, .int c_readSites, .ref a_readPlace, .ref a_script, .ref a_scriptLong, .int c_scripts, .ref a_now, .ref a_refused, .int c_sites, .ref a_shareX, .ref a_shareY, .int c_asked, .int c_outcome, .ref a_askedRow, .int c_took, .ref a_kept, .int c_acts, .long c_drawn, .ref a_aside, .int c_racer, .int c_raced, .ref a_spelled, .int c_spelledMany, .ref a_image, .int c_hasImage])), (a_now, .inl (E.2.1, 265, .inl (upd c_now x1.toNatClampNeg (c_image x1.toNatClampNeg)))), (a_image, .inl (E.2.1, 265, .inl c_image))] H := hP
    replace hD : va_D A [(a_, .inr (9, [.int c_thrown, .ref a_tape, .int c_taped, .int c_at, .int c_part, .int c_partFrom, .int c_partNumber, .int c_wrong, .long c_partWord, .int c_readLaw, .int c_readBound, .int c_readGoal, .int c_readSites, .ref a_readPlace, .ref a_script, .ref a_scriptLong, .int c_scripts, .ref a_now, .ref a_refused, .int c_sites, .ref a_shareX, .ref a_shareY, .int c_asked, .int c_outcome, .ref a_askedRow, .int c_took, .ref a_kept, .int c_acts, .long c_drawn, .ref a_aside, .int c_racer, .int c_raced, .ref a_spelled, .int c_spelledMany, .ref a_image, .int c_hasImage])), (a_now, .inl (E.2.1, 265, .inl (upd c_now x1.toNatClampNeg (c_image x1.toNatClampNeg)))), (a_image, .inl (E.2.1, 265, .inl c_image))] := hD
    replace hF := nm_s hF
    obtain ⟨f_5, hf_5, hF⟩ := hF
    rw [← hf_5] at hP hD
    refine lv_iinc (v := x1 + (1 : Int32)) (lv' := [(1, .int (x1 + (1 : Int32))), (0, .ref a_)]) hx hb dX8_back_30 hl (k := 1) rfl (rfl) (by decide) rfl (fun ls hl => ?_)
    refine lv_goto (tgt := 11) hx hb dX8_back_33 (by decide) ?_
    cases hF
    exact hC (x1 + (1 : Int32)) f_5 rfl H locs ls (hP.sub [0, 1, 2] rfl) (hD.sub [0, 1, 2] (by decide) rfl) hS (lv_sub hl [1, 0] rfl)

set_option maxHeartbeats 4000000 in
set_option maxRecDepth 100000 in
theorem lw_X8_back_11 {p : Program} (l : Launch) {e : Env} {s : State} {m : MethodId} {below : List Frame} {meth : Method} {c : Code} {Q : State → Prop} (E : EE) (K : Nat) {a_ a_tape a_readPlace a_script a_scriptLong a_now a_refused a_shareX a_shareY a_askedRow a_kept a_aside a_spelled a_image : Nat} {c_thrown : Int32} {c_taped : Int32} {c_at : Int32} {c_part : Int32} {c_partFrom : Int32} {c_partNumber : Int32} {c_wrong : Int32} {c_partWord : Int64} {c_readLaw : Int32} {c_readBound : Int32} {c_readGoal : Int32} {c_readSites : Int32} {c_scripts : Int32} {c_sites : Int32} {c_asked : Int32} {c_outcome : Int32} {c_took : Int32} {c_drawn : Int64} {c_racer : Int32} {c_raced : Int32} {c_spelledMany : Int32} {c_hasImage : Int32} {c_image : Nat → Int32} {c_acts : Int32} (hx : p.tables.exec = Jvm.exec) (hb : c.code = cX8_back) (hml : c.maxLocals = 2) (hown : s.vm.findClass RX8 = some m.cls) (hts : ∀ w ∈ v_f_X8_back, w.before #[Value.ref a_] s = true) (hK : va_K E.1 vwCl (TY E) s) (hN : NX s) {A : Nat → Prop} (hA : ∀ q : Nat, s.heap.size ≤ q → A q) (j9 : Nat) (x1 : Int32) (c_now : Nat → Int32) (c_now' : Nat → Int32) (hL : lpF (fun u9 : Int32 × (Nat → Int32) => B_X8_back_11 c_image u9.1 u9.2) j9 (x1, c_now) = some c_now') (hX : (∀ (H : Heap) (locs : List Loc) (ls : Array Slot), va_P E.1 vwCl (w_X8_back E a_ a_tape a_readPlace a_script a_scriptLong a_now a_refused a_shareX a_shareY a_askedRow a_kept a_aside a_spelled a_image c_thrown c_taped c_at c_part c_partFrom c_partNumber c_wrong c_partWord c_readLaw c_readBound c_readGoal c_readSites c_scripts c_sites c_asked c_outcome c_took c_acts c_drawn c_racer c_raced c_spelledMany c_hasImage c_now' c_image) H → va_D A (w_X8_back E a_ a_tape a_readPlace a_script a_scriptLong a_now a_refused a_shareX a_shareY a_askedRow a_kept a_aside a_spelled a_image c_thrown c_taped c_at c_part c_partFrom c_partNumber c_wrong c_partWord c_readLaw c_readBound c_readGoal c_readSites c_scripts c_sites c_asked c_outcome c_took c_acts c_drawn c_racer c_raced c_spelledMany c_hasImage c_now' c_image) → va_S A s.heap H locs → lv_has ls 2 [(0, .ref a_)] → W p l e ({ frames := 0, cells := 0, slots := 0, locals := 0 } : Room) s m #[Value.ref a_] below meth c H locs 0 0 Q (F0 m 36 ls []))) : ∀ (H : Heap) (locs : List Loc) (ls : Array Slot), va_P E.1 vwCl (w_X8_back E a_ a_tape a_readPlace a_script a_scriptLong a_now a_refused a_shareX a_shareY a_askedRow a_kept a_aside a_spelled a_image c_thrown c_taped c_at c_part c_partFrom c_partNumber c_wrong c_partWord c_readLaw c_readBound c_readGoal c_readSites c_scripts c_sites c_asked c_outcome c_took c_acts c_drawn c_racer c_raced c_spelledMany c_hasImage c_now c_image) H → va_D A (w_X8_back E a_ a_tape a_readPlace a_script a_scriptLong a_now a_refused a_shareX a_shareY a_askedRow a_kept a_aside a_spelled a_image c_thrown c_taped c_at c_part c_partFrom c_partNumber c_wrong c_partWord c_readLaw c_readBound c_readGoal c_readSites c_scripts c_sites c_asked c_outcome c_took c_acts c_drawn c_racer c_raced c_spelledMany c_hasImage c_now c_image) → va_S A s.heap H locs → lv_has ls 2 [(0, .ref a_), (1, .int x1)] → W p l e ({ frames := 0, cells := 0, slots := 0, locals := 0 } : Room) s m #[Value.ref a_] below meth c H locs 0 0 Q (F0 m 11 ls []) := by
  exact lp_rule (P := (fun u9 : Int32 × (Nat → Int32) => ∀ (H : Heap) (locs : List Loc) (ls : Array Slot), va_P E.1 vwCl (w_X8_back E a_ a_tape a_readPlace a_script a_scriptLong a_now a_refused a_shareX a_shareY a_askedRow a_kept a_aside a_spelled a_image c_thrown c_taped c_at c_part c_partFrom c_partNumber c_wrong c_partWord c_readLaw c_readBound c_readGoal c_readSites c_scripts c_sites c_asked c_outcome c_took c_acts c_drawn c_racer c_raced c_spelledMany c_hasImage u9.2 c_image) H → va_D A (w_X8_back E a_ a_tape a_readPlace a_script a_scriptLong a_now a_refused a_shareX a_shareY a_askedRow a_kept a_aside a_spelled a_image c_thrown c_taped c_at c_part c_partFrom c_partNumber c_wrong c_partWord c_readLaw c_readBound c_readGoal c_readSites c_scripts c_sites c_asked c_outcome c_took c_acts c_drawn c_racer c_raced c_spelledMany c_hasImage u9.2 c_image) → va_S A s.heap H locs → lv_has ls 2 [(0, .ref a_), (1, .int u9.1)] → W p l e ({ frames := 0, cells := 0, slots := 0, locals := 0 } : Room) s m #[Value.ref a_] below meth c H locs 0 0 Q (F0 m 11 ls []))) (R := (fun r9 : (Nat → Int32) => (∀ (H : Heap) (locs : List Loc) (ls : Array Slot), va_P E.1 vwCl (w_X8_back E a_ a_tape a_readPlace a_script a_scriptLong a_now a_refused a_shareX a_shareY a_askedRow a_kept a_aside a_spelled a_image c_thrown c_taped c_at c_part c_partFrom c_partNumber c_wrong c_partWord c_readLaw c_readBound c_readGoal c_readSites c_scripts c_sites c_asked c_outcome c_took c_acts c_drawn c_racer c_raced c_spelledMany c_hasImage r9 c_image) H → va_D A (w_X8_back E a_ a_tape a_readPlace a_script a_scriptLong a_now a_refused a_shareX a_shareY a_askedRow a_kept a_aside a_spelled a_image c_thrown c_taped c_at c_part c_partFrom c_partNumber c_wrong c_partWord c_readLaw c_readBound c_readGoal c_readSites c_scripts c_sites c_asked c_outcome c_took c_acts c_drawn c_racer c_raced c_spelledMany c_hasImage r9 c_image) → va_S A s.heap H locs → lv_has ls 2 [(0, .ref a_)] → W p l e ({ frames := 0, cells := 0, slots := 0, locals := 0 } : Room) s m #[Value.ref a_] below meth c H locs 0 0 Q (F0 m 36 ls [])))) (fun u9 xx hF hC hE => wb_X8_back_11 l E K (c_thrown := c_thrown) (c_taped := c_taped) (c_at := c_at) (c_part := c_part) (c_partFrom := c_partFrom) (c_partNumber := c_partNumber) (c_wrong := c_wrong) (c_partWord := c_partWord) (c_readLaw := c_readLaw) (c_readBound := c_readBound) (c_readGoal := c_readGoal) (c_readSites := c_readSites) (c_scripts := c_scripts) (c_sites := c_sites) (c_asked := c_asked) (c_outcome := c_outcome) (c_took := c_took) (c_drawn := c_drawn) (c_racer := c_racer) (c_raced := c_raced) (c_spelledMany := c_spelledMany) (c_hasImage := c_hasImage) (c_image := c_image) (x1 := u9.1) (c_now := u9.2) (c_acts := c_acts) hx hb hml hown hts hK hN hA (fun x1 c_now q9 => hC _ q9) (fun c_now q9 => hE _ q9) hF) j9 (x1, c_now) c_now' hL hX

set_option maxHeartbeats 4000000 in
set_option maxRecDepth 100000 in
theorem f_X8_back (l : Launch) (E : EE) (sz : Nat) (K : Nat) {a_ a_tape a_readPlace a_script a_scriptLong a_now a_refused a_shareX a_shareY a_askedRow a_kept a_aside a_spelled a_image : Nat} {c_thrown : Int32} {c_taped : Int32} {c_at : Int32} {c_part : Int32} {c_partFrom : Int32} {c_partNumber : Int32} {c_wrong : Int32} {c_partWord : Int64} {c_readLaw : Int32} {c_readBound : Int32} {c_readGoal : Int32} {c_readSites : Int32} {c_scripts : Int32} {c_sites : Int32} {c_asked : Int32} {c_outcome : Int32} {c_took : Int32} {c_acts : Int32} {c_drawn : Int64} {c_racer : Int32} {c_raced : Int32} {c_spelledMany : Int32} {c_hasImage : Int32} {c_now : Nat → Int32} {c_image : Nat → Int32} {rr : Int32} {n_now : Nat → Int32} {n_acts : Int32} (hF : F_X8_back K c_now c_acts c_image c_hasImage = some (rr, n_now, n_acts)) : Met l yX8_back v_f_X8_back (({ frames := 0, cells := 0, slots := 0, locals := 0 } : Room)) (va_Pc [.ref a_] (pW E sz (w_X8_back E a_ a_tape a_readPlace a_script a_scriptLong a_now a_refused a_shareX a_shareY a_askedRow a_kept a_aside a_spelled a_image c_thrown c_taped c_at c_part c_partFrom c_partNumber c_wrong c_partWord c_readLaw c_readBound c_readGoal c_readSites c_scripts c_sites c_asked c_outcome c_took c_acts c_drawn c_racer c_raced c_spelledMany c_hasImage c_now c_image))) (va_Qi (fun (q : Int32) (_u : Unit) => q = rr) (fun (_u : Unit) tt => va_P E.1 vwCl (w_X8_back E a_ a_tape a_readPlace a_script a_scriptLong a_now a_refused a_shareX a_shareY a_askedRow a_kept a_aside a_spelled a_image c_thrown c_taped c_at c_part c_partFrom c_partNumber c_wrong c_partWord c_readLaw c_readBound c_readGoal c_readSites c_scripts c_sites c_asked c_outcome c_took n_acts c_drawn c_racer c_raced c_spelledMany c_hasImage n_now c_image) tt.heap ∧ va_D (va_A (w_X8_back E a_ a_tape a_readPlace a_script a_scriptLong a_now a_refused a_shareX a_shareY a_askedRow a_kept a_aside a_spelled a_image c_thrown c_taped c_at c_part c_partFrom c_partNumber c_wrong c_partWord c_readLaw c_readBound c_readGoal c_readSites c_scripts c_sites c_asked c_outcome c_took c_acts c_drawn c_racer c_raced c_spelledMany c_hasImage c_now c_image) sz) (w_X8_back E a_ a_tape a_readPlace a_script a_scriptLong a_now a_refused a_shareX a_shareY a_askedRow a_kept a_aside a_spelled a_image c_thrown c_taped c_at c_part c_partFrom c_partNumber c_wrong c_partWord c_readLaw c_readBound c_readGoal c_readSites c_scripts c_sites c_asked c_outcome c_took n_acts c_drawn c_racer c_raced c_spelledMany c_hasImage n_now c_image)) (va_A (w_X8_back E a_ a_tape a_readPlace a_script a_scriptLong a_now a_refused a_shareX a_shareY a_askedRow a_kept a_aside a_spelled a_image c_thrown c_taped c_at c_part c_partFrom c_partNumber c_wrong c_partWord c_readLaw c_readBound c_readGoal c_readSites c_scripts c_sites c_asked c_outcome c_took c_acts c_drawn c_racer c_raced c_spelledMany c_hasImage c_now c_image) sz)) 0 0 (va_A (w_X8_back E a_ a_tape a_readPlace a_script a_scriptLong a_now a_refused a_shareX a_shareY a_askedRow a_kept a_aside a_spelled a_image c_thrown c_taped c_at c_part c_partFrom c_partNumber c_wrong c_partWord c_readLaw c_readBound c_readGoal c_readSites c_scripts c_sites c_asked c_outcome c_took c_acts c_drawn c_racer c_raced c_spelledMany c_hasImage c_now c_image) sz) := by
  refine Met.ofW (cc := cX8_back) (maxL := 2) (ret := (some .int)) (by decide) rfl ?_
  intro p e s m args below meth c s₁ B hml hv
  obtain ⟨rfl, hsz, ⟨hK, hN⟩, hP, hD0⟩ := hv
  have hx := B.exec
  have hb := B.bytes
  have hr := B.returns
  have hts := atoms_spec (ws := v_f_X8_back) B.pre
  have hown : s.vm.findClass RX8 = some m.cls := own_of hd_X8_back.1 (findClass_of_methodNamed B.named)
  have hlocks : meth.locks = false := B.notSynchronized
  subst hsz
  have hD := hD0.self (sz := s.heap.size)
  generalize hAe : va_A (w_X8_back E a_ a_tape a_readPlace a_script a_scriptLong a_now a_refused a_shareX a_shareY a_askedRow a_kept a_aside a_spelled a_image c_thrown c_taped c_at c_part c_partFrom c_partNumber c_wrong c_partWord c_readLaw c_readBound c_readGoal c_readSites c_scripts c_sites c_asked c_outcome c_took c_acts c_drawn c_racer c_raced c_spelledMany c_hasImage c_now c_image) s.heap.size = A at hD ⊢
  have hA : ∀ q : Nat, s.heap.size ≤ q → A q := fun q h => by rw [← hAe]; exact Or.inr h
  have hS : va_S A s.heap s.heap [] := va_S.rf
  have hl := lv_entry ([.ref a_]) (n := 2) (Nat.le_of_ble_eq_true rfl)
  rw [lg_entry_eq]
  generalize (lg_sl ([.ref a_]) ++ List.replicate (2 - (lg_sl ([.ref a_])).length) Slot.unset).toArray = ls at hl ⊢
  have hl : lv_has ls 2 [(0, .ref a_)] := hl
  obtain ⟨Q, hQ⟩ : ∃ Q : State → Prop, Q = MQ below (va_Qi (fun (q : Int32) (_u : Unit) => q = rr) (fun (_u : Unit) tt => va_P E.1 vwCl (w_X8_back E a_ a_tape a_readPlace a_script a_scriptLong a_now a_refused a_shareX a_shareY a_askedRow a_kept a_aside a_spelled a_image c_thrown c_taped c_at c_part c_partFrom c_partNumber c_wrong c_partWord c_readLaw c_readBound c_readGoal c_readSites c_scripts c_sites c_asked c_outcome c_took n_acts c_drawn c_racer c_raced c_spelledMany c_hasImage n_now c_image) tt.heap ∧ va_D A (w_X8_back E a_ a_tape a_readPlace a_script a_scriptLong a_now a_refused a_shareX a_shareY a_askedRow a_kept a_aside a_spelled a_image c_thrown c_taped c_at c_part c_partFrom c_partNumber c_wrong c_partWord c_readLaw c_readBound c_readGoal c_readSites c_scripts c_sites c_asked c_outcome c_took n_acts c_drawn c_racer c_raced c_spelledMany c_hasImage n_now c_image)) A) #[Value.ref a_] s 0 0 A := ⟨_, rfl⟩
  rw [← hQ]
  change W p l e ({ frames := 0, cells := 0, slots := 0, locals := 0 } : Room) s m #[Value.ref a_] below meth c s.heap [] 0 0 Q (F0 m 0 ls [])
  suffices hh9 : ∀ (H : Heap) (locs : List Loc), va_P E.1 vwCl (w_X8_back E a_ a_tape a_readPlace a_script a_scriptLong a_now a_refused a_shareX a_shareY a_askedRow a_kept a_aside a_spelled a_image c_thrown c_taped c_at c_part c_partFrom c_partNumber c_wrong c_partWord c_readLaw c_readBound c_readGoal c_readSites c_scripts c_sites c_asked c_outcome c_took c_acts c_drawn c_racer c_raced c_spelledMany c_hasImage c_now c_image) H → va_D A (w_X8_back E a_ a_tape a_readPlace a_script a_scriptLong a_now a_refused a_shareX a_shareY a_askedRow a_kept a_aside a_spelled a_image c_thrown c_taped c_at c_part c_partFrom c_partNumber c_wrong c_partWord c_readLaw c_readBound c_readGoal c_readSites c_scripts c_sites c_asked c_outcome c_took c_acts c_drawn c_racer c_raced c_spelledMany c_hasImage c_now c_image) → va_S A s.heap H locs → W p l e ({ frames := 0, cells := 0, slots := 0, locals := 0 } : Room) s m #[Value.ref a_] below meth c H locs 0 0 Q (F0 m 0 ls []) from hh9 s.heap [] hP hD hS
  clear hP hD hS
  intro H locs hP hD hS
  replace hP : va_P E.1 vwCl [(a_, .inr (9, [.int c_thrown, .ref a_tape, .int c_taped, .int c_at, .int c_part, .int c_partFrom, .int c_partNumber, .int c_wrong, .long c_partWord, .int c_readLaw, .int c_readBound, .int c_readGoal, .int c_readSites, .ref a_readPlace, .ref a_script, .ref a_scriptLong, .int c_scripts, .ref a_now, .ref a_refused, .int c_sites, .ref a_shareX, .ref a_shareY, .int c_asked, .int c_outcome, .ref a_askedRow, .int c_took, .ref a_kept, .int c_acts, .long c_drawn, .ref a_aside, .int c_racer, .int c_raced, .ref a_spelled, .int c_spelledMany, .ref a_image, .int c_hasImage])), (a_now, .inl (E.2.1, 265, .inl c_now)), (a_image, .inl (E.2.1, 265, .inl c_image))] H := hP
  replace hD : va_D A [(a_, .inr (9, [.int c_thrown, .ref a_tape, .int c_taped, .int c_at, .int c_part, .int c_partFrom, .int c_partNumber, .int c_wrong, .long c_partWord, .int c_readLaw, .int c_readBound, .int c_readGoal, .int c_readSites, .ref a_readPlace, .ref a_script, .ref a_scriptLong, .int c_scripts, .ref a_now, .ref a_refused, .int c_sites, .ref a_shareX, .ref a_shareY, .int c_asked, .int c_outcome, .ref a_askedRow, .int c_took, .ref a_kept, .int c_acts, .long c_drawn, .ref a_aside, .int c_racer, .int c_raced, .ref a_spelled, .int c_spelledMany, .ref a_image, .int c_hasImage])), (a_now, .inl (E.2.1, 265, .inl c_now)), (a_image, .inl (E.2.1, 265, .inl c_image))] := hD
  unfold F_X8_back at hF
  refine lv_aload_n hx hb dX8_back_0 rfl (lv_at hl 0 rfl) ?_
  refine gt_X8_35 (v := .int c_hasImage) hx hb hts i_f_X8_back_X8 hown hK hP 0 rfl (hts (.fieldLink RX8 208 "HushWatchModel" "hasImage" "Z") (List.mem_of_getElem? (i := 1) rfl)) rfl dX8_back_1 ?_
  refine lv_if_ne (tgt := 9) hx hb dX8_back_4 (by decide) (fun c_1 => ?_) (fun c_1 => ?_)
  ·
    replace hF := inn c_1 hF
    refine lv_iconst (v := 0) hx hb dX8_back_9 (by decide) ?_
    refine lv_istore_n (lv' := [(1, .int (0 : Int32)), (0, .ref a_)]) hx hb dX8_back_10 rfl hl (by decide) rfl (fun ls hl => ?_)
    replace hF := bd1_s hF
    obtain ⟨c_now_6, hL_7, hF⟩ := hF
    refine lw_X8_back_11 l E K (c_thrown := c_thrown) (c_taped := c_taped) (c_at := c_at) (c_part := c_part) (c_partFrom := c_partFrom) (c_partNumber := c_partNumber) (c_wrong := c_wrong) (c_partWord := c_partWord) (c_readLaw := c_readLaw) (c_readBound := c_readBound) (c_readGoal := c_readGoal) (c_readSites := c_readSites) (c_scripts := c_scripts) (c_sites := c_sites) (c_asked := c_asked) (c_outcome := c_outcome) (c_took := c_took) (c_drawn := c_drawn) (c_racer := c_racer) (c_raced := c_raced) (c_spelledMany := c_spelledMany) (c_hasImage := c_hasImage) (c_image := c_image) (c_acts := c_acts) hx hb hml hown hts hK hN hA K (0 : Int32) c_now c_now_6 hL_7 ?_ H locs ls (hP.sub [0, 1, 2] rfl) (hD.sub [0, 1, 2] (by decide) rfl) hS (lv_sub hl [1, 0] rfl)
    ·
      intro H locs ls hP hD hS hl
      replace hP : va_P E.1 vwCl [(a_, .inr (9, [.int c_thrown, .ref a_tape, .int c_taped, .int c_at, .int c_part, .int c_partFrom, .int c_partNumber, .int c_wrong, .long c_partWord, .int c_readLaw, .int c_readBound, .int c_readGoal, .int c_readSites, .ref a_readPlace, .ref a_script, .ref a_scriptLong, .int c_scripts, .ref a_now, .ref a_refused, .int c_sites, .ref a_shareX, .ref a_shareY, .int c_asked, .int c_outcome, .ref a_askedRow, .int c_took, .ref a_kept, .int c_acts, .long c_drawn, .ref a_aside, .int c_racer, .int c_raced, .ref a_spelled, .int c_spelledMany, .ref a_image, .int c_hasImage])), (a_now, .inl (E.2.1, 265, .inl c_now_6)), (a_image, .inl (E.2.1, 265, .inl c_image))] H := hP
      replace hD : va_D A [(a_, .inr (9, [.int c_thrown, .ref a_tape, .int c_taped, .int c_at, .int c_part, .int c_partFrom, .int c_partNumber, .int c_wrong, .long c_partWord, .int c_readLaw, .int c_readBound, .int c_readGoal, .int c_readSites, .ref a_readPlace, .ref a_script, .ref a_scriptLong, .int c_scripts, .ref a_now, .ref a_refused, .int c_sites, .ref a_shareX, .ref a_shareY, .int c_asked, .int c_outcome, .ref a_askedRow, .int c_took, .ref a_kept, .int c_acts, .long c_drawn, .ref a_aside, .int c_racer, .int c_raced, .ref a_spelled, .int c_spelledMany, .ref a_image, .int c_hasImage])), (a_now, .inl (E.2.1, 265, .inl c_now_6)), (a_image, .inl (E.2.1, 265, .inl c_image))] := hD
      refine lv_aload_n hx hb dX8_back_36 rfl (lv_at hl 0 rfl) ?_
      refine lv_iconst (v := 0) hx hb dX8_back_37 (by decide) ?_
      refine pt_X8_27 (v := .int (0 : Int32)) hx hb hts i_f_X8_back_X8 hown hK hP hD hS 0 rfl (hts (.fieldLink RX8 205 "HushWatchModel" "acts" "I") (List.mem_of_getElem? (i := 4) rfl)) rfl rfl (Nat.le_of_ble_eq_true rfl) dX8_back_38 (fun H locs hP hD hS => ?_)
      replace hP : va_P E.1 vwCl [(a_, .inr (9, [.int c_thrown, .ref a_tape, .int c_taped, .int c_at, .int c_part, .int c_partFrom, .int c_partNumber, .int c_wrong, .long c_partWord, .int c_readLaw, .int c_readBound, .int c_readGoal, .int c_readSites, .ref a_readPlace, .ref a_script, .ref a_scriptLong, .int c_scripts, .ref a_now, .ref a_refused, .int c_sites, .ref a_shareX, .ref a_shareY, .int c_asked, .int c_outcome, .ref a_askedRow, .int c_took, .ref a_kept, .int (0 : Int32), .long c_drawn, .ref a_aside, .int c_racer, .int c_raced, .ref a_spelled, .int c_spelledMany, .ref a_image, .int c_hasImage])), (a_now, .inl (E.2.1, 265, .inl c_now_6)), (a_image, .inl (E.2.1, 265, .inl c_image))] H := hP
      replace hD : va_D A [(a_, .inr (9, [.int c_thrown, .ref a_tape, .int c_taped, .int c_at, .int c_part, .int c_partFrom, .int c_partNumber, .int c_wrong, .long c_partWord, .int c_readLaw, .int c_readBound, .int c_readGoal, .int c_readSites, .ref a_readPlace, .ref a_script, .ref a_scriptLong, .int c_scripts, .ref a_now, .ref a_refused, .int c_sites, .ref a_shareX, .ref a_shareY, .int c_asked, .int c_outcome, .ref a_askedRow, .int c_took, .ref a_kept, .int (0 : Int32), .long c_drawn, .ref a_aside, .int c_racer, .int c_raced, .ref a_spelled, .int c_spelledMany, .ref a_image, .int c_hasImage])), (a_now, .inl (E.2.1, 265, .inl c_now_6)), (a_image, .inl (E.2.1, 265, .inl c_image))] := hD
      refine lv_aload_n hx hb dX8_back_41 rfl (lv_at hl 0 rfl) ?_
      refine gt_X8_17 (v := .ref a_now) hx hb hts i_f_X8_back_X8 hown hK hP 0 rfl (hts (.fieldLink RX8 22 "HushWatchModel" "now" "[I") (List.mem_of_getElem? (i := 2) rfl)) rfl dX8_back_42 ?_
      refine lv_bipush (v := 67) hx hb dX8_back_45 (by decide) ?_
      refine va_iald hx hb hK hP 1 0 rfl rfl (vin rfl) dX8_back_47 ?_
      refine W.eq (g2 := F0 m 48 ls [.int (c_now_6 67)]) rfl ?_
      rw [hQ]
      have h9 := fin9 (P := fun u9 : Int32 × (Nat → Int32) × Int32 => (c_now_6 67) = u9.1 ∧ va_P E.1 vwCl (w_X8_back E a_ a_tape a_readPlace a_script a_scriptLong a_now a_refused a_shareX a_shareY a_askedRow a_kept a_aside a_spelled a_image c_thrown c_taped c_at c_part c_partFrom c_partNumber c_wrong c_partWord c_readLaw c_readBound c_readGoal c_readSites c_scripts c_sites c_asked c_outcome c_took u9.2.2 c_drawn c_racer c_raced c_spelledMany c_hasImage u9.2.1 c_image) H ∧ va_D A (w_X8_back E a_ a_tape a_readPlace a_script a_scriptLong a_now a_refused a_shareX a_shareY a_askedRow a_kept a_aside a_spelled a_image c_thrown c_taped c_at c_part c_partFrom c_partNumber c_wrong c_partWord c_readLaw c_readBound c_readGoal c_readSites c_scripts c_sites c_asked c_outcome c_took u9.2.2 c_drawn c_racer c_raced c_spelledMany c_hasImage u9.2.1 c_image)) hF ⟨rfl, hP, hD⟩
      obtain ⟨e9_0, hP9, hD9⟩ := h9
      exact W.iret (v := c_now_6 67) hx hb hr (fun tt ht hW => ⟨⟨_, (), rfl, e9_0, ht ▸ hP9, hD9⟩, hS.F ht⟩) hS.2.2 dX8_back_48
  ·
    replace hF := ip c_1 hF
    refine lv_iconst (v := -1) hx hb dX8_back_7 (by decide) ?_
    rw [hQ]
    have h9 := fin9 (P := fun u9 : Int32 × (Nat → Int32) × Int32 => (-1 : Int32) = u9.1 ∧ va_P E.1 vwCl (w_X8_back E a_ a_tape a_readPlace a_script a_scriptLong a_now a_refused a_shareX a_shareY a_askedRow a_kept a_aside a_spelled a_image c_thrown c_taped c_at c_part c_partFrom c_partNumber c_wrong c_partWord c_readLaw c_readBound c_readGoal c_readSites c_scripts c_sites c_asked c_outcome c_took u9.2.2 c_drawn c_racer c_raced c_spelledMany c_hasImage u9.2.1 c_image) H ∧ va_D A (w_X8_back E a_ a_tape a_readPlace a_script a_scriptLong a_now a_refused a_shareX a_shareY a_askedRow a_kept a_aside a_spelled a_image c_thrown c_taped c_at c_part c_partFrom c_partNumber c_wrong c_partWord c_readLaw c_readBound c_readGoal c_readSites c_scripts c_sites c_asked c_outcome c_took u9.2.2 c_drawn c_racer c_raced c_spelledMany c_hasImage u9.2.1 c_image)) hF ⟨rfl, hP, hD⟩
    obtain ⟨e9_0, hP9, hD9⟩ := h9
    exact W.iret (v := (-1 : Int32)) hx hb hr (fun tt ht hW => ⟨⟨_, (), rfl, e9_0, ht ▸ hP9, hD9⟩, hS.F ht⟩) hS.2.2 dX8_back_8

def F_X8_begins (K : Nat) (c_tape : Nat → Int32) (c_taped : Int32) (c_at : Int32) (c_part : Int32) (c_partFrom : Int32) (c_partNumber : Int32) (c_wrong : Int32) (c_partWord : Int64) : Option (Int32 × Int32 × Int32 × Int32 × Int32 × Int64) :=
  bd5 (F_X8_next K c_tape c_taped (0 : Int32) c_part c_partFrom c_partNumber c_partWord) (fun w_1 w_2 w_3 w_4 w_5 => some (w_1, w_2, w_3, w_4, (-1 : Int32), w_5))
abbrev w_X8_begins (E : EE) (a_ a_tape a_readPlace a_script a_scriptLong a_now a_refused a_shareX a_shareY a_askedRow a_kept a_aside a_spelled a_image : Nat) (c_thrown : Int32) (c_taped : Int32) (c_at : Int32) (c_part : Int32) (c_partFrom : Int32) (c_partNumber : Int32) (c_wrong : Int32) (c_partWord : Int64) (c_readLaw : Int32) (c_readBound : Int32) (c_readGoal : Int32) (c_readSites : Int32) (c_scripts : Int32) (c_sites : Int32) (c_asked : Int32) (c_outcome : Int32) (c_took : Int32) (c_acts : Int32) (c_drawn : Int64) (c_racer : Int32) (c_raced : Int32) (c_spelledMany : Int32) (c_hasImage : Int32) (c_tape : Nat → Int32) : va_W := [(a_, .inr (9, [.int c_thrown, .ref a_tape, .int c_taped, .int c_at, .int c_part, .int c_partFrom, .int c_partNumber, .int c_wrong, .long c_partWord, .int c_readLaw, .int c_readBound, .int c_readGoal, .int c_readSites, .ref a_readPlace, .ref a_script, .ref a_scriptLong, .int c_scripts, .ref a_now, .ref a_refused, .int c_sites, .ref a_shareX, .ref a_shareY, .int c_asked, .int c_outcome, .ref a_askedRow, .int c_took, .ref a_kept, .int c_acts, .long c_drawn, .ref a_aside, .int c_racer, .int c_raced, .ref a_spelled, .int c_spelledMany, .ref a_image, .int c_hasImage])), (a_tape, .inl (E.2.1, 320, .inl c_tape))]
def v_f_X8_begins : List Cond := List.cons (.code yX8_begins cX8_begins 1 none) (HAppend.hAppend (α := List Cond) (β := List Cond) (γ := List Cond) [.fieldLink RX8 64 "HushWatchModel" "at" "I", .fieldLink RX8 103 "HushWatchModel" "wrong" "I", .methodLink RX8 109 yX8_next, .instanceMethod yX8_next, .selects RX8 yX8_next yX8_next, .initialized RX8] (HAppend.hAppend (α := List Cond) (β := List Cond) (γ := List Cond) wsX80 (HAppend.hAppend (α := List Cond) (β := List Cond) (γ := List Cond) v_f_X8_next [])))
theorem gw_f_X8_begins : v_f_X8_begins.all goodWord = true := by decide +kernel
theorem i_f_X8_begins_X8 : ∀ w ∈ wsX80, w ∈ v_f_X8_begins := fun _ h => List.mem_cons_of_mem _ (List.mem_append_right _ (List.mem_append_left _ h))
theorem g_f_X8_begins_f_X8_next_109 : GoodIn v_f_X8_begins (wsV RX8 109 RX8 yX8_next v_f_X8_next) := goodIn_app (goodIn_of _ (by decide +kernel)) (goodIn_sub (fun _ h => List.mem_cons_of_mem _ (List.mem_append_right _ (List.mem_append_right _ (List.mem_append_left _ h)))) gw_f_X8_next)
theorem hd_X8_begins : yX8_begins.cls = RX8 ∧ yX8_begins.cls ≠ "java/lang/invoke/MethodHandle" ∧ yX8_begins.cls ≠ "java/lang/invoke/VarHandle" ∧ (parseMethodDescriptor yX8_begins.desc).map (fun d => d.parameters.length) = some 0 := by decide +kernel
set_option maxHeartbeats 4000000 in
set_option maxRecDepth 100000 in
theorem f_X8_begins (l : Launch) (E : EE) (sz : Nat) (K : Nat) {a_ a_tape a_readPlace a_script a_scriptLong a_now a_refused a_shareX a_shareY a_askedRow a_kept a_aside a_spelled a_image : Nat} {c_thrown : Int32} {c_taped : Int32} {c_at : Int32} {c_part : Int32} {c_partFrom : Int32} {c_partNumber : Int32} {c_wrong : Int32} {c_partWord : Int64} {c_readLaw : Int32} {c_readBound : Int32} {c_readGoal : Int32} {c_readSites : Int32} {c_scripts : Int32} {c_sites : Int32} {c_asked : Int32} {c_outcome : Int32} {c_took : Int32} {c_acts : Int32} {c_drawn : Int64} {c_racer : Int32} {c_raced : Int32} {c_spelledMany : Int32} {c_hasImage : Int32} {c_tape : Nat → Int32} {n_at : Int32} {n_part : Int32} {n_partFrom : Int32} {n_partNumber : Int32} {n_wrong : Int32} {n_partWord : Int64} (hF : F_X8_begins K c_tape c_taped c_at c_part c_partFrom c_partNumber c_wrong c_partWord = some (n_at, n_part, n_partFrom, n_partNumber, n_wrong, n_partWord)) : Met l yX8_begins v_f_X8_begins (({ frames := 3, cells := 0, slots := 0, locals := 68 } : Room)) (va_Pc [.ref a_] (pW E sz (w_X8_begins E a_ a_tape a_readPlace a_script a_scriptLong a_now a_refused a_shareX a_shareY a_askedRow a_kept a_aside a_spelled a_image c_thrown c_taped c_at c_part c_partFrom c_partNumber c_wrong c_partWord c_readLaw c_readBound c_readGoal c_readSites c_scripts c_sites c_asked c_outcome c_took c_acts c_drawn c_racer c_raced c_spelledMany c_hasImage c_tape))) (va_Qv (fun (_u : Unit) => True) (fun (_u : Unit) tt => va_P E.1 vwCl (w_X8_begins E a_ a_tape a_readPlace a_script a_scriptLong a_now a_refused a_shareX a_shareY a_askedRow a_kept a_aside a_spelled a_image c_thrown c_taped n_at n_part n_partFrom n_partNumber n_wrong n_partWord c_readLaw c_readBound c_readGoal c_readSites c_scripts c_sites c_asked c_outcome c_took c_acts c_drawn c_racer c_raced c_spelledMany c_hasImage c_tape) tt.heap ∧ va_D (va_A (w_X8_begins E a_ a_tape a_readPlace a_script a_scriptLong a_now a_refused a_shareX a_shareY a_askedRow a_kept a_aside a_spelled a_image c_thrown c_taped c_at c_part c_partFrom c_partNumber c_wrong c_partWord c_readLaw c_readBound c_readGoal c_readSites c_scripts c_sites c_asked c_outcome c_took c_acts c_drawn c_racer c_raced c_spelledMany c_hasImage c_tape) sz) (w_X8_begins E a_ a_tape a_readPlace a_script a_scriptLong a_now a_refused a_shareX a_shareY a_askedRow a_kept a_aside a_spelled a_image c_thrown c_taped n_at n_part n_partFrom n_partNumber n_wrong n_partWord c_readLaw c_readBound c_readGoal c_readSites c_scripts c_sites c_asked c_outcome c_took c_acts c_drawn c_racer c_raced c_spelledMany c_hasImage c_tape)) (va_A (w_X8_begins E a_ a_tape a_readPlace a_script a_scriptLong a_now a_refused a_shareX a_shareY a_askedRow a_kept a_aside a_spelled a_image c_thrown c_taped c_at c_part c_partFrom c_partNumber c_wrong c_partWord c_readLaw c_readBound c_readGoal c_readSites c_scripts c_sites c_asked c_outcome c_took c_acts c_drawn c_racer c_raced c_spelledMany c_hasImage c_tape) sz)) 0 0 (va_A (w_X8_begins E a_ a_tape a_readPlace a_script a_scriptLong a_now a_refused a_shareX a_shareY a_askedRow a_kept a_aside a_spelled a_image c_thrown c_taped c_at c_part c_partFrom c_partNumber c_wrong c_partWord c_readLaw c_readBound c_readGoal c_readSites c_scripts c_sites c_asked c_outcome c_took c_acts c_drawn c_racer c_raced c_spelledMany c_hasImage c_tape) sz) := by
  refine Met.ofW (cc := cX8_begins) (maxL := 1) (ret := none) (by decide) rfl ?_
  intro p e s m args below meth c s₁ B hml hv
  obtain ⟨rfl, hsz, ⟨hK, hN⟩, hP, hD0⟩ := hv
  have hx := B.exec
  have hb := B.bytes
  have hr := B.returns
  have hts := atoms_spec (ws := v_f_X8_begins) B.pre
  have hown : s.vm.findClass RX8 = some m.cls := own_of hd_X8_begins.1 (findClass_of_methodNamed B.named)
  have hlocks : meth.locks = false := B.notSynchronized
  subst hsz
  have hD := hD0.self (sz := s.heap.size)
  generalize hAe : va_A (w_X8_begins E a_ a_tape a_readPlace a_script a_scriptLong a_now a_refused a_shareX a_shareY a_askedRow a_kept a_aside a_spelled a_image c_thrown c_taped c_at c_part c_partFrom c_partNumber c_wrong c_partWord c_readLaw c_readBound c_readGoal c_readSites c_scripts c_sites c_asked c_outcome c_took c_acts c_drawn c_racer c_raced c_spelledMany c_hasImage c_tape) s.heap.size = A at hD ⊢
  have hA : ∀ q : Nat, s.heap.size ≤ q → A q := fun q h => by rw [← hAe]; exact Or.inr h
  have hS : va_S A s.heap s.heap [] := va_S.rf
  have hl := lv_entry ([.ref a_]) (n := 1) (Nat.le_of_ble_eq_true rfl)
  rw [lg_entry_eq]
  generalize (lg_sl ([.ref a_]) ++ List.replicate (1 - (lg_sl ([.ref a_])).length) Slot.unset).toArray = ls at hl ⊢
  have hl : lv_has ls 1 [(0, .ref a_)] := hl
  obtain ⟨Q, hQ⟩ : ∃ Q : State → Prop, Q = MQ below (va_Qv (fun (_u : Unit) => True) (fun (_u : Unit) tt => va_P E.1 vwCl (w_X8_begins E a_ a_tape a_readPlace a_script a_scriptLong a_now a_refused a_shareX a_shareY a_askedRow a_kept a_aside a_spelled a_image c_thrown c_taped n_at n_part n_partFrom n_partNumber n_wrong n_partWord c_readLaw c_readBound c_readGoal c_readSites c_scripts c_sites c_asked c_outcome c_took c_acts c_drawn c_racer c_raced c_spelledMany c_hasImage c_tape) tt.heap ∧ va_D A (w_X8_begins E a_ a_tape a_readPlace a_script a_scriptLong a_now a_refused a_shareX a_shareY a_askedRow a_kept a_aside a_spelled a_image c_thrown c_taped n_at n_part n_partFrom n_partNumber n_wrong n_partWord c_readLaw c_readBound c_readGoal c_readSites c_scripts c_sites c_asked c_outcome c_took c_acts c_drawn c_racer c_raced c_spelledMany c_hasImage c_tape)) A) #[Value.ref a_] s 0 0 A := ⟨_, rfl⟩
  rw [← hQ]
  change W p l e ({ frames := 3, cells := 0, slots := 0, locals := 68 } : Room) s m #[Value.ref a_] below meth c s.heap [] 0 0 Q (F0 m 0 ls [])
  suffices hh9 : ∀ (H : Heap) (locs : List Loc), va_P E.1 vwCl (w_X8_begins E a_ a_tape a_readPlace a_script a_scriptLong a_now a_refused a_shareX a_shareY a_askedRow a_kept a_aside a_spelled a_image c_thrown c_taped c_at c_part c_partFrom c_partNumber c_wrong c_partWord c_readLaw c_readBound c_readGoal c_readSites c_scripts c_sites c_asked c_outcome c_took c_acts c_drawn c_racer c_raced c_spelledMany c_hasImage c_tape) H → va_D A (w_X8_begins E a_ a_tape a_readPlace a_script a_scriptLong a_now a_refused a_shareX a_shareY a_askedRow a_kept a_aside a_spelled a_image c_thrown c_taped c_at c_part c_partFrom c_partNumber c_wrong c_partWord c_readLaw c_readBound c_readGoal c_readSites c_scripts c_sites c_asked c_outcome c_took c_acts c_drawn c_racer c_raced c_spelledMany c_hasImage c_tape) → va_S A s.heap H locs → W p l e ({ frames := 3, cells := 0, slots := 0, locals := 68 } : Room) s m #[Value.ref a_] below meth c H locs 0 0 Q (F0 m 0 ls []) from hh9 s.heap [] hP hD hS
  clear hP hD hS
  intro H locs hP hD hS
  replace hP : va_P E.1 vwCl [(a_, .inr (9, [.int c_thrown, .ref a_tape, .int c_taped, .int c_at, .int c_part, .int c_partFrom, .int c_partNumber, .int c_wrong, .long c_partWord, .int c_readLaw, .int c_readBound, .int c_readGoal, .int c_readSites, .ref a_readPlace, .ref a_script, .ref a_scriptLong, .int c_scripts, .ref a_now, .ref a_refused, .int c_sites, .ref a_shareX, .ref a_shareY, .int c_asked, .int c_outcome, .ref a_askedRow, .int c_took, .ref a_kept, .int c_acts, .long c_drawn, .ref a_aside, .int c_racer, .int c_raced, .ref a_spelled, .int c_spelledMany, .ref a_image, .int c_hasImage])), (a_tape, .inl (E.2.1, 320, .inl c_tape))] H := hP
  replace hD : va_D A [(a_, .inr (9, [.int c_thrown, .ref a_tape, .int c_taped, .int c_at, .int c_part, .int c_partFrom, .int c_partNumber, .int c_wrong, .long c_partWord, .int c_readLaw, .int c_readBound, .int c_readGoal, .int c_readSites, .ref a_readPlace, .ref a_script, .ref a_scriptLong, .int c_scripts, .ref a_now, .ref a_refused, .int c_sites, .ref a_shareX, .ref a_shareY, .int c_asked, .int c_outcome, .ref a_askedRow, .int c_took, .ref a_kept, .int c_acts, .long c_drawn, .ref a_aside, .int c_racer, .int c_raced, .ref a_spelled, .int c_spelledMany, .ref a_image, .int c_hasImage])), (a_tape, .inl (E.2.1, 320, .inl c_tape))] := hD
  unfold F_X8_begins at hF
  refine lv_aload_n hx hb dX8_begins_0 rfl (lv_at hl 0 rfl) ?_
  refine lv_iconst (v := 0) hx hb dX8_begins_1 (by decide) ?_
  refine pt_X8_3 (v := .int (0 : Int32)) hx hb hts i_f_X8_begins_X8 hown hK hP hD hS 0 rfl (hts (.fieldLink RX8 64 "HushWatchModel" "at" "I") (List.mem_of_getElem? (i := 1) rfl)) rfl rfl (Nat.le_of_ble_eq_true rfl) dX8_begins_2 (fun H locs hP hD hS => ?_)
  replace hP : va_P E.1 vwCl [(a_, .inr (9, [.int c_thrown, .ref a_tape, .int c_taped, .int (0 : Int32), .int c_part, .int c_partFrom, .int c_partNumber, .int c_wrong, .long c_partWord, .int c_readLaw, .int c_readBound, .int c_readGoal, .int c_readSites, .ref a_readPlace, .ref a_script, .ref a_scriptLong, .int c_scripts, .ref a_now, .ref a_refused, .int c_sites, .ref a_shareX, .ref a_shareY, .int c_asked, .int c_outcome, .ref a_askedRow, .int c_took, .ref a_kept, .int c_acts, .long c_drawn, .ref a_aside, .int c_racer, .int c_raced, .ref a_spelled, .int c_spelledMany, .ref a_image, .int c_hasImage])), (a_tape, .inl (E.2.1, 320, .inl c_tape))] H := hP
  replace hD : va_D A [(a_, .inr (9, [.int c_thrown, .ref a_tape, .int c_taped, .int (0 : Int32), .int c_part, .int c_partFrom, .int c_partNumber, .int c_wrong, .long c_partWord, .int c_readLaw, .int c_readBound, .int c_readGoal, .int c_readSites, .ref a_readPlace, .ref a_script, .ref a_scriptLong, .int c_scripts, .ref a_now, .ref a_refused, .int c_sites, .ref a_shareX, .ref a_shareY, .int c_asked, .int c_outcome, .ref a_askedRow, .int c_took, .ref a_kept, .int c_acts, .long c_drawn, .ref a_aside, .int c_racer, .int c_raced, .ref a_spelled, .int c_spelledMany, .ref a_image, .int c_hasImage])), (a_tape, .inl (E.2.1, 320, .inl c_tape))] := hD
  refine lv_aload_n hx hb dX8_begins_5 rfl (lv_at hl 0 rfl) ?_
  refine lv_iconst (v := -1) hx hb dX8_begins_6 (by decide) ?_
  refine pt_X8_7 (v := .int (-1 : Int32)) hx hb hts i_f_X8_begins_X8 hown hK hP hD hS 0 rfl (hts (.fieldLink RX8 103 "HushWatchModel" "wrong" "I") (List.mem_of_getElem? (i := 2) rfl)) rfl rfl (Nat.le_of_ble_eq_true rfl) dX8_begins_7 (fun H locs hP hD hS => ?_)
  replace hP : va_P E.1 vwCl [(a_, .inr (9, [.int c_thrown, .ref a_tape, .int c_taped, .int (0 : Int32), .int c_part, .int c_partFrom, .int c_partNumber, .int (-1 : Int32), .long c_partWord, .int c_readLaw, .int c_readBound, .int c_readGoal, .int c_readSites, .ref a_readPlace, .ref a_script, .ref a_scriptLong, .int c_scripts, .ref a_now, .ref a_refused, .int c_sites, .ref a_shareX, .ref a_shareY, .int c_asked, .int c_outcome, .ref a_askedRow, .int c_took, .ref a_kept, .int c_acts, .long c_drawn, .ref a_aside, .int c_racer, .int c_raced, .ref a_spelled, .int c_spelledMany, .ref a_image, .int c_hasImage])), (a_tape, .inl (E.2.1, 320, .inl c_tape))] H := hP
  replace hD : va_D A [(a_, .inr (9, [.int c_thrown, .ref a_tape, .int c_taped, .int (0 : Int32), .int c_part, .int c_partFrom, .int c_partNumber, .int (-1 : Int32), .long c_partWord, .int c_readLaw, .int c_readBound, .int c_readGoal, .int c_readSites, .ref a_readPlace, .ref a_script, .ref a_scriptLong, .int c_scripts, .ref a_now, .ref a_refused, .int c_sites, .ref a_shareX, .ref a_shareY, .int c_asked, .int c_outcome, .ref a_askedRow, .int c_took, .ref a_kept, .int c_acts, .long c_drawn, .ref a_aside, .int c_racer, .int c_raced, .ref a_spelled, .int c_spelledMany, .ref a_image, .int c_hasImage])), (a_tape, .inl (E.2.1, 320, .inl c_tape))] := hD
  refine lv_aload_n hx hb dX8_begins_10 rfl (lv_at hl 0 rfl) ?_
  replace hF := bd5_s hF
  obtain ⟨w_1, w_2, w_3, w_4, w_5, hc_6, hF⟩ := hF
  obtain ⟨hPc, hDc, hFc⟩ := wcut (wc := (w_X8_next E a_ a_tape a_readPlace a_script a_scriptLong a_now a_refused a_shareX a_shareY a_askedRow a_kept a_aside a_spelled a_image c_thrown c_taped (0 : Int32) c_part c_partFrom c_partNumber (-1 : Int32) c_partWord c_readLaw c_readBound c_readGoal c_readSites c_scripts c_sites c_asked c_outcome c_took c_acts c_drawn c_racer c_raced c_spelledMany c_hasImage c_tape)) hP hD hS hA [0, 1] (by decide) rfl
  have hrc := va_recv hK hPc (ci := 9) (q0 := 0) rfl rfl
  refine cE_v (wc := (w_X8_next E a_ a_tape a_readPlace a_script a_scriptLong a_now a_refused a_shareX a_shareY a_askedRow a_kept a_aside a_spelled a_image c_thrown c_taped (0 : Int32) c_part c_partFrom c_partNumber (-1 : Int32) c_partWord c_readLaw c_readBound c_readGoal c_readSites c_scripts c_sites c_asked c_outcome c_took c_acts c_drawn c_racer c_raced c_spelledMany c_hasImage c_tape)) (wr := []) (w1 := (w_X8_next E a_ a_tape a_readPlace a_script a_scriptLong a_now a_refused a_shareX a_shareY a_askedRow a_kept a_aside a_spelled a_image c_thrown c_taped w_1 w_2 w_3 w_4 (-1 : Int32) w_5 c_readLaw c_readBound c_readGoal c_readSites c_scripts c_sites c_asked c_outcome c_took c_acts c_drawn c_racer c_raced c_spelledMany c_hasImage c_tape)) (va_runV (As := []) (rest := [])  ⟨hx, hb, hml, hown, hts⟩ (f_X8_next l E H.size K (a_ := a_) (a_tape := a_tape) (a_readPlace := a_readPlace) (a_script := a_script) (a_scriptLong := a_scriptLong) (a_now := a_now) (a_refused := a_refused) (a_shareX := a_shareX) (a_shareY := a_shareY) (a_askedRow := a_askedRow) (a_kept := a_kept) (a_aside := a_aside) (a_spelled := a_spelled) (a_image := a_image) (c_thrown := c_thrown) (c_taped := c_taped) (c_at := (0 : Int32)) (c_part := c_part) (c_partFrom := c_partFrom) (c_partNumber := c_partNumber) (c_wrong := (-1 : Int32)) (c_partWord := c_partWord) (c_readLaw := c_readLaw) (c_readBound := c_readBound) (c_readGoal := c_readGoal) (c_readSites := c_readSites) (c_scripts := c_scripts) (c_sites := c_sites) (c_asked := c_asked) (c_outcome := c_outcome) (c_took := c_took) (c_acts := c_acts) (c_drawn := c_drawn) (c_racer := c_racer) (c_raced := c_raced) (c_spelledMany := c_spelledMany) (c_hasImage := c_hasImage) (c_tape := c_tape) hc_6) (cwV 0 hts g_f_X8_begins_f_X8_next_109 rfl rfl rfl hd_X8_next ⟨Nat.le_of_ble_eq_true rfl, Nat.le_of_ble_eq_true rfl⟩) ⟨pW.blind, hrc, (pW.pre ⟨hK, hN⟩ hPc hDc)⟩ rfl rfl hl.1 rfl (lv_room (Nat.le_of_ble_eq_true rfl)) dX8_begins_11 ⟨Nat.le_of_ble_eq_true rfl, Nat.le_of_ble_eq_true rfl⟩) hS hFc hP hD [0, 1] [] rfl rfl (by decide) (by decide) (fun H locs hP hD hS => ?_)
  replace hP : va_P E.1 vwCl [(a_, .inr (9, [.int c_thrown, .ref a_tape, .int c_taped, .int w_1, .int w_2, .int w_3, .int w_4, .int (-1 : Int32), .long w_5, .int c_readLaw, .int c_readBound, .int c_readGoal, .int c_readSites, .ref a_readPlace, .ref a_script, .ref a_scriptLong, .int c_scripts, .ref a_now, .ref a_refused, .int c_sites, .ref a_shareX, .ref a_shareY, .int c_asked, .int c_outcome, .ref a_askedRow, .int c_took, .ref a_kept, .int c_acts, .long c_drawn, .ref a_aside, .int c_racer, .int c_raced, .ref a_spelled, .int c_spelledMany, .ref a_image, .int c_hasImage])), (a_tape, .inl (E.2.1, 320, .inl c_tape))] H := hP
  replace hD : va_D A [(a_, .inr (9, [.int c_thrown, .ref a_tape, .int c_taped, .int w_1, .int w_2, .int w_3, .int w_4, .int (-1 : Int32), .long w_5, .int c_readLaw, .int c_readBound, .int c_readGoal, .int c_readSites, .ref a_readPlace, .ref a_script, .ref a_scriptLong, .int c_scripts, .ref a_now, .ref a_refused, .int c_sites, .ref a_shareX, .ref a_shareY, .int c_asked, .int c_outcome, .ref a_askedRow, .int c_took, .ref a_kept, .int c_acts, .long c_drawn, .ref a_aside, .int c_racer, .int c_raced, .ref a_spelled, .int c_spelledMany, .ref a_image, .int c_hasImage])), (a_tape, .inl (E.2.1, 320, .inl c_tape))] := hD
  rw [hQ]
  have h9 := fin9 (P := fun u9 : Int32 × Int32 × Int32 × Int32 × Int32 × Int64 => va_P E.1 vwCl (w_X8_begins E a_ a_tape a_readPlace a_script a_scriptLong a_now a_refused a_shareX a_shareY a_askedRow a_kept a_aside a_spelled a_image c_thrown c_taped u9.1 u9.2.1 u9.2.2.1 u9.2.2.2.1 u9.2.2.2.2.1 u9.2.2.2.2.2 c_readLaw c_readBound c_readGoal c_readSites c_scripts c_sites c_asked c_outcome c_took c_acts c_drawn c_racer c_raced c_spelledMany c_hasImage c_tape) H ∧ va_D A (w_X8_begins E a_ a_tape a_readPlace a_script a_scriptLong a_now a_refused a_shareX a_shareY a_askedRow a_kept a_aside a_spelled a_image c_thrown c_taped u9.1 u9.2.1 u9.2.2.1 u9.2.2.2.1 u9.2.2.2.2.1 u9.2.2.2.2.2 c_readLaw c_readBound c_readGoal c_readSites c_scripts c_sites c_asked c_outcome c_took c_acts c_drawn c_racer c_raced c_spelledMany c_hasImage c_tape)) hF ⟨hP, hD⟩
  obtain ⟨hP9, hD9⟩ := h9
  exact W.vret hx hb hr (fun tt ht hW => ⟨⟨(), rfl, trivial, ht ▸ hP9, hD9⟩, hS.F ht⟩) hS.2.2 dX8_begins_14

def F_X8_bound (K : Nat) (p1 : Int32) (c_now : Nat → Int32) (c_refused : Nat → Int32) (c_sites : Int32) (c_shareX : Nat → Int32) (c_shareY : Nat → Int32) (c_asked : Int32) (c_outcome : Int32) (c_askedRow : Nat → Int32) (c_took : Int32) (c_kept : Nat → Int32) (c_acts : Int32) : Option (Int32 × (Nat → Int32) × (Nat → Int32) × (Nat → Int32) × (Nat → Int32) × Int32 × Int32 × (Nat → Int32) × Int32 × (Nat → Int32) × Int32) :=
  bd11 (F_X8_hand K (-100000000 : Int32) (2 : Int32) p1 (0 : Int32) (0 : Int32) c_now c_refused c_sites c_shareX c_shareY c_asked c_outcome c_askedRow c_took c_kept c_acts) (fun r_1 w_2 w_3 w_4 w_5 w_6 w_7 w_8 w_9 w_10 w_11 => some (r_1, w_2, w_3, w_4, w_5, w_6, w_7, w_8, w_9, w_10, w_11))
abbrev w_X8_bound (E : EE) (a_ a_tape a_readPlace a_script a_scriptLong a_now a_refused a_shareX a_shareY a_askedRow a_kept a_aside a_spelled a_image : Nat) (c_thrown : Int32) (c_taped : Int32) (c_at : Int32) (c_part : Int32) (c_partFrom : Int32) (c_partNumber : Int32) (c_wrong : Int32) (c_partWord : Int64) (c_readLaw : Int32) (c_readBound : Int32) (c_readGoal : Int32) (c_readSites : Int32) (c_scripts : Int32) (c_sites : Int32) (c_asked : Int32) (c_outcome : Int32) (c_took : Int32) (c_acts : Int32) (c_drawn : Int64) (c_racer : Int32) (c_raced : Int32) (c_spelledMany : Int32) (c_hasImage : Int32) (c_now : Nat → Int32) (c_refused : Nat → Int32) (c_shareX : Nat → Int32) (c_shareY : Nat → Int32) (c_askedRow : Nat → Int32) (c_kept : Nat → Int32) : va_W := [(a_, .inr (9, [.int c_thrown, .ref a_tape, .int c_taped, .int c_at, .int c_part, .int c_partFrom, .int c_partNumber, .int c_wrong, .long c_partWord, .int c_readLaw, .int c_readBound, .int c_readGoal, .int c_readSites, .ref a_readPlace, .ref a_script, .ref a_scriptLong, .int c_scripts, .ref a_now, .ref a_refused, .int c_sites, .ref a_shareX, .ref a_shareY, .int c_asked, .int c_outcome, .ref a_askedRow, .int c_took, .ref a_kept, .int c_acts, .long c_drawn, .ref a_aside, .int c_racer, .int c_raced, .ref a_spelled, .int c_spelledMany, .ref a_image, .int c_hasImage])), (a_now, .inl (E.2.1, 265, .inl c_now)), (a_refused, .inl (E.2.1, 3, .inl c_refused)), (a_shareX, .inl (E.2.1, 8, .inl c_shareX)), (a_shareY, .inl (E.2.1, 8, .inl c_shareY)), (a_askedRow, .inl (E.2.1, 8, .inl c_askedRow)), (a_kept, .inl (E.2.1, 10600, .inl c_kept))]
def v_f_X8_bound : List Cond := List.cons (.code yX8_bound cX8_bound 2 (some .int)) (HAppend.hAppend (α := List Cond) (β := List Cond) (γ := List Cond) [.constant RX8 182 (-100000000), .methodLink RX8 350 yX8_hand, .instanceMethod yX8_hand, .selects RX8 yX8_hand yX8_hand, .initialized RX8] (HAppend.hAppend (α := List Cond) (β := List Cond) (γ := List Cond) v_f_X8_hand []))
theorem gw_f_X8_bound : v_f_X8_bound.all goodWord = true := by decide +kernel
theorem g_f_X8_bound_f_X8_hand_350 : GoodIn v_f_X8_bound (wsV RX8 350 RX8 yX8_hand v_f_X8_hand) := goodIn_app (goodIn_of _ (by decide +kernel)) (goodIn_sub (fun _ h => List.mem_cons_of_mem _ (List.mem_append_right _ (List.mem_append_left _ h))) gw_f_X8_hand)
theorem hd_X8_bound : yX8_bound.cls = RX8 ∧ yX8_bound.cls ≠ "java/lang/invoke/MethodHandle" ∧ yX8_bound.cls ≠ "java/lang/invoke/VarHandle" ∧ (parseMethodDescriptor yX8_bound.desc).map (fun d => d.parameters.length) = some 1 := by decide +kernel
set_option maxHeartbeats 4000000 in
set_option maxRecDepth 100000 in
theorem f_X8_bound (l : Launch) (E : EE) (sz : Nat) (K : Nat) {a_ a_tape a_readPlace a_script a_scriptLong a_now a_refused a_shareX a_shareY a_askedRow a_kept a_aside a_spelled a_image : Nat} {p1 : Int32} {c_thrown : Int32} {c_taped : Int32} {c_at : Int32} {c_part : Int32} {c_partFrom : Int32} {c_partNumber : Int32} {c_wrong : Int32} {c_partWord : Int64} {c_readLaw : Int32} {c_readBound : Int32} {c_readGoal : Int32} {c_readSites : Int32} {c_scripts : Int32} {c_sites : Int32} {c_asked : Int32} {c_outcome : Int32} {c_took : Int32} {c_acts : Int32} {c_drawn : Int64} {c_racer : Int32} {c_raced : Int32} {c_spelledMany : Int32} {c_hasImage : Int32} {c_now : Nat → Int32} {c_refused : Nat → Int32} {c_shareX : Nat → Int32} {c_shareY : Nat → Int32} {c_askedRow : Nat → Int32} {c_kept : Nat → Int32} {rr : Int32} {n_now : Nat → Int32} {n_refused : Nat → Int32} {n_shareX : Nat → Int32} {n_shareY : Nat → Int32} {n_asked : Int32} {n_outcome : Int32} {n_askedRow : Nat → Int32} {n_took : Int32} {n_kept : Nat → Int32} {n_acts : Int32} (hF : F_X8_bound K p1 c_now c_refused c_sites c_shareX c_shareY c_asked c_outcome c_askedRow c_took c_kept c_acts = some (rr, n_now, n_refused, n_shareX, n_shareY, n_asked, n_outcome, n_askedRow, n_took, n_kept, n_acts)) : Met l yX8_bound v_f_X8_bound (({ frames := 10, cells := 0, slots := 0, locals := 241 } : Room)) (va_Pc [.ref a_, .int p1] (pW E sz (w_X8_bound E a_ a_tape a_readPlace a_script a_scriptLong a_now a_refused a_shareX a_shareY a_askedRow a_kept a_aside a_spelled a_image c_thrown c_taped c_at c_part c_partFrom c_partNumber c_wrong c_partWord c_readLaw c_readBound c_readGoal c_readSites c_scripts c_sites c_asked c_outcome c_took c_acts c_drawn c_racer c_raced c_spelledMany c_hasImage c_now c_refused c_shareX c_shareY c_askedRow c_kept))) (va_Qi (fun (q : Int32) (_u : Unit) => q = rr) (fun (_u : Unit) tt => va_P E.1 vwCl (w_X8_bound E a_ a_tape a_readPlace a_script a_scriptLong a_now a_refused a_shareX a_shareY a_askedRow a_kept a_aside a_spelled a_image c_thrown c_taped c_at c_part c_partFrom c_partNumber c_wrong c_partWord c_readLaw c_readBound c_readGoal c_readSites c_scripts c_sites n_asked n_outcome n_took n_acts c_drawn c_racer c_raced c_spelledMany c_hasImage n_now n_refused n_shareX n_shareY n_askedRow n_kept) tt.heap ∧ va_D (va_A (w_X8_bound E a_ a_tape a_readPlace a_script a_scriptLong a_now a_refused a_shareX a_shareY a_askedRow a_kept a_aside a_spelled a_image c_thrown c_taped c_at c_part c_partFrom c_partNumber c_wrong c_partWord c_readLaw c_readBound c_readGoal c_readSites c_scripts c_sites c_asked c_outcome c_took c_acts c_drawn c_racer c_raced c_spelledMany c_hasImage c_now c_refused c_shareX c_shareY c_askedRow c_kept) sz) (w_X8_bound E a_ a_tape a_readPlace a_script a_scriptLong a_now a_refused a_shareX a_shareY a_askedRow a_kept a_aside a_spelled a_image c_thrown c_taped c_at c_part c_partFrom c_partNumber c_wrong c_partWord c_readLaw c_readBound c_readGoal c_readSites c_scripts c_sites n_asked n_outcome n_took n_acts c_drawn c_racer c_raced c_spelledMany c_hasImage n_now n_refused n_shareX n_shareY n_askedRow n_kept)) (va_A (w_X8_bound E a_ a_tape a_readPlace a_script a_scriptLong a_now a_refused a_shareX a_shareY a_askedRow a_kept a_aside a_spelled a_image c_thrown c_taped c_at c_part c_partFrom c_partNumber c_wrong c_partWord c_readLaw c_readBound c_readGoal c_readSites c_scripts c_sites c_asked c_outcome c_took c_acts c_drawn c_racer c_raced c_spelledMany c_hasImage c_now c_refused c_shareX c_shareY c_askedRow c_kept) sz)) 0 0 (va_A (w_X8_bound E a_ a_tape a_readPlace a_script a_scriptLong a_now a_refused a_shareX a_shareY a_askedRow a_kept a_aside a_spelled a_image c_thrown c_taped c_at c_part c_partFrom c_partNumber c_wrong c_partWord c_readLaw c_readBound c_readGoal c_readSites c_scripts c_sites c_asked c_outcome c_took c_acts c_drawn c_racer c_raced c_spelledMany c_hasImage c_now c_refused c_shareX c_shareY c_askedRow c_kept) sz) := by
  refine Met.ofW (cc := cX8_bound) (maxL := 2) (ret := (some .int)) (by decide) rfl ?_
  intro p e s m args below meth c s₁ B hml hv
  obtain ⟨rfl, hsz, ⟨hK, hN⟩, hP, hD0⟩ := hv
  have hx := B.exec
  have hb := B.bytes
  have hr := B.returns
  have hts := atoms_spec (ws := v_f_X8_bound) B.pre
  have hown : s.vm.findClass RX8 = some m.cls := own_of hd_X8_bound.1 (findClass_of_methodNamed B.named)
  have hlocks : meth.locks = false := B.notSynchronized
  subst hsz
  have hD := hD0.self (sz := s.heap.size)
  generalize hAe : va_A (w_X8_bound E a_ a_tape a_readPlace a_script a_scriptLong a_now a_refused a_shareX a_shareY a_askedRow a_kept a_aside a_spelled a_image c_thrown c_taped c_at c_part c_partFrom c_partNumber c_wrong c_partWord c_readLaw c_readBound c_readGoal c_readSites c_scripts c_sites c_asked c_outcome c_took c_acts c_drawn c_racer c_raced c_spelledMany c_hasImage c_now c_refused c_shareX c_shareY c_askedRow c_kept) s.heap.size = A at hD ⊢
  have hA : ∀ q : Nat, s.heap.size ≤ q → A q := fun q h => by rw [← hAe]; exact Or.inr h
  have hS : va_S A s.heap s.heap [] := va_S.rf
  have hl := lv_entry ([.ref a_, .int p1]) (n := 2) (Nat.le_of_ble_eq_true rfl)
  rw [lg_entry_eq]
  generalize (lg_sl ([.ref a_, .int p1]) ++ List.replicate (2 - (lg_sl ([.ref a_, .int p1])).length) Slot.unset).toArray = ls at hl ⊢
  have hl : lv_has ls 2 [(0, .ref a_), (1, .int p1)] := hl
  obtain ⟨Q, hQ⟩ : ∃ Q : State → Prop, Q = MQ below (va_Qi (fun (q : Int32) (_u : Unit) => q = rr) (fun (_u : Unit) tt => va_P E.1 vwCl (w_X8_bound E a_ a_tape a_readPlace a_script a_scriptLong a_now a_refused a_shareX a_shareY a_askedRow a_kept a_aside a_spelled a_image c_thrown c_taped c_at c_part c_partFrom c_partNumber c_wrong c_partWord c_readLaw c_readBound c_readGoal c_readSites c_scripts c_sites n_asked n_outcome n_took n_acts c_drawn c_racer c_raced c_spelledMany c_hasImage n_now n_refused n_shareX n_shareY n_askedRow n_kept) tt.heap ∧ va_D A (w_X8_bound E a_ a_tape a_readPlace a_script a_scriptLong a_now a_refused a_shareX a_shareY a_askedRow a_kept a_aside a_spelled a_image c_thrown c_taped c_at c_part c_partFrom c_partNumber c_wrong c_partWord c_readLaw c_readBound c_readGoal c_readSites c_scripts c_sites n_asked n_outcome n_took n_acts c_drawn c_racer c_raced c_spelledMany c_hasImage n_now n_refused n_shareX n_shareY n_askedRow n_kept)) A) #[Value.ref a_, Value.int p1] s 0 0 A := ⟨_, rfl⟩
  rw [← hQ]
  change W p l e ({ frames := 10, cells := 0, slots := 0, locals := 241 } : Room) s m #[Value.ref a_, Value.int p1] below meth c s.heap [] 0 0 Q (F0 m 0 ls [])
  suffices hh9 : ∀ (H : Heap) (locs : List Loc), va_P E.1 vwCl (w_X8_bound E a_ a_tape a_readPlace a_script a_scriptLong a_now a_refused a_shareX a_shareY a_askedRow a_kept a_aside a_spelled a_image c_thrown c_taped c_at c_part c_partFrom c_partNumber c_wrong c_partWord c_readLaw c_readBound c_readGoal c_readSites c_scripts c_sites c_asked c_outcome c_took c_acts c_drawn c_racer c_raced c_spelledMany c_hasImage c_now c_refused c_shareX c_shareY c_askedRow c_kept) H → va_D A (w_X8_bound E a_ a_tape a_readPlace a_script a_scriptLong a_now a_refused a_shareX a_shareY a_askedRow a_kept a_aside a_spelled a_image c_thrown c_taped c_at c_part c_partFrom c_partNumber c_wrong c_partWord c_readLaw c_readBound c_readGoal c_readSites c_scripts c_sites c_asked c_outcome c_took c_acts c_drawn c_racer c_raced c_spelledMany c_hasImage c_now c_refused c_shareX c_shareY c_askedRow c_kept) → va_S A s.heap H locs → W p l e ({ frames := 10, cells := 0, slots := 0, locals := 241 } : Room) s m #[Value.ref a_, Value.int p1] below meth c H locs 0 0 Q (F0 m 0 ls []) from hh9 s.heap [] hP hD hS
  clear hP hD hS
  intro H locs hP hD hS
  replace hP : va_P E.1 vwCl [(a_, .inr (9, [.int c_thrown, .ref a_tape, .int c_taped, .int c_at, .int c_part, .int c_partFrom, .int c_partNumber, .int c_wrong, .long c_partWord, .int c_readLaw, .int c_readBound, .int c_readGoal, .int c_readSites, .ref a_readPlace, .ref a_script, .ref a_scriptLong, .int c_scripts, .ref a_now, .ref a_refused, .int c_sites, .ref a_shareX, .ref a_shareY, .int c_asked, .int c_outcome, .ref a_askedRow, .int c_took, .ref a_kept, .int c_acts, .long c_drawn, .ref a_aside, .int c_racer, .int c_raced, .ref a_spelled, .int c_spelledMany, .ref a_image, .int c_hasImage])), (a_now, .inl (E.2.1, 265, .inl c_now)), (a_refused, .inl (E.2.1, 3, .inl c_refused)), (a_shareX, .inl (E.2.1, 8, .inl c_shareX)), (a_shareY, .inl (E.2.1, 8, .inl c_shareY)), (a_askedRow, .inl (E.2.1, 8, .inl c_askedRow)), (a_kept, .inl (E.2.1, 10600, .inl c_kept))] H := hP
  replace hD : va_D A [(a_, .inr (9, [.int c_thrown, .ref a_tape, .int c_taped, .int c_at, .int c_part, .int c_partFrom, .int c_partNumber, .int c_wrong, .long c_partWord, .int c_readLaw, .int c_readBound, .int c_readGoal, .int c_readSites, .ref a_readPlace, .ref a_script, .ref a_scriptLong, .int c_scripts, .ref a_now, .ref a_refused, .int c_sites, .ref a_shareX, .ref a_shareY, .int c_asked, .int c_outcome, .ref a_askedRow, .int c_took, .ref a_kept, .int c_acts, .long c_drawn, .ref a_aside, .int c_racer, .int c_raced, .ref a_spelled, .int c_spelledMany, .ref a_image, .int c_hasImage])), (a_now, .inl (E.2.1, 265, .inl c_now)), (a_refused, .inl (E.2.1, 3, .inl c_refused)), (a_shareX, .inl (E.2.1, 8, .inl c_shareX)), (a_shareY, .inl (E.2.1, 8, .inl c_shareY)), (a_askedRow, .inl (E.2.1, 8, .inl c_askedRow)), (a_kept, .inl (E.2.1, 10600, .inl c_kept))] := hD
  unfold F_X8_bound at hF
  refine lv_aload_n hx hb dX8_bound_0 rfl (lv_at hl 0 rfl) ?_
  refine lv_ldc (v := -100000000) hx hb hown (hts (.constant RX8 182 (-100000000)) (List.mem_of_getElem? (i := 1) rfl)) dX8_bound_1 ?_
  refine lv_iconst (v := 2) hx hb dX8_bound_3 (by decide) ?_
  refine lv_iload_n hx hb dX8_bound_4 rfl (lv_at hl 1 rfl) ?_
  refine lv_iconst (v := 0) hx hb dX8_bound_5 (by decide) ?_
  refine lv_iconst (v := 0) hx hb dX8_bound_6 (by decide) ?_
  replace hF := bd11_s hF
  obtain ⟨r_1, w_2, w_3, w_4, w_5, w_6, w_7, w_8, w_9, w_10, w_11, hc_12, hF⟩ := hF
  obtain ⟨hPc, hDc, hFc⟩ := wcut (wc := (w_X8_hand E a_ a_tape a_readPlace a_script a_scriptLong a_now a_refused a_shareX a_shareY a_askedRow a_kept a_aside a_spelled a_image c_thrown c_taped c_at c_part c_partFrom c_partNumber c_wrong c_partWord c_readLaw c_readBound c_readGoal c_readSites c_scripts c_sites c_asked c_outcome c_took c_acts c_drawn c_racer c_raced c_spelledMany c_hasImage c_now c_refused c_shareX c_shareY c_askedRow c_kept)) hP hD hS hA [0, 1, 2, 3, 4, 5, 6] (by decide) rfl
  have hrc := va_recv hK hPc (ci := 9) (q0 := 0) rfl rfl
  refine cE_i (wc := (w_X8_hand E a_ a_tape a_readPlace a_script a_scriptLong a_now a_refused a_shareX a_shareY a_askedRow a_kept a_aside a_spelled a_image c_thrown c_taped c_at c_part c_partFrom c_partNumber c_wrong c_partWord c_readLaw c_readBound c_readGoal c_readSites c_scripts c_sites c_asked c_outcome c_took c_acts c_drawn c_racer c_raced c_spelledMany c_hasImage c_now c_refused c_shareX c_shareY c_askedRow c_kept)) (wr := []) (w1 := (w_X8_hand E a_ a_tape a_readPlace a_script a_scriptLong a_now a_refused a_shareX a_shareY a_askedRow a_kept a_aside a_spelled a_image c_thrown c_taped c_at c_part c_partFrom c_partNumber c_wrong c_partWord c_readLaw c_readBound c_readGoal c_readSites c_scripts c_sites w_6 w_7 w_9 w_11 c_drawn c_racer c_raced c_spelledMany c_hasImage w_2 w_3 w_4 w_5 w_8 w_10)) (va_runV (As := [.int (-100000000 : Int32), .int (2 : Int32), .int p1, .int (0 : Int32), .int (0 : Int32)]) (rest := [])  ⟨hx, hb, hml, hown, hts⟩ (f_X8_hand l E H.size K (a_ := a_) (a_tape := a_tape) (a_readPlace := a_readPlace) (a_script := a_script) (a_scriptLong := a_scriptLong) (a_now := a_now) (a_refused := a_refused) (a_shareX := a_shareX) (a_shareY := a_shareY) (a_askedRow := a_askedRow) (a_kept := a_kept) (a_aside := a_aside) (a_spelled := a_spelled) (a_image := a_image) (p1 := (-100000000 : Int32)) (p2 := (2 : Int32)) (p3 := p1) (p4 := (0 : Int32)) (p5 := (0 : Int32)) (c_thrown := c_thrown) (c_taped := c_taped) (c_at := c_at) (c_part := c_part) (c_partFrom := c_partFrom) (c_partNumber := c_partNumber) (c_wrong := c_wrong) (c_partWord := c_partWord) (c_readLaw := c_readLaw) (c_readBound := c_readBound) (c_readGoal := c_readGoal) (c_readSites := c_readSites) (c_scripts := c_scripts) (c_sites := c_sites) (c_asked := c_asked) (c_outcome := c_outcome) (c_took := c_took) (c_acts := c_acts) (c_drawn := c_drawn) (c_racer := c_racer) (c_raced := c_raced) (c_spelledMany := c_spelledMany) (c_hasImage := c_hasImage) (c_now := c_now) (c_refused := c_refused) (c_shareX := c_shareX) (c_shareY := c_shareY) (c_askedRow := c_askedRow) (c_kept := c_kept) hc_12) (cwV 5 hts g_f_X8_bound_f_X8_hand_350 rfl rfl rfl hd_X8_hand ⟨Nat.le_of_ble_eq_true rfl, Nat.le_of_ble_eq_true rfl⟩) ⟨pW.blind, hrc, (pW.pre ⟨hK, hN⟩ hPc hDc)⟩ rfl rfl hl.1 rfl (lv_room (Nat.le_of_ble_eq_true rfl)) dX8_bound_7 ⟨Nat.le_of_ble_eq_true rfl, Nat.le_of_ble_eq_true rfl⟩) hS hFc hP hD [0, 1, 2, 3, 4, 5, 6] [] rfl rfl (by decide) (by decide) (fun H locs hP hD hS => ?_)
  replace hP : va_P E.1 vwCl [(a_, .inr (9, [.int c_thrown, .ref a_tape, .int c_taped, .int c_at, .int c_part, .int c_partFrom, .int c_partNumber, .int c_wrong, .long c_partWord, .int c_readLaw, .int c_readBound, .int c_readGoal, .int c_readSites, .ref a_readPlace, .ref a_script, .ref a_scriptLong, .int c_scripts, .ref a_now, .ref a_refused, .int c_sites, .ref a_shareX, .ref a_shareY, .int w_6, .int w_7, .ref a_askedRow, .int w_9, .ref a_kept, .int w_11, .long c_drawn, .ref a_aside, .int c_racer, .int c_raced, .ref a_spelled, .int c_spelledMany, .ref a_image, .int c_hasImage])), (a_now, .inl (E.2.1, 265, .inl w_2)), (a_refused, .inl (E.2.1, 3, .inl w_3)), (a_shareX, .inl (E.2.1, 8, .inl w_4)), (a_shareY, .inl (E.2.1, 8, .inl w_5)), (a_askedRow, .inl (E.2.1, 8, .inl w_8)), (a_kept, .inl (E.2.1, 10600, .inl w_10))] H := hP
  replace hD : va_D A [(a_, .inr (9, [.int c_thrown, .ref a_tape, .int c_taped, .int c_at, .int c_part, .int c_partFrom, .int c_partNumber, .int c_wrong, .long c_partWord, .int c_readLaw, .int c_readBound, .int c_readGoal, .int c_readSites, .ref a_readPlace, .ref a_script, .ref a_scriptLong, .int c_scripts, .ref a_now, .ref a_refused, .int c_sites, .ref a_shareX, .ref a_shareY, .int w_6, .int w_7, .ref a_askedRow, .int w_9, .ref a_kept, .int w_11, .long c_drawn, .ref a_aside, .int c_racer, .int c_raced, .ref a_spelled, .int c_spelledMany, .ref a_image, .int c_hasImage])), (a_now, .inl (E.2.1, 265, .inl w_2)), (a_refused, .inl (E.2.1, 3, .inl w_3)), (a_shareX, .inl (E.2.1, 8, .inl w_4)), (a_shareY, .inl (E.2.1, 8, .inl w_5)), (a_askedRow, .inl (E.2.1, 8, .inl w_8)), (a_kept, .inl (E.2.1, 10600, .inl w_10))] := hD
  rw [hQ]
  have h9 := fin9 (P := fun u9 : Int32 × (Nat → Int32) × (Nat → Int32) × (Nat → Int32) × (Nat → Int32) × Int32 × Int32 × (Nat → Int32) × Int32 × (Nat → Int32) × Int32 => r_1 = u9.1 ∧ va_P E.1 vwCl (w_X8_bound E a_ a_tape a_readPlace a_script a_scriptLong a_now a_refused a_shareX a_shareY a_askedRow a_kept a_aside a_spelled a_image c_thrown c_taped c_at c_part c_partFrom c_partNumber c_wrong c_partWord c_readLaw c_readBound c_readGoal c_readSites c_scripts c_sites u9.2.2.2.2.2.1 u9.2.2.2.2.2.2.1 u9.2.2.2.2.2.2.2.2.1 u9.2.2.2.2.2.2.2.2.2.2 c_drawn c_racer c_raced c_spelledMany c_hasImage u9.2.1 u9.2.2.1 u9.2.2.2.1 u9.2.2.2.2.1 u9.2.2.2.2.2.2.2.1 u9.2.2.2.2.2.2.2.2.2.1) H ∧ va_D A (w_X8_bound E a_ a_tape a_readPlace a_script a_scriptLong a_now a_refused a_shareX a_shareY a_askedRow a_kept a_aside a_spelled a_image c_thrown c_taped c_at c_part c_partFrom c_partNumber c_wrong c_partWord c_readLaw c_readBound c_readGoal c_readSites c_scripts c_sites u9.2.2.2.2.2.1 u9.2.2.2.2.2.2.1 u9.2.2.2.2.2.2.2.2.1 u9.2.2.2.2.2.2.2.2.2.2 c_drawn c_racer c_raced c_spelledMany c_hasImage u9.2.1 u9.2.2.1 u9.2.2.2.1 u9.2.2.2.2.1 u9.2.2.2.2.2.2.2.1 u9.2.2.2.2.2.2.2.2.2.1)) hF ⟨rfl, hP, hD⟩
  obtain ⟨e9_0, hP9, hD9⟩ := h9
  exact W.iret (v := r_1) hx hb hr (fun tt ht hW => ⟨⟨_, (), rfl, e9_0, ht ▸ hP9, hD9⟩, hS.F ht⟩) hS.2.2 dX8_bound_10

def J_X8_byteOf_45 (p5 : Int32) (k0 : Int32) : Option (Int32) :=
  some ((k0 >>> (((24 : Int32) - ((8 : Int32) * (p5 - p5 / (4 : Int32) * (4 : Int32)))) &&& (31 : Int32))) &&& (255 : Int32))
def F_X8_byteOf (p0 : Int32) (p1 : Int32) (p2 : Int32) (p3 : Int32) (p4 : Int32) (p5 : Int32) : Option (Int32) :=
  if (4 : Int32) ≤ p5 then if (8 : Int32) ≤ p5 then if (12 : Int32) ≤ p5 then if (16 : Int32) ≤ p5 then J_X8_byteOf_45 p5 p4 else J_X8_byteOf_45 p5 p3 else J_X8_byteOf_45 p5 p2 else J_X8_byteOf_45 p5 p1 else J_X8_byteOf_45 p5 p0

def v_f_X8_byteOf : List Cond := List.cons (.code yX8_byteOf cX8_byteOf 7 (some .int)) (HAppend.hAppend (α := List Cond) (β := List Cond) (γ := List Cond) [] [])
theorem gw_f_X8_byteOf : v_f_X8_byteOf.all goodWord = true := by decide +kernel
theorem hd_X8_byteOf : yX8_byteOf.cls = RX8 ∧ yX8_byteOf.cls ≠ "java/lang/invoke/MethodHandle" ∧ yX8_byteOf.cls ≠ "java/lang/invoke/VarHandle" ∧ (parseMethodDescriptor yX8_byteOf.desc).map (fun d => d.parameters.length) = some 6 := by decide +kernel
set_option maxHeartbeats 4000000 in
set_option maxRecDepth 100000 in
theorem j_X8_byteOf_45 {p : Program} (l : Launch) {e : Env} {s : State} {m : MethodId} {below : List Frame} {meth : Method} {c : Code} {Q : State → Prop} (E : EE) {p0 : Int32} {p1 : Int32} {p2 : Int32} {p3 : Int32} {p4 : Int32} {p5 : Int32} {k0 : Int32} (hx : p.tables.exec = Jvm.exec) (hb : c.code = cX8_byteOf) (hml : c.maxLocals = 7) (hown : s.vm.findClass RX8 = some m.cls) (hts : ∀ w ∈ v_f_X8_byteOf, w.before #[Value.int p0, Value.int p1, Value.int p2, Value.int p3, Value.int p4, Value.int p5] s = true) (hK : va_K E.1 vwCl (TY E) s) (hN : NX s) {rr : Int32} (hr : meth.sig.returnType = (some .int)) (hlocks : meth.locks = false) (hQ : Q = MQ below (vp_Si (fun q : Int32 => q = rr)) #[Value.int p0, Value.int p1, Value.int p2, Value.int p3, Value.int p4, Value.int p5] s 0 0 (fun _ => False)) (hF : J_X8_byteOf_45 p5 k0 = some rr) (hP : va_P E.1 vwCl [] s.heap) : ∀ (ls : Array Slot), lv_has ls 7 [(5, .int p5)] → W p l e ({ frames := 0, cells := 0, slots := 0, locals := 0 } : Room) s m #[Value.int p0, Value.int p1, Value.int p2, Value.int p3, Value.int p4, Value.int p5] below meth c s.heap [] 0 0 Q (F0 m 45 ls [.int k0]) := by
  unfold J_X8_byteOf_45 at hF
  replace hP : va_P E.1 vwCl [] s.heap := hP
  intro ls hl
  refine lv_istore (lv' := [(6, .int k0), (5, .int p5)]) hx hb dX8_byteOf_45 hl (by decide) rfl (fun ls hl => ?_)
  refine lv_iload hx hb dX8_byteOf_47 (lv_at hl 0 rfl) ?_
  refine lv_bipush (v := 24) hx hb dX8_byteOf_49 (by decide) ?_
  refine lv_bipush (v := 8) hx hb dX8_byteOf_51 (by decide) ?_
  refine lv_iload hx hb dX8_byteOf_53 (lv_at hl 1 rfl) ?_
  refine lv_iconst (v := 4) hx hb dX8_byteOf_55 (by decide) ?_
  refine lv_irem hx hb dX8_byteOf_56 (by decide) ?_
  refine lv_imul hx hb dX8_byteOf_57 ?_
  refine lv_isub hx hb dX8_byteOf_58 ?_
  refine lv_ishr hx hb dX8_byteOf_59 ?_
  refine lv_sipush (v := 255) hx hb dX8_byteOf_60 (by decide) ?_
  refine lv_iand hx hb dX8_byteOf_63 ?_
  rw [hQ]
  obtain e9_0 := inj1 hF
  exact W.iret (v := (k0 >>> (((24 : Int32) - ((8 : Int32) * (p5 - p5 / (4 : Int32) * (4 : Int32)))) &&& (31 : Int32))) &&& (255 : Int32)) hx hb hr (fun tt ht hW => ⟨_, rfl, e9_0, ht⟩) (fun _ h => by cases h) dX8_byteOf_64

set_option maxHeartbeats 4000000 in
set_option maxRecDepth 100000 in
theorem f_X8_byteOf (l : Launch) (E : EE) {p0 : Int32} {p1 : Int32} {p2 : Int32} {p3 : Int32} {p4 : Int32} {p5 : Int32} {rr : Int32} (hF : F_X8_byteOf p0 p1 p2 p3 p4 p5 = some rr) : Met l yX8_byteOf v_f_X8_byteOf (({ frames := 0, cells := 0, slots := 0, locals := 0 } : Room)) (va_Pc [.int p0, .int p1, .int p2, .int p3, .int p4, .int p5] (pP E [])) (vp_Si (fun q : Int32 => q = rr)) 0 0 (fun _ => False) := by
  refine Met.ofW (cc := cX8_byteOf) (maxL := 7) (ret := (some .int)) (by decide) rfl ?_
  intro p e s m args below meth c s₁ B hml hv
  obtain ⟨rfl, ⟨hK, hN⟩, hP⟩ := hv
  have hx := B.exec
  have hb := B.bytes
  have hr := B.returns
  have hts := atoms_spec (ws := v_f_X8_byteOf) B.pre
  have hown : s.vm.findClass RX8 = some m.cls := own_of hd_X8_byteOf.1 (findClass_of_methodNamed B.named)
  have hlocks : meth.locks = false := B.notSynchronized
  replace hP : va_P E.1 vwCl [] s.heap := hP
  have hl := lv_entry ([.int p0, .int p1, .int p2, .int p3, .int p4, .int p5]) (n := 7) (Nat.le_of_ble_eq_true rfl)
  rw [lg_entry_eq]
  generalize (lg_sl ([.int p0, .int p1, .int p2, .int p3, .int p4, .int p5]) ++ List.replicate (7 - (lg_sl ([.int p0, .int p1, .int p2, .int p3, .int p4, .int p5])).length) Slot.unset).toArray = ls at hl ⊢
  have hl : lv_has ls 7 [(0, .int p0), (1, .int p1), (2, .int p2), (3, .int p3), (4, .int p4), (5, .int p5)] := hl
  obtain ⟨Q, hQ⟩ : ∃ Q : State → Prop, Q = MQ below (vp_Si (fun q : Int32 => q = rr)) #[Value.int p0, Value.int p1, Value.int p2, Value.int p3, Value.int p4, Value.int p5] s 0 0 (fun _ => False) := ⟨_, rfl⟩
  rw [← hQ]
  change W p l e ({ frames := 0, cells := 0, slots := 0, locals := 0 } : Room) s m #[Value.int p0, Value.int p1, Value.int p2, Value.int p3, Value.int p4, Value.int p5] below meth c s.heap [] 0 0 Q (F0 m 0 ls [])
  unfold F_X8_byteOf at hF
  refine lv_iload hx hb dX8_byteOf_0 (lv_at hl 5 rfl) ?_
  refine lv_iconst (v := 4) hx hb dX8_byteOf_2 (by decide) ?_
  refine lv_icmp_ge (tgt := 10) hx hb dX8_byteOf_3 (by decide) (fun c_1 => ?_) (fun c_1 => ?_)
  ·
    replace hF := ip c_1 hF
    refine lv_iload hx hb dX8_byteOf_10 (lv_at hl 5 rfl) ?_
    refine lv_bipush (v := 8) hx hb dX8_byteOf_12 (by decide) ?_
    refine lv_icmp_ge (tgt := 21) hx hb dX8_byteOf_14 (by decide) (fun c_2 => ?_) (fun c_2 => ?_)
    ·
      replace hF := ip c_2 hF
      refine lv_iload hx hb dX8_byteOf_21 (lv_at hl 5 rfl) ?_
      refine lv_bipush (v := 12) hx hb dX8_byteOf_23 (by decide) ?_
      refine lv_icmp_ge (tgt := 32) hx hb dX8_byteOf_25 (by decide) (fun c_3 => ?_) (fun c_3 => ?_)
      ·
        replace hF := ip c_3 hF
        refine lv_iload hx hb dX8_byteOf_32 (lv_at hl 5 rfl) ?_
        refine lv_bipush (v := 16) hx hb dX8_byteOf_34 (by decide) ?_
        refine lv_icmp_ge (tgt := 43) hx hb dX8_byteOf_36 (by decide) (fun c_4 => ?_) (fun c_4 => ?_)
        ·
          replace hF := ip c_4 hF
          refine lv_iload hx hb dX8_byteOf_43 (lv_at hl 4 rfl) ?_
          exact j_X8_byteOf_45 l E (p0 := p0) (p1 := p1) (p2 := p2) (p3 := p3) (p4 := p4) (p5 := p5) (k0 := p4) hx hb hml hown hts hK hN hr hlocks hQ hF hP ls (lv_sub hl [5] rfl)
        ·
          replace hF := inn c_4 hF
          refine lv_iload_n hx hb dX8_byteOf_39 rfl (lv_at hl 3 rfl) ?_
          refine lv_goto (tgt := 45) hx hb dX8_byteOf_40 (by decide) ?_
          exact j_X8_byteOf_45 l E (p0 := p0) (p1 := p1) (p2 := p2) (p3 := p3) (p4 := p4) (p5 := p5) (k0 := p3) hx hb hml hown hts hK hN hr hlocks hQ hF hP ls (lv_sub hl [5] rfl)
      ·
        replace hF := inn c_3 hF
        refine lv_iload_n hx hb dX8_byteOf_28 rfl (lv_at hl 2 rfl) ?_
        refine lv_goto (tgt := 45) hx hb dX8_byteOf_29 (by decide) ?_
        exact j_X8_byteOf_45 l E (p0 := p0) (p1 := p1) (p2 := p2) (p3 := p3) (p4 := p4) (p5 := p5) (k0 := p2) hx hb hml hown hts hK hN hr hlocks hQ hF hP ls (lv_sub hl [5] rfl)
    ·
      replace hF := inn c_2 hF
      refine lv_iload_n hx hb dX8_byteOf_17 rfl (lv_at hl 1 rfl) ?_
      refine lv_goto (tgt := 45) hx hb dX8_byteOf_18 (by decide) ?_
      exact j_X8_byteOf_45 l E (p0 := p0) (p1 := p1) (p2 := p2) (p3 := p3) (p4 := p4) (p5 := p5) (k0 := p1) hx hb hml hown hts hK hN hr hlocks hQ hF hP ls (lv_sub hl [5] rfl)
  ·
    replace hF := inn c_1 hF
    refine lv_iload_n hx hb dX8_byteOf_6 rfl (lv_at hl 0 rfl) ?_
    refine lv_goto (tgt := 45) hx hb dX8_byteOf_7 (by decide) ?_
    exact j_X8_byteOf_45 l E (p0 := p0) (p1 := p1) (p2 := p2) (p3 := p3) (p4 := p4) (p5 := p5) (k0 := p0) hx hb hml hown hts hK hN hr hlocks hQ hF hP ls (lv_sub hl [5] rfl)

def F_X8_canStand (p1 : Int32) (c_now : Nat → Int32) : Option (Int32) :=
  ixF ((0 : Int32) + p1) 265 (bd1 (F_X8_in ((c_now ((0 : Int32) + p1).toNatClampNeg).toInt64) (-99999 : Int64) (99999 : Int64)) (fun r_2 => if r_2 = (0 : Int32) then some (0 : Int32) else ixF ((8 : Int32) + p1) 265 (bd1 (F_X8_in ((c_now ((8 : Int32) + p1).toNatClampNeg).toInt64) (-99999 : Int64) (99999 : Int64)) (fun r_7 => if r_7 = (0 : Int32) then some (0 : Int32) else some (1 : Int32)))))
abbrev w_X8_canStand (E : EE) (a_ a_tape a_readPlace a_script a_scriptLong a_now a_refused a_shareX a_shareY a_askedRow a_kept a_aside a_spelled a_image : Nat) (c_thrown : Int32) (c_taped : Int32) (c_at : Int32) (c_part : Int32) (c_partFrom : Int32) (c_partNumber : Int32) (c_wrong : Int32) (c_partWord : Int64) (c_readLaw : Int32) (c_readBound : Int32) (c_readGoal : Int32) (c_readSites : Int32) (c_scripts : Int32) (c_sites : Int32) (c_asked : Int32) (c_outcome : Int32) (c_took : Int32) (c_acts : Int32) (c_drawn : Int64) (c_racer : Int32) (c_raced : Int32) (c_spelledMany : Int32) (c_hasImage : Int32) (c_now : Nat → Int32) : va_W := [(a_, .inr (9, [.int c_thrown, .ref a_tape, .int c_taped, .int c_at, .int c_part, .int c_partFrom, .int c_partNumber, .int c_wrong, .long c_partWord, .int c_readLaw, .int c_readBound, .int c_readGoal, .int c_readSites, .ref a_readPlace, .ref a_script, .ref a_scriptLong, .int c_scripts, .ref a_now, .ref a_refused, .int c_sites, .ref a_shareX, .ref a_shareY, .int c_asked, .int c_outcome, .ref a_askedRow, .int c_took, .ref a_kept, .int c_acts, .long c_drawn, .ref a_aside, .int c_racer, .int c_raced, .ref a_spelled, .int c_spelledMany, .ref a_image, .int c_hasImage])), (a_now, .inl (E.2.1, 265, .inl c_now))]
def v_f_X8_canStand : List Cond := List.cons (.code yX8_canStand cX8_canStand 2 (some .boolean)) (HAppend.hAppend (α := List Cond) (β := List Cond) (γ := List Cond) [.fieldLink RX8 22 "HushWatchModel" "now" "[I", .constantLong RX8 285 (-99999), .constantLong RX8 287 (99999), .methodLink RX8 60 yX8_in, .static yX8_in, .initialized RX8] (HAppend.hAppend (α := List Cond) (β := List Cond) (γ := List Cond) wsX80 (HAppend.hAppend (α := List Cond) (β := List Cond) (γ := List Cond) v_f_X8_in [])))
theorem gw_f_X8_canStand : v_f_X8_canStand.all goodWord = true := by decide +kernel
theorem i_f_X8_canStand_X8 : ∀ w ∈ wsX80, w ∈ v_f_X8_canStand := fun _ h => List.mem_cons_of_mem _ (List.mem_append_right _ (List.mem_append_left _ h))
theorem g_f_X8_canStand_f_X8_in_60 : GoodIn v_f_X8_canStand (va_wsS RX8 60 yX8_in v_f_X8_in) := goodIn_app (goodIn_of _ (by decide +kernel)) (goodIn_sub (fun _ h => List.mem_cons_of_mem _ (List.mem_append_right _ (List.mem_append_right _ (List.mem_append_left _ h)))) gw_f_X8_in)
theorem hd_X8_canStand : yX8_canStand.cls = RX8 ∧ yX8_canStand.cls ≠ "java/lang/invoke/MethodHandle" ∧ yX8_canStand.cls ≠ "java/lang/invoke/VarHandle" ∧ (parseMethodDescriptor yX8_canStand.desc).map (fun d => d.parameters.length) = some 1 := by decide +kernel
set_option maxHeartbeats 4000000 in
set_option maxRecDepth 100000 in
theorem f_X8_canStand (l : Launch) (E : EE) {a_ a_tape a_readPlace a_script a_scriptLong a_now a_refused a_shareX a_shareY a_askedRow a_kept a_aside a_spelled a_image : Nat} {p1 : Int32} {c_thrown : Int32} {c_taped : Int32} {c_at : Int32} {c_part : Int32} {c_partFrom : Int32} {c_partNumber : Int32} {c_wrong : Int32} {c_partWord : Int64} {c_readLaw : Int32} {c_readBound : Int32} {c_readGoal : Int32} {c_readSites : Int32} {c_scripts : Int32} {c_sites : Int32} {c_asked : Int32} {c_outcome : Int32} {c_took : Int32} {c_acts : Int32} {c_drawn : Int64} {c_racer : Int32} {c_raced : Int32} {c_spelledMany : Int32} {c_hasImage : Int32} {c_now : Nat → Int32} {rr : Int32} (hF : F_X8_canStand p1 c_now = some rr) : Met l yX8_canStand v_f_X8_canStand (({ frames := 1, cells := 0, slots := 0, locals := 25 } : Room)) (va_Pc [.ref a_, .int p1] (pP E (w_X8_canStand E a_ a_tape a_readPlace a_script a_scriptLong a_now a_refused a_shareX a_shareY a_askedRow a_kept a_aside a_spelled a_image c_thrown c_taped c_at c_part c_partFrom c_partNumber c_wrong c_partWord c_readLaw c_readBound c_readGoal c_readSites c_scripts c_sites c_asked c_outcome c_took c_acts c_drawn c_racer c_raced c_spelledMany c_hasImage c_now))) (vp_Si (fun q : Int32 => q = rr ∧ (q = 0 ∨ q = 1))) 0 0 (fun _ => False) := by
  refine Met.ofW (cc := cX8_canStand) (maxL := 2) (ret := (some .boolean)) (by decide) rfl ?_
  intro p e s m args below meth c s₁ B hml hv
  obtain ⟨rfl, ⟨hK, hN⟩, hP⟩ := hv
  have hx := B.exec
  have hb := B.bytes
  have hr := B.returns
  have hts := atoms_spec (ws := v_f_X8_canStand) B.pre
  have hown : s.vm.findClass RX8 = some m.cls := own_of hd_X8_canStand.1 (findClass_of_methodNamed B.named)
  have hlocks : meth.locks = false := B.notSynchronized
  replace hP : va_P E.1 vwCl [(a_, .inr (9, [.int c_thrown, .ref a_tape, .int c_taped, .int c_at, .int c_part, .int c_partFrom, .int c_partNumber, .int c_wrong, .long c_partWord, .int c_readLaw, .int c_readBound, .int c_readGoal, .int c_readSites, .ref a_readPlace, .ref a_script, .ref a_scriptLong, .int c_scripts, .ref a_now, .ref a_refused, .int c_sites, .ref a_shareX, .ref a_shareY, .int c_asked, .int c_outcome, .ref a_askedRow, .int c_took, .ref a_kept, .int c_acts, .long c_drawn, .ref a_aside, .int c_racer, .int c_raced, .ref a_spelled, .int c_spelledMany, .ref a_image, .int c_hasImage])), (a_now, .inl (E.2.1, 265, .inl c_now))] s.heap := hP
  have hl := lv_entry ([.ref a_, .int p1]) (n := 2) (Nat.le_of_ble_eq_true rfl)
  rw [lg_entry_eq]
  generalize (lg_sl ([.ref a_, .int p1]) ++ List.replicate (2 - (lg_sl ([.ref a_, .int p1])).length) Slot.unset).toArray = ls at hl ⊢
  have hl : lv_has ls 2 [(0, .ref a_), (1, .int p1)] := hl
  obtain ⟨Q, hQ⟩ : ∃ Q : State → Prop, Q = MQ below (vp_Si (fun q : Int32 => q = rr ∧ (q = 0 ∨ q = 1))) #[Value.ref a_, Value.int p1] s 0 0 (fun _ => False) := ⟨_, rfl⟩
  rw [← hQ]
  change W p l e ({ frames := 1, cells := 0, slots := 0, locals := 25 } : Room) s m #[Value.ref a_, Value.int p1] below meth c s.heap [] 0 0 Q (F0 m 0 ls [])
  unfold F_X8_canStand at hF
  refine lv_aload_n hx hb dX8_canStand_0 rfl (lv_at hl 0 rfl) ?_
  refine gt_X8_17 (v := .ref a_now) hx hb hts i_f_X8_canStand_X8 hown hK hP 0 rfl (hts (.fieldLink RX8 22 "HushWatchModel" "now" "[I") (List.mem_of_getElem? (i := 1) rfl)) rfl dX8_canStand_1 ?_
  refine lv_iconst (v := 0) hx hb dX8_canStand_4 (by decide) ?_
  refine lv_iload_n hx hb dX8_canStand_5 rfl (lv_at hl 1 rfl) ?_
  refine lv_iadd hx hb dX8_canStand_6 ?_
  replace hF := ix_s hF
  obtain ⟨hi_1, hF⟩ := hF
  refine va_iald hx hb hK hP 1 0 rfl rfl hi_1 dX8_canStand_7 ?_
  refine lv_i2l (v := (c_now ((0 : Int32) + p1).toNatClampNeg).toInt64) hx hb dX8_canStand_8 rfl ?_
  refine lv_ldc2 (v := -99999) hx hb hown (hts (.constantLong RX8 285 (-99999)) (List.mem_of_getElem? (i := 2) rfl)) dX8_canStand_9 ?_
  refine lv_ldc2 (v := 99999) hx hb hown (hts (.constantLong RX8 287 (99999)) (List.mem_of_getElem? (i := 3) rfl)) dX8_canStand_12 ?_
  replace hF := bd1_s hF
  obtain ⟨r_2, hc_3, hF⟩ := hF
  have hPc : va_P E.1 vwCl [] s.heap := fun k q h => by simp at h
  refine pE_z (va_runS (As := [.long ((c_now ((0 : Int32) + p1).toNatClampNeg).toInt64), .long (-99999 : Int64), .long (99999 : Int64)]) (rest := [])  ⟨hx, hb, hml, hown, hts⟩ (f_X8_in l E (p0 := (c_now ((0 : Int32) + p1).toNatClampNeg).toInt64) (p1 := (-99999 : Int64)) (p2 := (99999 : Int64)) hc_3) (va_cwS 3 hts g_f_X8_canStand_f_X8_in_60 rfl rfl rfl hd_X8_in.2 ⟨Nat.le_of_ble_eq_true rfl, Nat.le_of_ble_eq_true rfl⟩) ⟨pP.blind, (pP.pre ⟨hK, hN⟩ hPc)⟩ rfl rfl hl.1 rfl (lv_room (Nat.le_of_ble_eq_true rfl)) dX8_canStand_15 ⟨Nat.le_of_ble_eq_true rfl, Nat.le_of_ble_eq_true rfl⟩) (fun hb_4 => ?_)
  refine lv_if_eq (tgt := 47) hx hb dX8_canStand_18 (by decide) (fun c_5 => ?_) (fun c_5 => ?_)
  ·
    replace hF := ip c_5 hF
    refine lv_iconst (v := 0) hx hb dX8_canStand_47 (by decide) ?_
    rw [hQ]
    obtain e9_0 := inj1 hF
    exact W.zret (v := (0 : Int32)) hx hb hr rfl (fun tt ht hW => ⟨_, rfl, ⟨e9_0, Or.inl rfl⟩, ht⟩) (fun _ h => by cases h) dX8_canStand_48
  ·
    replace hF := inn c_5 hF
    refine lv_aload_n hx hb dX8_canStand_21 rfl (lv_at hl 0 rfl) ?_
    refine gt_X8_17 (v := .ref a_now) hx hb hts i_f_X8_canStand_X8 hown hK hP 0 rfl (hts (.fieldLink RX8 22 "HushWatchModel" "now" "[I") (List.mem_of_getElem? (i := 1) rfl)) rfl dX8_canStand_22 ?_
    refine lv_bipush (v := 8) hx hb dX8_canStand_25 (by decide) ?_
    refine lv_iload_n hx hb dX8_canStand_27 rfl (lv_at hl 1 rfl) ?_
    refine lv_iadd hx hb dX8_canStand_28 ?_
    replace hF := ix_s hF
    obtain ⟨hi_6, hF⟩ := hF
    refine va_iald hx hb hK hP 1 0 rfl rfl hi_6 dX8_canStand_29 ?_
    refine lv_i2l (v := (c_now ((8 : Int32) + p1).toNatClampNeg).toInt64) hx hb dX8_canStand_30 rfl ?_
    refine lv_ldc2 (v := -99999) hx hb hown (hts (.constantLong RX8 285 (-99999)) (List.mem_of_getElem? (i := 2) rfl)) dX8_canStand_31 ?_
    refine lv_ldc2 (v := 99999) hx hb hown (hts (.constantLong RX8 287 (99999)) (List.mem_of_getElem? (i := 3) rfl)) dX8_canStand_34 ?_
    replace hF := bd1_s hF
    obtain ⟨r_7, hc_8, hF⟩ := hF
    have hPc : va_P E.1 vwCl [] s.heap := fun k q h => by simp at h
    refine pE_z (va_runS (As := [.long ((c_now ((8 : Int32) + p1).toNatClampNeg).toInt64), .long (-99999 : Int64), .long (99999 : Int64)]) (rest := [])  ⟨hx, hb, hml, hown, hts⟩ (f_X8_in l E (p0 := (c_now ((8 : Int32) + p1).toNatClampNeg).toInt64) (p1 := (-99999 : Int64)) (p2 := (99999 : Int64)) hc_8) (va_cwS 3 hts g_f_X8_canStand_f_X8_in_60 rfl rfl rfl hd_X8_in.2 ⟨Nat.le_of_ble_eq_true rfl, Nat.le_of_ble_eq_true rfl⟩) ⟨pP.blind, (pP.pre ⟨hK, hN⟩ hPc)⟩ rfl rfl hl.1 rfl (lv_room (Nat.le_of_ble_eq_true rfl)) dX8_canStand_37 ⟨Nat.le_of_ble_eq_true rfl, Nat.le_of_ble_eq_true rfl⟩) (fun hb_9 => ?_)
    refine lv_if_eq (tgt := 47) hx hb dX8_canStand_40 (by decide) (fun c_10 => ?_) (fun c_10 => ?_)
    ·
      replace hF := ip c_10 hF
      refine lv_iconst (v := 0) hx hb dX8_canStand_47 (by decide) ?_
      rw [hQ]
      obtain e9_0 := inj1 hF
      exact W.zret (v := (0 : Int32)) hx hb hr rfl (fun tt ht hW => ⟨_, rfl, ⟨e9_0, Or.inl rfl⟩, ht⟩) (fun _ h => by cases h) dX8_canStand_48
    ·
      replace hF := inn c_10 hF
      refine lv_iconst (v := 1) hx hb dX8_canStand_43 (by decide) ?_
      refine lv_goto (tgt := 48) hx hb dX8_canStand_44 (by decide) ?_
      rw [hQ]
      obtain e9_0 := inj1 hF
      exact W.zret (v := (1 : Int32)) hx hb hr rfl (fun tt ht hW => ⟨_, rfl, ⟨e9_0, Or.inr rfl⟩, ht⟩) (fun _ h => by cases h) dX8_canStand_48

def F_X8_isWord (p1 : Int64) (c_part : Int32) (c_partWord : Int64) : Option (Int32) :=
  if c_part = (1 : Int32) then if lg_cmp c_partWord p1 = (0 : Int32) then some (1 : Int32) else some (0 : Int32) else some (0 : Int32)
abbrev w_X8_isWord (E : EE) (a_ a_tape a_readPlace a_script a_scriptLong a_now a_refused a_shareX a_shareY a_askedRow a_kept a_aside a_spelled a_image : Nat) (c_thrown : Int32) (c_taped : Int32) (c_at : Int32) (c_part : Int32) (c_partFrom : Int32) (c_partNumber : Int32) (c_wrong : Int32) (c_partWord : Int64) (c_readLaw : Int32) (c_readBound : Int32) (c_readGoal : Int32) (c_readSites : Int32) (c_scripts : Int32) (c_sites : Int32) (c_asked : Int32) (c_outcome : Int32) (c_took : Int32) (c_acts : Int32) (c_drawn : Int64) (c_racer : Int32) (c_raced : Int32) (c_spelledMany : Int32) (c_hasImage : Int32) : va_W := [(a_, .inr (9, [.int c_thrown, .ref a_tape, .int c_taped, .int c_at, .int c_part, .int c_partFrom, .int c_partNumber, .int c_wrong, .long c_partWord, .int c_readLaw, .int c_readBound, .int c_readGoal, .int c_readSites, .ref a_readPlace, .ref a_script, .ref a_scriptLong, .int c_scripts, .ref a_now, .ref a_refused, .int c_sites, .ref a_shareX, .ref a_shareY, .int c_asked, .int c_outcome, .ref a_askedRow, .int c_took, .ref a_kept, .int c_acts, .long c_drawn, .ref a_aside, .int c_racer, .int c_raced, .ref a_spelled, .int c_spelledMany, .ref a_image, .int c_hasImage]))]
def v_f_X8_isWord : List Cond := List.cons (.code yX8_isWord cX8_isWord 3 (some .boolean)) (HAppend.hAppend (α := List Cond) (β := List Cond) (γ := List Cond) [.fieldLink RX8 83 "HushWatchModel" "part" "I", .fieldLink RX8 67 "HushWatchModel" "partWord" "J"] (HAppend.hAppend (α := List Cond) (β := List Cond) (γ := List Cond) wsX80 []))
theorem gw_f_X8_isWord : v_f_X8_isWord.all goodWord = true := by decide +kernel
theorem i_f_X8_isWord_X8 : ∀ w ∈ wsX80, w ∈ v_f_X8_isWord := fun _ h => List.mem_cons_of_mem _ (List.mem_append_right _ (List.mem_append_left _ h))
theorem hd_X8_isWord : yX8_isWord.cls = RX8 ∧ yX8_isWord.cls ≠ "java/lang/invoke/MethodHandle" ∧ yX8_isWord.cls ≠ "java/lang/invoke/VarHandle" ∧ (parseMethodDescriptor yX8_isWord.desc).map (fun d => d.parameters.length) = some 1 := by decide +kernel
set_option maxHeartbeats 4000000 in
set_option maxRecDepth 100000 in
theorem f_X8_isWord (l : Launch) (E : EE) {a_ a_tape a_readPlace a_script a_scriptLong a_now a_refused a_shareX a_shareY a_askedRow a_kept a_aside a_spelled a_image : Nat} {p1 : Int64} {c_thrown : Int32} {c_taped : Int32} {c_at : Int32} {c_part : Int32} {c_partFrom : Int32} {c_partNumber : Int32} {c_wrong : Int32} {c_partWord : Int64} {c_readLaw : Int32} {c_readBound : Int32} {c_readGoal : Int32} {c_readSites : Int32} {c_scripts : Int32} {c_sites : Int32} {c_asked : Int32} {c_outcome : Int32} {c_took : Int32} {c_acts : Int32} {c_drawn : Int64} {c_racer : Int32} {c_raced : Int32} {c_spelledMany : Int32} {c_hasImage : Int32} {rr : Int32} (hF : F_X8_isWord p1 c_part c_partWord = some rr) : Met l yX8_isWord v_f_X8_isWord (({ frames := 0, cells := 0, slots := 0, locals := 0 } : Room)) (va_Pc [.ref a_, .long p1] (pP E (w_X8_isWord E a_ a_tape a_readPlace a_script a_scriptLong a_now a_refused a_shareX a_shareY a_askedRow a_kept a_aside a_spelled a_image c_thrown c_taped c_at c_part c_partFrom c_partNumber c_wrong c_partWord c_readLaw c_readBound c_readGoal c_readSites c_scripts c_sites c_asked c_outcome c_took c_acts c_drawn c_racer c_raced c_spelledMany c_hasImage))) (vp_Si (fun q : Int32 => q = rr ∧ (q = 0 ∨ q = 1))) 0 0 (fun _ => False) := by
  refine Met.ofW (cc := cX8_isWord) (maxL := 3) (ret := (some .boolean)) (by decide) rfl ?_
  intro p e s m args below meth c s₁ B hml hv
  obtain ⟨rfl, ⟨hK, hN⟩, hP⟩ := hv
  have hx := B.exec
  have hb := B.bytes
  have hr := B.returns
  have hts := atoms_spec (ws := v_f_X8_isWord) B.pre
  have hown : s.vm.findClass RX8 = some m.cls := own_of hd_X8_isWord.1 (findClass_of_methodNamed B.named)
  have hlocks : meth.locks = false := B.notSynchronized
  replace hP : va_P E.1 vwCl [(a_, .inr (9, [.int c_thrown, .ref a_tape, .int c_taped, .int c_at, .int c_part, .int c_partFrom, .int c_partNumber, .int c_wrong, .long c_partWord, .int c_readLaw, .int c_readBound, .int c_readGoal, .int c_readSites, .ref a_readPlace, .ref a_script, .ref a_scriptLong, .int c_scripts, .ref a_now, .ref a_refused, .int c_sites, .ref a_shareX, .ref a_shareY, .int c_asked, .int c_outcome, .ref a_askedRow, .int c_took, .ref a_kept, .int c_acts, .long c_drawn, .ref a_aside, .int c_racer, .int c_raced, .ref a_spelled, .int c_spelledMany, .ref a_image, .int c_hasImage]))] s.heap := hP
  have hl := lv_entry ([.ref a_, .long p1]) (n := 3) (Nat.le_of_ble_eq_true rfl)
  rw [lg_entry_eq]
  generalize (lg_sl ([.ref a_, .long p1]) ++ List.replicate (3 - (lg_sl ([.ref a_, .long p1])).length) Slot.unset).toArray = ls at hl ⊢
  have hl : lv_has ls 3 [(0, .ref a_), (1, .long p1)] := hl
  obtain ⟨Q, hQ⟩ : ∃ Q : State → Prop, Q = MQ below (vp_Si (fun q : Int32 => q = rr ∧ (q = 0 ∨ q = 1))) #[Value.ref a_, Value.long p1] s 0 0 (fun _ => False) := ⟨_, rfl⟩
  rw [← hQ]
  change W p l e ({ frames := 0, cells := 0, slots := 0, locals := 0 } : Room) s m #[Value.ref a_, Value.long p1] below meth c s.heap [] 0 0 Q (F0 m 0 ls [])
  unfold F_X8_isWord at hF
  refine lv_aload_n hx hb dX8_isWord_0 rfl (lv_at hl 0 rfl) ?_
  refine gt_X8_4 (v := .int c_part) hx hb hts i_f_X8_isWord_X8 hown hK hP 0 rfl (hts (.fieldLink RX8 83 "HushWatchModel" "part" "I") (List.mem_of_getElem? (i := 1) rfl)) rfl dX8_isWord_1 ?_
  refine lv_iconst (v := 1) hx hb dX8_isWord_4 (by decide) ?_
  refine lv_icmp_ne (tgt := 21) hx hb dX8_isWord_5 (by decide) (fun c_1 => ?_) (fun c_1 => ?_)
  ·
    replace hF := inn c_1 hF
    refine lv_iconst (v := 0) hx hb dX8_isWord_21 (by decide) ?_
    rw [hQ]
    obtain e9_0 := inj1 hF
    exact W.zret (v := (0 : Int32)) hx hb hr rfl (fun tt ht hW => ⟨_, rfl, ⟨e9_0, Or.inl rfl⟩, ht⟩) (fun _ h => by cases h) dX8_isWord_22
  ·
    replace hF := ip c_1 hF
    refine lv_aload_n hx hb dX8_isWord_8 rfl (lv_at hl 0 rfl) ?_
    refine gt_X8_8 (v := .long c_partWord) hx hb hts i_f_X8_isWord_X8 hown hK hP 0 rfl (hts (.fieldLink RX8 67 "HushWatchModel" "partWord" "J") (List.mem_of_getElem? (i := 2) rfl)) rfl dX8_isWord_9 ?_
    refine lv_lload_n hx hb dX8_isWord_12 rfl (lv_at hl 1 rfl) ?_
    refine W.lcmp hx hb dX8_isWord_13 ?_
    refine lv_if_ne (tgt := 21) hx hb dX8_isWord_14 (by decide) (fun c_2 => ?_) (fun c_2 => ?_)
    ·
      replace hF := inn c_2 hF
      refine lv_iconst (v := 0) hx hb dX8_isWord_21 (by decide) ?_
      rw [hQ]
      obtain e9_0 := inj1 hF
      exact W.zret (v := (0 : Int32)) hx hb hr rfl (fun tt ht hW => ⟨_, rfl, ⟨e9_0, Or.inl rfl⟩, ht⟩) (fun _ h => by cases h) dX8_isWord_22
    ·
      replace hF := ip c_2 hF
      refine lv_iconst (v := 1) hx hb dX8_isWord_17 (by decide) ?_
      refine lv_goto (tgt := 22) hx hb dX8_isWord_18 (by decide) ?_
      rw [hQ]
      obtain e9_0 := inj1 hF
      exact W.zret (v := (1 : Int32)) hx hb hr rfl (fun tt ht hW => ⟨_, rfl, ⟨e9_0, Or.inr rfl⟩, ht⟩) (fun _ h => by cases h) dX8_isWord_22

def J_X8_word_65_r7 (k0 : Int32) (x6 : Int64) (x8 : Int32) : Option ((Int64 × Int32) ⊕ (Int64)) :=
  if k0 = (0 : Int32) then some (.inl (x6, x8 + (1 : Int32))) else some (.inl (((((32 : Int64) * x6) + k0.toInt64) - (97 : Int64)) + (1 : Int64), x8 + (1 : Int32)))
def B_X8_word_6 (p0 : Int32) (p1 : Int32) (p2 : Int32) (p3 : Int32) (p4 : Int32) (p5 : Int32) (x6 : Int64) (x8 : Int32) : Option ((Int64 × Int32) ⊕ (Int64)) :=
  if (6 : Int32) ≤ x8 then some (.inr x6) else if x8 = (0 : Int32) then J_X8_word_65_r7 p0 x6 x8 else if x8 = (1 : Int32) then J_X8_word_65_r7 p1 x6 x8 else if x8 = (2 : Int32) then J_X8_word_65_r7 p2 x6 x8 else if x8 = (3 : Int32) then J_X8_word_65_r7 p3 x6 x8 else if x8 = (4 : Int32) then J_X8_word_65_r7 p4 x6 x8 else J_X8_word_65_r7 p5 x6 x8
def F_X8_word (K : Nat) (p0 : Int32) (p1 : Int32) (p2 : Int32) (p3 : Int32) (p4 : Int32) (p5 : Int32) : Option (Int64) :=
  bd1 (lpF (fun u9 : Int64 × Int32 => B_X8_word_6 p0 p1 p2 p3 p4 p5 u9.1 u9.2) K ((0 : Int64), (0 : Int32))) (fun x6_8 => some x6_8)

def v_f_X8_word : List Cond := List.cons (.code yX8_word cX8_word 10 (some .long)) (HAppend.hAppend (α := List Cond) (β := List Cond) (γ := List Cond) [.constantLong RX8 79 (32), .constantLong RX8 81 (97)] [])
theorem gw_f_X8_word : v_f_X8_word.all goodWord = true := by decide +kernel
theorem hd_X8_word : yX8_word.cls = RX8 ∧ yX8_word.cls ≠ "java/lang/invoke/MethodHandle" ∧ yX8_word.cls ≠ "java/lang/invoke/VarHandle" ∧ (parseMethodDescriptor yX8_word.desc).map (fun d => d.parameters.length) = some 6 := by decide +kernel
set_option maxHeartbeats 4000000 in
set_option maxRecDepth 100000 in
theorem j_X8_word_65_r7 {p : Program} (l : Launch) {e : Env} {s : State} {m : MethodId} {below : List Frame} {meth : Method} {c : Code} {Q : State → Prop} (E : EE) (K : Nat) {p0 : Int32} {p1 : Int32} {p2 : Int32} {p3 : Int32} {p4 : Int32} {p5 : Int32} {k0 : Int32} {x6 : Int64} {x8 : Int32} (hx : p.tables.exec = Jvm.exec) (hb : c.code = cX8_word) (hml : c.maxLocals = 10) (hown : s.vm.findClass RX8 = some m.cls) (hts : ∀ w ∈ v_f_X8_word, w.before #[Value.int p0, Value.int p1, Value.int p2, Value.int p3, Value.int p4, Value.int p5] s = true) (hK : va_K E.1 vwCl (TY E) s) (hN : NX s) {xx : (Int64 × Int32) ⊕ (Int64)} (hC : ∀ (x6 : Int64), ∀ (x8 : Int32), xx = .inl (x6, x8) → ∀ (ls : Array Slot), lv_has ls 10 [(0, .int p0), (1, .int p1), (2, .int p2), (3, .int p3), (4, .int p4), (5, .int p5), (6, .long x6), (8, .int x8)] → W p l e ({ frames := 0, cells := 0, slots := 0, locals := 0 } : Room) s m #[Value.int p0, Value.int p1, Value.int p2, Value.int p3, Value.int p4, Value.int p5] below meth c s.heap [] 0 0 Q (F0 m 6 ls [])) (hE : ∀ (x6 : Int64), xx = .inr x6 → ((∀ (ls : Array Slot), lv_has ls 10 [(6, .long x6)] → W p l e ({ frames := 0, cells := 0, slots := 0, locals := 0 } : Room) s m #[Value.int p0, Value.int p1, Value.int p2, Value.int p3, Value.int p4, Value.int p5] below meth c s.heap [] 0 0 Q (F0 m 101 ls [])))) (hF : J_X8_word_65_r7 k0 x6 x8 = some xx) (hP : va_P E.1 vwCl [] s.heap) : ∀ (ls : Array Slot), lv_has ls 10 [(0, .int p0), (1, .int p1), (2, .int p2), (3, .int p3), (4, .int p4), (5, .int p5), (6, .long x6), (8, .int x8)] → W p l e ({ frames := 0, cells := 0, slots := 0, locals := 0 } : Room) s m #[Value.int p0, Value.int p1, Value.int p2, Value.int p3, Value.int p4, Value.int p5] below meth c s.heap [] 0 0 Q (F0 m 65 ls [.int k0]) := by
  unfold J_X8_word_65_r7 at hF
  replace hP : va_P E.1 vwCl [] s.heap := hP
  intro ls hl
  refine lv_istore (lv' := [(9, .int k0), (0, .int p0), (1, .int p1), (2, .int p2), (3, .int p3), (4, .int p4), (5, .int p5), (6, .long x6), (8, .int x8)]) hx hb dX8_word_65 hl (by decide) rfl (fun ls hl => ?_)
  refine lv_iload hx hb dX8_word_67 (lv_at hl 0 rfl) ?_
  refine lv_if_ne (tgt := 77) hx hb dX8_word_69 (by decide) (fun c_7 => ?_) (fun c_7 => ?_)
  ·
    replace hF := inn c_7 hF
    refine lv_ldc2 (v := 32) hx hb hown (hts (.constantLong RX8 79 (32)) (List.mem_of_getElem? (i := 1) rfl)) dX8_word_77 ?_
    refine lv_lload hx hb dX8_word_80 (lv_at hl 7 rfl) ?_
    refine lv_lmul hx hb dX8_word_82 ?_
    refine lv_iload hx hb dX8_word_83 (lv_at hl 0 rfl) ?_
    refine lv_i2l (v := k0.toInt64) hx hb dX8_word_85 rfl ?_
    refine lv_ladd hx hb dX8_word_86 ?_
    refine lv_ldc2 (v := 97) hx hb hown (hts (.constantLong RX8 81 (97)) (List.mem_of_getElem? (i := 2) rfl)) dX8_word_87 ?_
    refine lv_lsub hx hb dX8_word_90 ?_
    refine lv_lconst (v := 1) hx hb dX8_word_91 (by decide) ?_
    refine lv_ladd hx hb dX8_word_92 ?_
    refine lv_lstore (lv' := [(6, .long (((((32 : Int64) * x6) + k0.toInt64) - (97 : Int64)) + (1 : Int64))), (9, .int k0), (0, .int p0), (1, .int p1), (2, .int p2), (3, .int p3), (4, .int p4), (5, .int p5), (8, .int x8)]) hx hb dX8_word_93 hl (by decide) rfl (fun ls hl => ?_)
    refine lv_iinc (v := x8 + (1 : Int32)) (lv' := [(8, .int (x8 + (1 : Int32))), (6, .long (((((32 : Int64) * x6) + k0.toInt64) - (97 : Int64)) + (1 : Int64))), (9, .int k0), (0, .int p0), (1, .int p1), (2, .int p2), (3, .int p3), (4, .int p4), (5, .int p5)]) hx hb dX8_word_95 hl (k := 8) rfl (rfl) (by decide) rfl (fun ls hl => ?_)
    refine lv_goto (tgt := 6) hx hb dX8_word_98 (by decide) ?_
    cases hF
    exact hC (((((32 : Int64) * x6) + k0.toInt64) - (97 : Int64)) + (1 : Int64)) (x8 + (1 : Int32)) rfl ls (lv_sub hl [3, 4, 5, 6, 7, 8, 1, 0] rfl)
  ·
    replace hF := ip c_7 hF
    refine lv_lload hx hb dX8_word_72 (lv_at hl 7 rfl) ?_
    refine lv_goto (tgt := 93) hx hb dX8_word_74 (by decide) ?_
    refine lv_lstore (lv' := [(6, .long x6), (9, .int k0), (0, .int p0), (1, .int p1), (2, .int p2), (3, .int p3), (4, .int p4), (5, .int p5), (8, .int x8)]) hx hb dX8_word_93 hl (by decide) rfl (fun ls hl => ?_)
    refine lv_iinc (v := x8 + (1 : Int32)) (lv' := [(8, .int (x8 + (1 : Int32))), (6, .long x6), (9, .int k0), (0, .int p0), (1, .int p1), (2, .int p2), (3, .int p3), (4, .int p4), (5, .int p5)]) hx hb dX8_word_95 hl (k := 8) rfl (rfl) (by decide) rfl (fun ls hl => ?_)
    refine lv_goto (tgt := 6) hx hb dX8_word_98 (by decide) ?_
    cases hF
    exact hC x6 (x8 + (1 : Int32)) rfl ls (lv_sub hl [3, 4, 5, 6, 7, 8, 1, 0] rfl)

set_option maxHeartbeats 4000000 in
set_option maxRecDepth 100000 in
theorem wb_X8_word_6 {p : Program} (l : Launch) {e : Env} {s : State} {m : MethodId} {below : List Frame} {meth : Method} {c : Code} {Q : State → Prop} (E : EE) (K : Nat) {p0 : Int32} {p1 : Int32} {p2 : Int32} {p3 : Int32} {p4 : Int32} {p5 : Int32} {x6 : Int64} {x8 : Int32} (hx : p.tables.exec = Jvm.exec) (hb : c.code = cX8_word) (hml : c.maxLocals = 10) (hown : s.vm.findClass RX8 = some m.cls) (hts : ∀ w ∈ v_f_X8_word, w.before #[Value.int p0, Value.int p1, Value.int p2, Value.int p3, Value.int p4, Value.int p5] s = true) (hK : va_K E.1 vwCl (TY E) s) (hN : NX s) {xx : (Int64 × Int32) ⊕ (Int64)} (hC : ∀ (x6 : Int64), ∀ (x8 : Int32), xx = .inl (x6, x8) → ∀ (ls : Array Slot), lv_has ls 10 [(0, .int p0), (1, .int p1), (2, .int p2), (3, .int p3), (4, .int p4), (5, .int p5), (6, .long x6), (8, .int x8)] → W p l e ({ frames := 0, cells := 0, slots := 0, locals := 0 } : Room) s m #[Value.int p0, Value.int p1, Value.int p2, Value.int p3, Value.int p4, Value.int p5] below meth c s.heap [] 0 0 Q (F0 m 6 ls [])) (hE : ∀ (x6 : Int64), xx = .inr x6 → ((∀ (ls : Array Slot), lv_has ls 10 [(6, .long x6)] → W p l e ({ frames := 0, cells := 0, slots := 0, locals := 0 } : Room) s m #[Value.int p0, Value.int p1, Value.int p2, Value.int p3, Value.int p4, Value.int p5] below meth c s.heap [] 0 0 Q (F0 m 101 ls [])))) (hF : B_X8_word_6 p0 p1 p2 p3 p4 p5 x6 x8 = some xx) (hP : va_P E.1 vwCl [] s.heap) : ∀ (ls : Array Slot), lv_has ls 10 [(0, .int p0), (1, .int p1), (2, .int p2), (3, .int p3), (4, .int p4), (5, .int p5), (6, .long x6), (8, .int x8)] → W p l e ({ frames := 0, cells := 0, slots := 0, locals := 0 } : Room) s m #[Value.int p0, Value.int p1, Value.int p2, Value.int p3, Value.int p4, Value.int p5] below meth c s.heap [] 0 0 Q (F0 m 6 ls []) := by
  unfold B_X8_word_6 at hF
  replace hP : va_P E.1 vwCl [] s.heap := hP
  intro ls hl
  refine lv_iload hx hb dX8_word_6 (lv_at hl 7 rfl) ?_
  refine lv_bipush (v := 6) hx hb dX8_word_8 (by decide) ?_
  refine lv_icmp_ge (tgt := 101) hx hb dX8_word_10 (by decide) (fun c_1 => ?_) (fun c_1 => ?_)
  ·
    replace hF := ip c_1 hF
    cases hF
    exact hE x6 rfl ls (lv_sub hl [6] rfl)
  ·
    replace hF := inn c_1 hF
    refine lv_iload hx hb dX8_word_13 (lv_at hl 7 rfl) ?_
    refine lv_if_ne (tgt := 22) hx hb dX8_word_15 (by decide) (fun c_2 => ?_) (fun c_2 => ?_)
    ·
      replace hF := inn c_2 hF
      refine lv_iload hx hb dX8_word_22 (lv_at hl 7 rfl) ?_
      refine lv_iconst (v := 1) hx hb dX8_word_24 (by decide) ?_
      refine lv_icmp_ne (tgt := 32) hx hb dX8_word_25 (by decide) (fun c_3 => ?_) (fun c_3 => ?_)
      ·
        replace hF := inn c_3 hF
        refine lv_iload hx hb dX8_word_32 (lv_at hl 7 rfl) ?_
        refine lv_iconst (v := 2) hx hb dX8_word_34 (by decide) ?_
        refine lv_icmp_ne (tgt := 42) hx hb dX8_word_35 (by decide) (fun c_4 => ?_) (fun c_4 => ?_)
        ·
          replace hF := inn c_4 hF
          refine lv_iload hx hb dX8_word_42 (lv_at hl 7 rfl) ?_
          refine lv_iconst (v := 3) hx hb dX8_word_44 (by decide) ?_
          refine lv_icmp_ne (tgt := 52) hx hb dX8_word_45 (by decide) (fun c_5 => ?_) (fun c_5 => ?_)
          ·
            replace hF := inn c_5 hF
            refine lv_iload hx hb dX8_word_52 (lv_at hl 7 rfl) ?_
            refine lv_iconst (v := 4) hx hb dX8_word_54 (by decide) ?_
            refine lv_icmp_ne (tgt := 63) hx hb dX8_word_55 (by decide) (fun c_6 => ?_) (fun c_6 => ?_)
            ·
              replace hF := inn c_6 hF
              refine lv_iload hx hb dX8_word_63 (lv_at hl 5 rfl) ?_
              exact j_X8_word_65_r7 l E K (p0 := p0) (p1 := p1) (p2 := p2) (p3 := p3) (p4 := p4) (p5 := p5) (k0 := p5) (x6 := x6) (x8 := x8) hx hb hml hown hts hK hN hC hE hF hP ls (lv_sub hl [0, 1, 2, 3, 4, 5, 6, 7] rfl)
            ·
              replace hF := ip c_6 hF
              refine lv_iload hx hb dX8_word_58 (lv_at hl 4 rfl) ?_
              refine lv_goto (tgt := 65) hx hb dX8_word_60 (by decide) ?_
              exact j_X8_word_65_r7 l E K (p0 := p0) (p1 := p1) (p2 := p2) (p3 := p3) (p4 := p4) (p5 := p5) (k0 := p4) (x6 := x6) (x8 := x8) hx hb hml hown hts hK hN hC hE hF hP ls (lv_sub hl [0, 1, 2, 3, 4, 5, 6, 7] rfl)
          ·
            replace hF := ip c_5 hF
            refine lv_iload_n hx hb dX8_word_48 rfl (lv_at hl 3 rfl) ?_
            refine lv_goto (tgt := 65) hx hb dX8_word_49 (by decide) ?_
            exact j_X8_word_65_r7 l E K (p0 := p0) (p1 := p1) (p2 := p2) (p3 := p3) (p4 := p4) (p5 := p5) (k0 := p3) (x6 := x6) (x8 := x8) hx hb hml hown hts hK hN hC hE hF hP ls (lv_sub hl [0, 1, 2, 3, 4, 5, 6, 7] rfl)
        ·
          replace hF := ip c_4 hF
          refine lv_iload_n hx hb dX8_word_38 rfl (lv_at hl 2 rfl) ?_
          refine lv_goto (tgt := 65) hx hb dX8_word_39 (by decide) ?_
          exact j_X8_word_65_r7 l E K (p0 := p0) (p1 := p1) (p2 := p2) (p3 := p3) (p4 := p4) (p5 := p5) (k0 := p2) (x6 := x6) (x8 := x8) hx hb hml hown hts hK hN hC hE hF hP ls (lv_sub hl [0, 1, 2, 3, 4, 5, 6, 7] rfl)
      ·
        replace hF := ip c_3 hF
        refine lv_iload_n hx hb dX8_word_28 rfl (lv_at hl 1 rfl) ?_
        refine lv_goto (tgt := 65) hx hb dX8_word_29 (by decide) ?_
        exact j_X8_word_65_r7 l E K (p0 := p0) (p1 := p1) (p2 := p2) (p3 := p3) (p4 := p4) (p5 := p5) (k0 := p1) (x6 := x6) (x8 := x8) hx hb hml hown hts hK hN hC hE hF hP ls (lv_sub hl [0, 1, 2, 3, 4, 5, 6, 7] rfl)
    ·
      replace hF := ip c_2 hF
      refine lv_iload_n hx hb dX8_word_18 rfl (lv_at hl 0 rfl) ?_
      refine lv_goto (tgt := 65) hx hb dX8_word_19 (by decide) ?_
      exact j_X8_word_65_r7 l E K (p0 := p0) (p1 := p1) (p2 := p2) (p3 := p3) (p4 := p4) (p5 := p5) (k0 := p0) (x6 := x6) (x8 := x8) hx hb hml hown hts hK hN hC hE hF hP ls (lv_sub hl [0, 1, 2, 3, 4, 5, 6, 7] rfl)

set_option maxHeartbeats 4000000 in
set_option maxRecDepth 100000 in
theorem lw_X8_word_6 {p : Program} (l : Launch) {e : Env} {s : State} {m : MethodId} {below : List Frame} {meth : Method} {c : Code} {Q : State → Prop} (E : EE) (K : Nat) {p0 : Int32} {p1 : Int32} {p2 : Int32} {p3 : Int32} {p4 : Int32} {p5 : Int32} (hx : p.tables.exec = Jvm.exec) (hb : c.code = cX8_word) (hml : c.maxLocals = 10) (hown : s.vm.findClass RX8 = some m.cls) (hts : ∀ w ∈ v_f_X8_word, w.before #[Value.int p0, Value.int p1, Value.int p2, Value.int p3, Value.int p4, Value.int p5] s = true) (hK : va_K E.1 vwCl (TY E) s) (hN : NX s) (hP : va_P E.1 vwCl [] s.heap) (j9 : Nat) (x6 : Int64) (x8 : Int32) (x6' : Int64) (hL : lpF (fun u9 : Int64 × Int32 => B_X8_word_6 p0 p1 p2 p3 p4 p5 u9.1 u9.2) j9 (x6, x8) = some x6') (hX : (∀ (ls : Array Slot), lv_has ls 10 [(6, .long x6')] → W p l e ({ frames := 0, cells := 0, slots := 0, locals := 0 } : Room) s m #[Value.int p0, Value.int p1, Value.int p2, Value.int p3, Value.int p4, Value.int p5] below meth c s.heap [] 0 0 Q (F0 m 101 ls []))) : ∀ (ls : Array Slot), lv_has ls 10 [(0, .int p0), (1, .int p1), (2, .int p2), (3, .int p3), (4, .int p4), (5, .int p5), (6, .long x6), (8, .int x8)] → W p l e ({ frames := 0, cells := 0, slots := 0, locals := 0 } : Room) s m #[Value.int p0, Value.int p1, Value.int p2, Value.int p3, Value.int p4, Value.int p5] below meth c s.heap [] 0 0 Q (F0 m 6 ls []) := by
  exact lp_rule (P := (fun u9 : Int64 × Int32 => ∀ (ls : Array Slot), lv_has ls 10 [(0, .int p0), (1, .int p1), (2, .int p2), (3, .int p3), (4, .int p4), (5, .int p5), (6, .long u9.1), (8, .int u9.2)] → W p l e ({ frames := 0, cells := 0, slots := 0, locals := 0 } : Room) s m #[Value.int p0, Value.int p1, Value.int p2, Value.int p3, Value.int p4, Value.int p5] below meth c s.heap [] 0 0 Q (F0 m 6 ls []))) (R := (fun r9 : Int64 => (∀ (ls : Array Slot), lv_has ls 10 [(6, .long r9)] → W p l e ({ frames := 0, cells := 0, slots := 0, locals := 0 } : Room) s m #[Value.int p0, Value.int p1, Value.int p2, Value.int p3, Value.int p4, Value.int p5] below meth c s.heap [] 0 0 Q (F0 m 101 ls [])))) (fun u9 xx hF hC hE => wb_X8_word_6 l E K (p0 := p0) (p1 := p1) (p2 := p2) (p3 := p3) (p4 := p4) (p5 := p5) (x6 := u9.1) (x8 := u9.2) hx hb hml hown hts hK hN (fun x6 x8 q9 => hC _ q9) (fun x6 q9 => hE _ q9) hF hP) j9 (x6, x8) x6' hL hX

set_option maxHeartbeats 4000000 in
set_option maxRecDepth 100000 in
theorem f_X8_word (l : Launch) (E : EE) (K : Nat) {p0 : Int32} {p1 : Int32} {p2 : Int32} {p3 : Int32} {p4 : Int32} {p5 : Int32} {rr : Int64} (hF : F_X8_word K p0 p1 p2 p3 p4 p5 = some rr) : Met l yX8_word v_f_X8_word (({ frames := 0, cells := 0, slots := 0, locals := 0 } : Room)) (va_Pc [.int p0, .int p1, .int p2, .int p3, .int p4, .int p5] (pP E [])) (vp_Sl (fun q : Int64 => q = rr)) 0 0 (fun _ => False) := by
  refine Met.ofW (cc := cX8_word) (maxL := 10) (ret := (some .long)) (by decide) rfl ?_
  intro p e s m args below meth c s₁ B hml hv
  obtain ⟨rfl, ⟨hK, hN⟩, hP⟩ := hv
  have hx := B.exec
  have hb := B.bytes
  have hr := B.returns
  have hts := atoms_spec (ws := v_f_X8_word) B.pre
  have hown : s.vm.findClass RX8 = some m.cls := own_of hd_X8_word.1 (findClass_of_methodNamed B.named)
  have hlocks : meth.locks = false := B.notSynchronized
  replace hP : va_P E.1 vwCl [] s.heap := hP
  have hl := lv_entry ([.int p0, .int p1, .int p2, .int p3, .int p4, .int p5]) (n := 10) (Nat.le_of_ble_eq_true rfl)
  rw [lg_entry_eq]
  generalize (lg_sl ([.int p0, .int p1, .int p2, .int p3, .int p4, .int p5]) ++ List.replicate (10 - (lg_sl ([.int p0, .int p1, .int p2, .int p3, .int p4, .int p5])).length) Slot.unset).toArray = ls at hl ⊢
  have hl : lv_has ls 10 [(0, .int p0), (1, .int p1), (2, .int p2), (3, .int p3), (4, .int p4), (5, .int p5)] := hl
  obtain ⟨Q, hQ⟩ : ∃ Q : State → Prop, Q = MQ below (vp_Sl (fun q : Int64 => q = rr)) #[Value.int p0, Value.int p1, Value.int p2, Value.int p3, Value.int p4, Value.int p5] s 0 0 (fun _ => False) := ⟨_, rfl⟩
  rw [← hQ]
  change W p l e ({ frames := 0, cells := 0, slots := 0, locals := 0 } : Room) s m #[Value.int p0, Value.int p1, Value.int p2, Value.int p3, Value.int p4, Value.int p5] below meth c s.heap [] 0 0 Q (F0 m 0 ls [])
  unfold F_X8_word at hF
  refine lv_lconst (v := 0) hx hb dX8_word_0 (by decide) ?_
  refine lv_lstore (lv' := [(6, .long (0 : Int64)), (0, .int p0), (1, .int p1), (2, .int p2), (3, .int p3), (4, .int p4), (5, .int p5)]) hx hb dX8_word_1 hl (by decide) rfl (fun ls hl => ?_)
  refine lv_iconst (v := 0) hx hb dX8_word_3 (by decide) ?_
  refine lv_istore (lv' := [(8, .int (0 : Int32)), (6, .long (0 : Int64)), (0, .int p0), (1, .int p1), (2, .int p2), (3, .int p3), (4, .int p4), (5, .int p5)]) hx hb dX8_word_4 hl (by decide) rfl (fun ls hl => ?_)
  replace hF := bd1_s hF
  obtain ⟨x6_8, hL_9, hF⟩ := hF
  refine lw_X8_word_6 l E K (p0 := p0) (p1 := p1) (p2 := p2) (p3 := p3) (p4 := p4) (p5 := p5) hx hb hml hown hts hK hN hP K (0 : Int64) (0 : Int32) x6_8 hL_9 ?_ ls (lv_sub hl [2, 3, 4, 5, 6, 7, 1, 0] rfl)
  ·
    intro ls hl
    refine lv_lload hx hb dX8_word_101 (lv_at hl 0 rfl) ?_
    rw [hQ]
    obtain e9_0 := inj1 hF
    exact W.lret (v := x6_8) hx hb hr (fun tt ht hW => ⟨_, rfl, e9_0, ht⟩) (fun _ h => by cases h) dX8_word_103
