def dl_X0_copyFrom_26_cl00_0 : List (Nat × Instr × Nat) := [(0, .aload_n 1, 1), (1, .getfield 11, 3), (4, .iconst 0, 1), (5, .aload_n 0, 1), (6, .getfield 11, 3), (9, .iconst 0, 1), (10, .sipush 300, 3), (13, .invokestatic 22, 3), (16, .return_, 1)]
set_option maxRecDepth 100000 in
theorem dall_X0_copyFrom_26_cl00_0 : dchk cX0_copyFrom dl_X0_copyFrom_26_cl00_0 = true := by decide +kernel
theorem dX0_copyFrom_0 : decode cX0_copyFrom 0 = .ok (.aload_n 1, 1) := dchk_at dall_X0_copyFrom_26_cl00_0 (k := 0) rfl
theorem dX0_copyFrom_1 : decode cX0_copyFrom 1 = .ok (.getfield 11, 3) := dchk_at dall_X0_copyFrom_26_cl00_0 (k := 1) rfl
theorem dX0_copyFrom_4 : decode cX0_copyFrom 4 = .ok (.iconst 0, 1) := dchk_at dall_X0_copyFrom_26_cl00_0 (k := 2) rfl
theorem dX0_copyFrom_5 : decode cX0_copyFrom 5 = .ok (.aload_n 0, 1) := dchk_at dall_X0_copyFrom_26_cl00_0 (k := 3) rfl
theorem dX0_copyFrom_6 : decode cX0_copyFrom 6 = .ok (.getfield 11, 3) := dchk_at dall_X0_copyFrom_26_cl00_0 (k := 4) rfl
theorem dX0_copyFrom_9 : decode cX0_copyFrom 9 = .ok (.iconst 0, 1) := dchk_at dall_X0_copyFrom_26_cl00_0 (k := 5) rfl
theorem dX0_copyFrom_10 : decode cX0_copyFrom 10 = .ok (.sipush 300, 3) := dchk_at dall_X0_copyFrom_26_cl00_0 (k := 6) rfl
theorem dX0_copyFrom_13 : decode cX0_copyFrom 13 = .ok (.invokestatic 22, 3) := dchk_at dall_X0_copyFrom_26_cl00_0 (k := 7) rfl
theorem dX0_copyFrom_16 : decode cX0_copyFrom 16 = .ok (.return_, 1) := dchk_at dall_X0_copyFrom_26_cl00_0 (k := 8) rfl
def dl_X0_read_26_cl00_0 : List (Nat × Instr × Nat) := [(0, .iload_n 2, 1), (1, .ifCond .lt 26, 3), (27, .ldc 21, 2), (29, .ireturn, 1), (4, .iload_n 2, 1), (5, .iconst 3, 1), (6, .if_icmp .ge 21, 3), (9, .aload_n 0, 1), (10, .getfield 11, 3), (13, .iload_n 1, 1), (14, .bipush 100, 2), (16, .invokestatic 15, 3), (19, .iconst 3, 1), (20, .imul, 1), (21, .iload_n 2, 1), (22, .iadd, 1), (23, .iaload, 1), (24, .goto 5, 3)]
set_option maxRecDepth 100000 in
theorem dall_X0_read_26_cl00_0 : dchk cX0_read dl_X0_read_26_cl00_0 = true := by decide +kernel
theorem dX0_read_0 : decode cX0_read 0 = .ok (.iload_n 2, 1) := dchk_at dall_X0_read_26_cl00_0 (k := 0) rfl
theorem dX0_read_1 : decode cX0_read 1 = .ok (.ifCond .lt 26, 3) := dchk_at dall_X0_read_26_cl00_0 (k := 1) rfl
theorem dX0_read_27 : decode cX0_read 27 = .ok (.ldc 21, 2) := dchk_at dall_X0_read_26_cl00_0 (k := 2) rfl
theorem dX0_read_29 : decode cX0_read 29 = .ok (.ireturn, 1) := dchk_at dall_X0_read_26_cl00_0 (k := 3) rfl
theorem dX0_read_4 : decode cX0_read 4 = .ok (.iload_n 2, 1) := dchk_at dall_X0_read_26_cl00_0 (k := 4) rfl
theorem dX0_read_5 : decode cX0_read 5 = .ok (.iconst 3, 1) := dchk_at dall_X0_read_26_cl00_0 (k := 5) rfl
theorem dX0_read_6 : decode cX0_read 6 = .ok (.if_icmp .ge 21, 3) := dchk_at dall_X0_read_26_cl00_0 (k := 6) rfl
theorem dX0_read_9 : decode cX0_read 9 = .ok (.aload_n 0, 1) := dchk_at dall_X0_read_26_cl00_0 (k := 7) rfl
theorem dX0_read_10 : decode cX0_read 10 = .ok (.getfield 11, 3) := dchk_at dall_X0_read_26_cl00_0 (k := 8) rfl
theorem dX0_read_13 : decode cX0_read 13 = .ok (.iload_n 1, 1) := dchk_at dall_X0_read_26_cl00_0 (k := 9) rfl
theorem dX0_read_14 : decode cX0_read 14 = .ok (.bipush 100, 2) := dchk_at dall_X0_read_26_cl00_0 (k := 10) rfl
theorem dX0_read_16 : decode cX0_read 16 = .ok (.invokestatic 15, 3) := dchk_at dall_X0_read_26_cl00_0 (k := 11) rfl
theorem dX0_read_19 : decode cX0_read 19 = .ok (.iconst 3, 1) := dchk_at dall_X0_read_26_cl00_0 (k := 12) rfl
theorem dX0_read_20 : decode cX0_read 20 = .ok (.imul, 1) := dchk_at dall_X0_read_26_cl00_0 (k := 13) rfl
theorem dX0_read_21 : decode cX0_read 21 = .ok (.iload_n 2, 1) := dchk_at dall_X0_read_26_cl00_0 (k := 14) rfl
theorem dX0_read_22 : decode cX0_read 22 = .ok (.iadd, 1) := dchk_at dall_X0_read_26_cl00_0 (k := 15) rfl
theorem dX0_read_23 : decode cX0_read 23 = .ok (.iaload, 1) := dchk_at dall_X0_read_26_cl00_0 (k := 16) rfl
theorem dX0_read_24 : decode cX0_read 24 = .ok (.goto 5, 3) := dchk_at dall_X0_read_26_cl00_0 (k := 17) rfl
def dl_X0_write_26_cl00_0 : List (Nat × Instr × Nat) := [(0, .iload_n 1, 1), (1, .bipush 100, 2), (3, .invokestatic 15, 3), (6, .iconst 3, 1), (7, .imul, 1), (8, .istore 5, 2), (10, .aload_n 0, 1), (11, .getfield 11, 3), (14, .iload 5, 2), (16, .iload_n 2, 1), (17, .iastore, 1), (18, .aload_n 0, 1), (19, .getfield 11, 3), (22, .iload 5, 2), (24, .iconst 1, 1), (25, .iadd, 1), (26, .iload_n 3, 1), (27, .iastore, 1), (28, .aload_n 0, 1), (29, .getfield 11, 3), (32, .iload 5, 2), (34, .iconst 2, 1), (35, .iadd, 1), (36, .iload 4, 2), (38, .iastore, 1), (39, .return_, 1)]
set_option maxRecDepth 100000 in
theorem dall_X0_write_26_cl00_0 : dchk cX0_write dl_X0_write_26_cl00_0 = true := by decide +kernel
theorem dX0_write_0 : decode cX0_write 0 = .ok (.iload_n 1, 1) := dchk_at dall_X0_write_26_cl00_0 (k := 0) rfl
theorem dX0_write_1 : decode cX0_write 1 = .ok (.bipush 100, 2) := dchk_at dall_X0_write_26_cl00_0 (k := 1) rfl
theorem dX0_write_3 : decode cX0_write 3 = .ok (.invokestatic 15, 3) := dchk_at dall_X0_write_26_cl00_0 (k := 2) rfl
theorem dX0_write_6 : decode cX0_write 6 = .ok (.iconst 3, 1) := dchk_at dall_X0_write_26_cl00_0 (k := 3) rfl
theorem dX0_write_7 : decode cX0_write 7 = .ok (.imul, 1) := dchk_at dall_X0_write_26_cl00_0 (k := 4) rfl
theorem dX0_write_8 : decode cX0_write 8 = .ok (.istore 5, 2) := dchk_at dall_X0_write_26_cl00_0 (k := 5) rfl
theorem dX0_write_10 : decode cX0_write 10 = .ok (.aload_n 0, 1) := dchk_at dall_X0_write_26_cl00_0 (k := 6) rfl
theorem dX0_write_11 : decode cX0_write 11 = .ok (.getfield 11, 3) := dchk_at dall_X0_write_26_cl00_0 (k := 7) rfl
theorem dX0_write_14 : decode cX0_write 14 = .ok (.iload 5, 2) := dchk_at dall_X0_write_26_cl00_0 (k := 8) rfl
theorem dX0_write_16 : decode cX0_write 16 = .ok (.iload_n 2, 1) := dchk_at dall_X0_write_26_cl00_0 (k := 9) rfl
theorem dX0_write_17 : decode cX0_write 17 = .ok (.iastore, 1) := dchk_at dall_X0_write_26_cl00_0 (k := 10) rfl
theorem dX0_write_18 : decode cX0_write 18 = .ok (.aload_n 0, 1) := dchk_at dall_X0_write_26_cl00_0 (k := 11) rfl
theorem dX0_write_19 : decode cX0_write 19 = .ok (.getfield 11, 3) := dchk_at dall_X0_write_26_cl00_0 (k := 12) rfl
theorem dX0_write_22 : decode cX0_write 22 = .ok (.iload 5, 2) := dchk_at dall_X0_write_26_cl00_0 (k := 13) rfl
theorem dX0_write_24 : decode cX0_write 24 = .ok (.iconst 1, 1) := dchk_at dall_X0_write_26_cl00_0 (k := 14) rfl
theorem dX0_write_25 : decode cX0_write 25 = .ok (.iadd, 1) := dchk_at dall_X0_write_26_cl00_0 (k := 15) rfl
theorem dX0_write_26 : decode cX0_write 26 = .ok (.iload_n 3, 1) := dchk_at dall_X0_write_26_cl00_0 (k := 16) rfl
theorem dX0_write_27 : decode cX0_write 27 = .ok (.iastore, 1) := dchk_at dall_X0_write_26_cl00_0 (k := 17) rfl
theorem dX0_write_28 : decode cX0_write 28 = .ok (.aload_n 0, 1) := dchk_at dall_X0_write_26_cl00_0 (k := 18) rfl
theorem dX0_write_29 : decode cX0_write 29 = .ok (.getfield 11, 3) := dchk_at dall_X0_write_26_cl00_0 (k := 19) rfl
theorem dX0_write_32 : decode cX0_write 32 = .ok (.iload 5, 2) := dchk_at dall_X0_write_26_cl00_0 (k := 20) rfl
theorem dX0_write_34 : decode cX0_write 34 = .ok (.iconst 2, 1) := dchk_at dall_X0_write_26_cl00_0 (k := 21) rfl
theorem dX0_write_35 : decode cX0_write 35 = .ok (.iadd, 1) := dchk_at dall_X0_write_26_cl00_0 (k := 22) rfl
theorem dX0_write_36 : decode cX0_write 36 = .ok (.iload 4, 2) := dchk_at dall_X0_write_26_cl00_0 (k := 23) rfl
theorem dX0_write_38 : decode cX0_write 38 = .ok (.iastore, 1) := dchk_at dall_X0_write_26_cl00_0 (k := 24) rfl
theorem dX0_write_39 : decode cX0_write 39 = .ok (.return_, 1) := dchk_at dall_X0_write_26_cl00_0 (k := 25) rfl
def dl_X1_next_26_cl00_0 : List (Nat × Instr × Nat) := [(0, .aload_n 0, 1), (1, .aload_n 0, 1), (2, .getfield 9, 3), (5, .ldc2_w 32, 3), (8, .lmul, 1), (9, .ldc2_w 34, 3), (12, .ladd, 1), (13, .putfield 9, 3), (16, .iload_n 1, 1), (17, .ifCond .le 17, 3), (34, .iconst 0, 1), (35, .ireturn, 1), (20, .aload_n 0, 1), (21, .getfield 9, 3), (24, .bipush 33, 2), (26, .lushr, 1), (27, .iload_n 1, 1), (28, .i2l, 1), (29, .lrem, 1), (30, .l2i, 1), (31, .goto 4, 3)]
set_option maxRecDepth 100000 in
theorem dall_X1_next_26_cl00_0 : dchk cX1_next dl_X1_next_26_cl00_0 = true := by decide +kernel
theorem dX1_next_0 : decode cX1_next 0 = .ok (.aload_n 0, 1) := dchk_at dall_X1_next_26_cl00_0 (k := 0) rfl
theorem dX1_next_1 : decode cX1_next 1 = .ok (.aload_n 0, 1) := dchk_at dall_X1_next_26_cl00_0 (k := 1) rfl
theorem dX1_next_2 : decode cX1_next 2 = .ok (.getfield 9, 3) := dchk_at dall_X1_next_26_cl00_0 (k := 2) rfl
theorem dX1_next_5 : decode cX1_next 5 = .ok (.ldc2_w 32, 3) := dchk_at dall_X1_next_26_cl00_0 (k := 3) rfl
theorem dX1_next_8 : decode cX1_next 8 = .ok (.lmul, 1) := dchk_at dall_X1_next_26_cl00_0 (k := 4) rfl
theorem dX1_next_9 : decode cX1_next 9 = .ok (.ldc2_w 34, 3) := dchk_at dall_X1_next_26_cl00_0 (k := 5) rfl
theorem dX1_next_12 : decode cX1_next 12 = .ok (.ladd, 1) := dchk_at dall_X1_next_26_cl00_0 (k := 6) rfl
theorem dX1_next_13 : decode cX1_next 13 = .ok (.putfield 9, 3) := dchk_at dall_X1_next_26_cl00_0 (k := 7) rfl
theorem dX1_next_16 : decode cX1_next 16 = .ok (.iload_n 1, 1) := dchk_at dall_X1_next_26_cl00_0 (k := 8) rfl
theorem dX1_next_17 : decode cX1_next 17 = .ok (.ifCond .le 17, 3) := dchk_at dall_X1_next_26_cl00_0 (k := 9) rfl
theorem dX1_next_34 : decode cX1_next 34 = .ok (.iconst 0, 1) := dchk_at dall_X1_next_26_cl00_0 (k := 10) rfl
theorem dX1_next_35 : decode cX1_next 35 = .ok (.ireturn, 1) := dchk_at dall_X1_next_26_cl00_0 (k := 11) rfl
theorem dX1_next_20 : decode cX1_next 20 = .ok (.aload_n 0, 1) := dchk_at dall_X1_next_26_cl00_0 (k := 12) rfl
theorem dX1_next_21 : decode cX1_next 21 = .ok (.getfield 9, 3) := dchk_at dall_X1_next_26_cl00_0 (k := 13) rfl
theorem dX1_next_24 : decode cX1_next 24 = .ok (.bipush 33, 2) := dchk_at dall_X1_next_26_cl00_0 (k := 14) rfl
theorem dX1_next_26 : decode cX1_next 26 = .ok (.lushr, 1) := dchk_at dall_X1_next_26_cl00_0 (k := 15) rfl
theorem dX1_next_27 : decode cX1_next 27 = .ok (.iload_n 1, 1) := dchk_at dall_X1_next_26_cl00_0 (k := 16) rfl
theorem dX1_next_28 : decode cX1_next 28 = .ok (.i2l, 1) := dchk_at dall_X1_next_26_cl00_0 (k := 17) rfl
theorem dX1_next_29 : decode cX1_next 29 = .ok (.lrem, 1) := dchk_at dall_X1_next_26_cl00_0 (k := 18) rfl
theorem dX1_next_30 : decode cX1_next 30 = .ok (.l2i, 1) := dchk_at dall_X1_next_26_cl00_0 (k := 19) rfl
theorem dX1_next_31 : decode cX1_next 31 = .ok (.goto 4, 3) := dchk_at dall_X1_next_26_cl00_0 (k := 20) rfl
def dl_X1_pickAct_26_cl00_0 : List (Nat × Instr × Nat) := [(0, .aload_n 0, 1), (1, .bipush 8, 2), (3, .invokevirtual 28, 3), (6, .istore_n 2, 1), (7, .iload_n 2, 1), (8, .bipush 7, 2), (10, .if_icmp .ne 14, 3), (24, .aload_n 0, 1), (25, .aload_n 0, 1), (26, .iload_n 1, 1), (27, .invokevirtual 28, 3), (30, .putfield 19, 3), (33, .iload_n 2, 1), (34, .bipush 6, 2), (36, .if_icmp .ne 21, 3), (57, .aload_n 0, 1), (58, .iconst 0, 1), (59, .putfield 15, 3), (62, .aload_n 0, 1), (63, .aload_n 0, 1), (64, .bipush 21, 2), (66, .invokevirtual 28, 3), (69, .bipush 10, 2), (71, .isub, 1), (72, .putfield 22, 3), (75, .aload_n 0, 1), (76, .aload_n 0, 1), (77, .bipush 21, 2), (79, .invokevirtual 28, 3), (82, .bipush 10, 2), (84, .isub, 1), (85, .putfield 25, 3), (88, .return_, 1), (39, .aload_n 0, 1), (40, .iconst 4, 1), (41, .putfield 15, 3), (44, .aload_n 0, 1), (45, .aload_n 0, 1), (46, .bipush 9, 2), (48, .invokevirtual 28, 3), (51, .iconst 1, 1), (52, .iadd, 1), (53, .putfield 22, 3), (56, .return_, 1), (13, .aload_n 0, 1), (14, .iconst 1, 1), (15, .putfield 15, 3), (18, .aload_n 0, 1), (19, .iconst (-1), 1), (20, .putfield 19, 3)]
set_option maxRecDepth 100000 in
theorem dall_X1_pickAct_26_cl00_0 : dchk cX1_pickAct dl_X1_pickAct_26_cl00_0 = true := by decide +kernel
theorem dX1_pickAct_0 : decode cX1_pickAct 0 = .ok (.aload_n 0, 1) := dchk_at dall_X1_pickAct_26_cl00_0 (k := 0) rfl
theorem dX1_pickAct_1 : decode cX1_pickAct 1 = .ok (.bipush 8, 2) := dchk_at dall_X1_pickAct_26_cl00_0 (k := 1) rfl
theorem dX1_pickAct_3 : decode cX1_pickAct 3 = .ok (.invokevirtual 28, 3) := dchk_at dall_X1_pickAct_26_cl00_0 (k := 2) rfl
theorem dX1_pickAct_6 : decode cX1_pickAct 6 = .ok (.istore_n 2, 1) := dchk_at dall_X1_pickAct_26_cl00_0 (k := 3) rfl
theorem dX1_pickAct_7 : decode cX1_pickAct 7 = .ok (.iload_n 2, 1) := dchk_at dall_X1_pickAct_26_cl00_0 (k := 4) rfl
theorem dX1_pickAct_8 : decode cX1_pickAct 8 = .ok (.bipush 7, 2) := dchk_at dall_X1_pickAct_26_cl00_0 (k := 5) rfl
theorem dX1_pickAct_10 : decode cX1_pickAct 10 = .ok (.if_icmp .ne 14, 3) := dchk_at dall_X1_pickAct_26_cl00_0 (k := 6) rfl
theorem dX1_pickAct_24 : decode cX1_pickAct 24 = .ok (.aload_n 0, 1) := dchk_at dall_X1_pickAct_26_cl00_0 (k := 7) rfl
theorem dX1_pickAct_25 : decode cX1_pickAct 25 = .ok (.aload_n 0, 1) := dchk_at dall_X1_pickAct_26_cl00_0 (k := 8) rfl
theorem dX1_pickAct_26 : decode cX1_pickAct 26 = .ok (.iload_n 1, 1) := dchk_at dall_X1_pickAct_26_cl00_0 (k := 9) rfl
theorem dX1_pickAct_27 : decode cX1_pickAct 27 = .ok (.invokevirtual 28, 3) := dchk_at dall_X1_pickAct_26_cl00_0 (k := 10) rfl
theorem dX1_pickAct_30 : decode cX1_pickAct 30 = .ok (.putfield 19, 3) := dchk_at dall_X1_pickAct_26_cl00_0 (k := 11) rfl
theorem dX1_pickAct_33 : decode cX1_pickAct 33 = .ok (.iload_n 2, 1) := dchk_at dall_X1_pickAct_26_cl00_0 (k := 12) rfl
theorem dX1_pickAct_34 : decode cX1_pickAct 34 = .ok (.bipush 6, 2) := dchk_at dall_X1_pickAct_26_cl00_0 (k := 13) rfl
theorem dX1_pickAct_36 : decode cX1_pickAct 36 = .ok (.if_icmp .ne 21, 3) := dchk_at dall_X1_pickAct_26_cl00_0 (k := 14) rfl
theorem dX1_pickAct_57 : decode cX1_pickAct 57 = .ok (.aload_n 0, 1) := dchk_at dall_X1_pickAct_26_cl00_0 (k := 15) rfl
theorem dX1_pickAct_58 : decode cX1_pickAct 58 = .ok (.iconst 0, 1) := dchk_at dall_X1_pickAct_26_cl00_0 (k := 16) rfl
theorem dX1_pickAct_59 : decode cX1_pickAct 59 = .ok (.putfield 15, 3) := dchk_at dall_X1_pickAct_26_cl00_0 (k := 17) rfl
theorem dX1_pickAct_62 : decode cX1_pickAct 62 = .ok (.aload_n 0, 1) := dchk_at dall_X1_pickAct_26_cl00_0 (k := 18) rfl
theorem dX1_pickAct_63 : decode cX1_pickAct 63 = .ok (.aload_n 0, 1) := dchk_at dall_X1_pickAct_26_cl00_0 (k := 19) rfl
theorem dX1_pickAct_64 : decode cX1_pickAct 64 = .ok (.bipush 21, 2) := dchk_at dall_X1_pickAct_26_cl00_0 (k := 20) rfl
theorem dX1_pickAct_66 : decode cX1_pickAct 66 = .ok (.invokevirtual 28, 3) := dchk_at dall_X1_pickAct_26_cl00_0 (k := 21) rfl
theorem dX1_pickAct_69 : decode cX1_pickAct 69 = .ok (.bipush 10, 2) := dchk_at dall_X1_pickAct_26_cl00_0 (k := 22) rfl
theorem dX1_pickAct_71 : decode cX1_pickAct 71 = .ok (.isub, 1) := dchk_at dall_X1_pickAct_26_cl00_0 (k := 23) rfl
theorem dX1_pickAct_72 : decode cX1_pickAct 72 = .ok (.putfield 22, 3) := dchk_at dall_X1_pickAct_26_cl00_0 (k := 24) rfl
theorem dX1_pickAct_75 : decode cX1_pickAct 75 = .ok (.aload_n 0, 1) := dchk_at dall_X1_pickAct_26_cl00_0 (k := 25) rfl
theorem dX1_pickAct_76 : decode cX1_pickAct 76 = .ok (.aload_n 0, 1) := dchk_at dall_X1_pickAct_26_cl00_0 (k := 26) rfl
theorem dX1_pickAct_77 : decode cX1_pickAct 77 = .ok (.bipush 21, 2) := dchk_at dall_X1_pickAct_26_cl00_0 (k := 27) rfl
theorem dX1_pickAct_79 : decode cX1_pickAct 79 = .ok (.invokevirtual 28, 3) := dchk_at dall_X1_pickAct_26_cl00_0 (k := 28) rfl
theorem dX1_pickAct_82 : decode cX1_pickAct 82 = .ok (.bipush 10, 2) := dchk_at dall_X1_pickAct_26_cl00_0 (k := 29) rfl
theorem dX1_pickAct_84 : decode cX1_pickAct 84 = .ok (.isub, 1) := dchk_at dall_X1_pickAct_26_cl00_0 (k := 30) rfl
theorem dX1_pickAct_85 : decode cX1_pickAct 85 = .ok (.putfield 25, 3) := dchk_at dall_X1_pickAct_26_cl00_0 (k := 31) rfl
theorem dX1_pickAct_88 : decode cX1_pickAct 88 = .ok (.return_, 1) := dchk_at dall_X1_pickAct_26_cl00_0 (k := 32) rfl
theorem dX1_pickAct_39 : decode cX1_pickAct 39 = .ok (.aload_n 0, 1) := dchk_at dall_X1_pickAct_26_cl00_0 (k := 33) rfl
theorem dX1_pickAct_40 : decode cX1_pickAct 40 = .ok (.iconst 4, 1) := dchk_at dall_X1_pickAct_26_cl00_0 (k := 34) rfl
theorem dX1_pickAct_41 : decode cX1_pickAct 41 = .ok (.putfield 15, 3) := dchk_at dall_X1_pickAct_26_cl00_0 (k := 35) rfl
theorem dX1_pickAct_44 : decode cX1_pickAct 44 = .ok (.aload_n 0, 1) := dchk_at dall_X1_pickAct_26_cl00_0 (k := 36) rfl
theorem dX1_pickAct_45 : decode cX1_pickAct 45 = .ok (.aload_n 0, 1) := dchk_at dall_X1_pickAct_26_cl00_0 (k := 37) rfl
theorem dX1_pickAct_46 : decode cX1_pickAct 46 = .ok (.bipush 9, 2) := dchk_at dall_X1_pickAct_26_cl00_0 (k := 38) rfl
theorem dX1_pickAct_48 : decode cX1_pickAct 48 = .ok (.invokevirtual 28, 3) := dchk_at dall_X1_pickAct_26_cl00_0 (k := 39) rfl
theorem dX1_pickAct_51 : decode cX1_pickAct 51 = .ok (.iconst 1, 1) := dchk_at dall_X1_pickAct_26_cl00_0 (k := 40) rfl
theorem dX1_pickAct_52 : decode cX1_pickAct 52 = .ok (.iadd, 1) := dchk_at dall_X1_pickAct_26_cl00_0 (k := 41) rfl
theorem dX1_pickAct_53 : decode cX1_pickAct 53 = .ok (.putfield 22, 3) := dchk_at dall_X1_pickAct_26_cl00_0 (k := 42) rfl
theorem dX1_pickAct_56 : decode cX1_pickAct 56 = .ok (.return_, 1) := dchk_at dall_X1_pickAct_26_cl00_0 (k := 43) rfl
theorem dX1_pickAct_13 : decode cX1_pickAct 13 = .ok (.aload_n 0, 1) := dchk_at dall_X1_pickAct_26_cl00_0 (k := 44) rfl
theorem dX1_pickAct_14 : decode cX1_pickAct 14 = .ok (.iconst 1, 1) := dchk_at dall_X1_pickAct_26_cl00_0 (k := 45) rfl
theorem dX1_pickAct_15 : decode cX1_pickAct 15 = .ok (.putfield 15, 3) := dchk_at dall_X1_pickAct_26_cl00_0 (k := 46) rfl
theorem dX1_pickAct_18 : decode cX1_pickAct 18 = .ok (.aload_n 0, 1) := dchk_at dall_X1_pickAct_26_cl00_0 (k := 47) rfl
theorem dX1_pickAct_19 : decode cX1_pickAct 19 = .ok (.iconst (-1), 1) := dchk_at dall_X1_pickAct_26_cl00_0 (k := 48) rfl
theorem dX1_pickAct_20 : decode cX1_pickAct 20 = .ok (.putfield 19, 3) := dchk_at dall_X1_pickAct_26_cl00_0 (k := 49) rfl
def dl_X1_pickAct_26_cl00_1 : List (Nat × Instr × Nat) := [(23, .return_, 1)]
set_option maxRecDepth 100000 in
theorem dall_X1_pickAct_26_cl00_1 : dchk cX1_pickAct dl_X1_pickAct_26_cl00_1 = true := by decide +kernel
theorem dX1_pickAct_23 : decode cX1_pickAct 23 = .ok (.return_, 1) := dchk_at dall_X1_pickAct_26_cl00_1 (k := 0) rfl
def dl_X2_bringBack_26_cl00_0 : List (Nat × Instr × Nat) := [(28, .putfield 17, 3), (31, .aload_n 0, 1), (32, .dup, 1), (33, .getfield 21, 3), (36, .iconst 1, 1), (37, .isub, 1), (38, .putfield 21, 3), (41, .aload_n 0, 1), (42, .getfield 11, 3), (45, .aload_n 0, 1), (46, .getfield 17, 3), (49, .bipush 81, 2), (51, .imul, 1), (52, .aload_n 1, 1), (53, .getfield 24, 3), (56, .iconst 0, 1), (57, .bipush 81, 2), (59, .invokestatic 27, 3), (62, .iconst 1, 1), (63, .ireturn, 1), (0, .aload_n 0, 1), (1, .getfield 21, 3), (4, .ifCond .ne 5, 3), (9, .aload_n 0, 1), (10, .aload_n 0, 1), (11, .getfield 17, 3), (14, .ifCond .le 12, 3), (26, .bipush 39, 2), (17, .aload_n 0, 1), (18, .getfield 17, 3), (21, .iconst 1, 1), (22, .isub, 1), (23, .goto 5, 3), (7, .iconst 0, 1), (8, .ireturn, 1)]
set_option maxRecDepth 100000 in
theorem dall_X2_bringBack_26_cl00_0 : dchk cX2_bringBack dl_X2_bringBack_26_cl00_0 = true := by decide +kernel
theorem dX2_bringBack_28 : decode cX2_bringBack 28 = .ok (.putfield 17, 3) := dchk_at dall_X2_bringBack_26_cl00_0 (k := 0) rfl
theorem dX2_bringBack_31 : decode cX2_bringBack 31 = .ok (.aload_n 0, 1) := dchk_at dall_X2_bringBack_26_cl00_0 (k := 1) rfl
theorem dX2_bringBack_32 : decode cX2_bringBack 32 = .ok (.dup, 1) := dchk_at dall_X2_bringBack_26_cl00_0 (k := 2) rfl
theorem dX2_bringBack_33 : decode cX2_bringBack 33 = .ok (.getfield 21, 3) := dchk_at dall_X2_bringBack_26_cl00_0 (k := 3) rfl
theorem dX2_bringBack_36 : decode cX2_bringBack 36 = .ok (.iconst 1, 1) := dchk_at dall_X2_bringBack_26_cl00_0 (k := 4) rfl
theorem dX2_bringBack_37 : decode cX2_bringBack 37 = .ok (.isub, 1) := dchk_at dall_X2_bringBack_26_cl00_0 (k := 5) rfl
theorem dX2_bringBack_38 : decode cX2_bringBack 38 = .ok (.putfield 21, 3) := dchk_at dall_X2_bringBack_26_cl00_0 (k := 6) rfl
theorem dX2_bringBack_41 : decode cX2_bringBack 41 = .ok (.aload_n 0, 1) := dchk_at dall_X2_bringBack_26_cl00_0 (k := 7) rfl
theorem dX2_bringBack_42 : decode cX2_bringBack 42 = .ok (.getfield 11, 3) := dchk_at dall_X2_bringBack_26_cl00_0 (k := 8) rfl
theorem dX2_bringBack_45 : decode cX2_bringBack 45 = .ok (.aload_n 0, 1) := dchk_at dall_X2_bringBack_26_cl00_0 (k := 9) rfl
theorem dX2_bringBack_46 : decode cX2_bringBack 46 = .ok (.getfield 17, 3) := dchk_at dall_X2_bringBack_26_cl00_0 (k := 10) rfl
theorem dX2_bringBack_49 : decode cX2_bringBack 49 = .ok (.bipush 81, 2) := dchk_at dall_X2_bringBack_26_cl00_0 (k := 11) rfl
theorem dX2_bringBack_51 : decode cX2_bringBack 51 = .ok (.imul, 1) := dchk_at dall_X2_bringBack_26_cl00_0 (k := 12) rfl
theorem dX2_bringBack_52 : decode cX2_bringBack 52 = .ok (.aload_n 1, 1) := dchk_at dall_X2_bringBack_26_cl00_0 (k := 13) rfl
theorem dX2_bringBack_53 : decode cX2_bringBack 53 = .ok (.getfield 24, 3) := dchk_at dall_X2_bringBack_26_cl00_0 (k := 14) rfl
theorem dX2_bringBack_56 : decode cX2_bringBack 56 = .ok (.iconst 0, 1) := dchk_at dall_X2_bringBack_26_cl00_0 (k := 15) rfl
theorem dX2_bringBack_57 : decode cX2_bringBack 57 = .ok (.bipush 81, 2) := dchk_at dall_X2_bringBack_26_cl00_0 (k := 16) rfl
theorem dX2_bringBack_59 : decode cX2_bringBack 59 = .ok (.invokestatic 27, 3) := dchk_at dall_X2_bringBack_26_cl00_0 (k := 17) rfl
theorem dX2_bringBack_62 : decode cX2_bringBack 62 = .ok (.iconst 1, 1) := dchk_at dall_X2_bringBack_26_cl00_0 (k := 18) rfl
theorem dX2_bringBack_63 : decode cX2_bringBack 63 = .ok (.ireturn, 1) := dchk_at dall_X2_bringBack_26_cl00_0 (k := 19) rfl
theorem dX2_bringBack_0 : decode cX2_bringBack 0 = .ok (.aload_n 0, 1) := dchk_at dall_X2_bringBack_26_cl00_0 (k := 20) rfl
theorem dX2_bringBack_1 : decode cX2_bringBack 1 = .ok (.getfield 21, 3) := dchk_at dall_X2_bringBack_26_cl00_0 (k := 21) rfl
theorem dX2_bringBack_4 : decode cX2_bringBack 4 = .ok (.ifCond .ne 5, 3) := dchk_at dall_X2_bringBack_26_cl00_0 (k := 22) rfl
theorem dX2_bringBack_9 : decode cX2_bringBack 9 = .ok (.aload_n 0, 1) := dchk_at dall_X2_bringBack_26_cl00_0 (k := 23) rfl
theorem dX2_bringBack_10 : decode cX2_bringBack 10 = .ok (.aload_n 0, 1) := dchk_at dall_X2_bringBack_26_cl00_0 (k := 24) rfl
theorem dX2_bringBack_11 : decode cX2_bringBack 11 = .ok (.getfield 17, 3) := dchk_at dall_X2_bringBack_26_cl00_0 (k := 25) rfl
theorem dX2_bringBack_14 : decode cX2_bringBack 14 = .ok (.ifCond .le 12, 3) := dchk_at dall_X2_bringBack_26_cl00_0 (k := 26) rfl
theorem dX2_bringBack_26 : decode cX2_bringBack 26 = .ok (.bipush 39, 2) := dchk_at dall_X2_bringBack_26_cl00_0 (k := 27) rfl
theorem dX2_bringBack_17 : decode cX2_bringBack 17 = .ok (.aload_n 0, 1) := dchk_at dall_X2_bringBack_26_cl00_0 (k := 28) rfl
theorem dX2_bringBack_18 : decode cX2_bringBack 18 = .ok (.getfield 17, 3) := dchk_at dall_X2_bringBack_26_cl00_0 (k := 29) rfl
theorem dX2_bringBack_21 : decode cX2_bringBack 21 = .ok (.iconst 1, 1) := dchk_at dall_X2_bringBack_26_cl00_0 (k := 30) rfl
theorem dX2_bringBack_22 : decode cX2_bringBack 22 = .ok (.isub, 1) := dchk_at dall_X2_bringBack_26_cl00_0 (k := 31) rfl
theorem dX2_bringBack_23 : decode cX2_bringBack 23 = .ok (.goto 5, 3) := dchk_at dall_X2_bringBack_26_cl00_0 (k := 32) rfl
theorem dX2_bringBack_7 : decode cX2_bringBack 7 = .ok (.iconst 0, 1) := dchk_at dall_X2_bringBack_26_cl00_0 (k := 33) rfl
theorem dX2_bringBack_8 : decode cX2_bringBack 8 = .ok (.ireturn, 1) := dchk_at dall_X2_bringBack_26_cl00_0 (k := 34) rfl
def dl_X2_forget_26_cl00_0 : List (Nat × Instr × Nat) := [(0, .aload_n 0, 1), (1, .iconst 0, 1), (2, .putfield 21, 3), (5, .return_, 1)]
set_option maxRecDepth 100000 in
theorem dall_X2_forget_26_cl00_0 : dchk cX2_forget dl_X2_forget_26_cl00_0 = true := by decide +kernel
theorem dX2_forget_0 : decode cX2_forget 0 = .ok (.aload_n 0, 1) := dchk_at dall_X2_forget_26_cl00_0 (k := 0) rfl
theorem dX2_forget_1 : decode cX2_forget 1 = .ok (.iconst 0, 1) := dchk_at dall_X2_forget_26_cl00_0 (k := 1) rfl
theorem dX2_forget_2 : decode cX2_forget 2 = .ok (.putfield 21, 3) := dchk_at dall_X2_forget_26_cl00_0 (k := 2) rfl
theorem dX2_forget_5 : decode cX2_forget 5 = .ok (.return_, 1) := dchk_at dall_X2_forget_26_cl00_0 (k := 3) rfl
def dl_X2_keep_26_cl00_0 : List (Nat × Instr × Nat) := [(0, .aload_n 1, 1), (1, .getfield 24, 3), (4, .iconst 0, 1), (5, .aload_n 0, 1), (6, .getfield 11, 3), (9, .aload_n 0, 1), (10, .getfield 17, 3), (13, .bipush 81, 2), (15, .imul, 1), (16, .bipush 81, 2), (18, .invokestatic 27, 3), (21, .aload_n 0, 1), (22, .aload_n 0, 1), (23, .getfield 17, 3), (26, .iconst 1, 1), (27, .iadd, 1), (28, .bipush 40, 2), (30, .if_icmp .ge 12, 3), (42, .iconst 0, 1), (43, .putfield 17, 3), (46, .aload_n 0, 1), (47, .aload_n 0, 1), (48, .getfield 21, 3), (51, .iconst 1, 1), (52, .iadd, 1), (53, .bipush 40, 2), (55, .invokestatic 33, 3), (58, .putfield 21, 3), (61, .return_, 1), (33, .aload_n 0, 1), (34, .getfield 17, 3), (37, .iconst 1, 1), (38, .iadd, 1), (39, .goto 4, 3)]
set_option maxRecDepth 100000 in
theorem dall_X2_keep_26_cl00_0 : dchk cX2_keep dl_X2_keep_26_cl00_0 = true := by decide +kernel
theorem dX2_keep_0 : decode cX2_keep 0 = .ok (.aload_n 1, 1) := dchk_at dall_X2_keep_26_cl00_0 (k := 0) rfl
theorem dX2_keep_1 : decode cX2_keep 1 = .ok (.getfield 24, 3) := dchk_at dall_X2_keep_26_cl00_0 (k := 1) rfl
theorem dX2_keep_4 : decode cX2_keep 4 = .ok (.iconst 0, 1) := dchk_at dall_X2_keep_26_cl00_0 (k := 2) rfl
theorem dX2_keep_5 : decode cX2_keep 5 = .ok (.aload_n 0, 1) := dchk_at dall_X2_keep_26_cl00_0 (k := 3) rfl
theorem dX2_keep_6 : decode cX2_keep 6 = .ok (.getfield 11, 3) := dchk_at dall_X2_keep_26_cl00_0 (k := 4) rfl
theorem dX2_keep_9 : decode cX2_keep 9 = .ok (.aload_n 0, 1) := dchk_at dall_X2_keep_26_cl00_0 (k := 5) rfl
theorem dX2_keep_10 : decode cX2_keep 10 = .ok (.getfield 17, 3) := dchk_at dall_X2_keep_26_cl00_0 (k := 6) rfl
theorem dX2_keep_13 : decode cX2_keep 13 = .ok (.bipush 81, 2) := dchk_at dall_X2_keep_26_cl00_0 (k := 7) rfl
theorem dX2_keep_15 : decode cX2_keep 15 = .ok (.imul, 1) := dchk_at dall_X2_keep_26_cl00_0 (k := 8) rfl
theorem dX2_keep_16 : decode cX2_keep 16 = .ok (.bipush 81, 2) := dchk_at dall_X2_keep_26_cl00_0 (k := 9) rfl
theorem dX2_keep_18 : decode cX2_keep 18 = .ok (.invokestatic 27, 3) := dchk_at dall_X2_keep_26_cl00_0 (k := 10) rfl
theorem dX2_keep_21 : decode cX2_keep 21 = .ok (.aload_n 0, 1) := dchk_at dall_X2_keep_26_cl00_0 (k := 11) rfl
theorem dX2_keep_22 : decode cX2_keep 22 = .ok (.aload_n 0, 1) := dchk_at dall_X2_keep_26_cl00_0 (k := 12) rfl
theorem dX2_keep_23 : decode cX2_keep 23 = .ok (.getfield 17, 3) := dchk_at dall_X2_keep_26_cl00_0 (k := 13) rfl
theorem dX2_keep_26 : decode cX2_keep 26 = .ok (.iconst 1, 1) := dchk_at dall_X2_keep_26_cl00_0 (k := 14) rfl
theorem dX2_keep_27 : decode cX2_keep 27 = .ok (.iadd, 1) := dchk_at dall_X2_keep_26_cl00_0 (k := 15) rfl
theorem dX2_keep_28 : decode cX2_keep 28 = .ok (.bipush 40, 2) := dchk_at dall_X2_keep_26_cl00_0 (k := 16) rfl
theorem dX2_keep_30 : decode cX2_keep 30 = .ok (.if_icmp .ge 12, 3) := dchk_at dall_X2_keep_26_cl00_0 (k := 17) rfl
theorem dX2_keep_42 : decode cX2_keep 42 = .ok (.iconst 0, 1) := dchk_at dall_X2_keep_26_cl00_0 (k := 18) rfl
theorem dX2_keep_43 : decode cX2_keep 43 = .ok (.putfield 17, 3) := dchk_at dall_X2_keep_26_cl00_0 (k := 19) rfl
theorem dX2_keep_46 : decode cX2_keep 46 = .ok (.aload_n 0, 1) := dchk_at dall_X2_keep_26_cl00_0 (k := 20) rfl
theorem dX2_keep_47 : decode cX2_keep 47 = .ok (.aload_n 0, 1) := dchk_at dall_X2_keep_26_cl00_0 (k := 21) rfl
theorem dX2_keep_48 : decode cX2_keep 48 = .ok (.getfield 21, 3) := dchk_at dall_X2_keep_26_cl00_0 (k := 22) rfl
theorem dX2_keep_51 : decode cX2_keep 51 = .ok (.iconst 1, 1) := dchk_at dall_X2_keep_26_cl00_0 (k := 23) rfl
theorem dX2_keep_52 : decode cX2_keep 52 = .ok (.iadd, 1) := dchk_at dall_X2_keep_26_cl00_0 (k := 24) rfl
theorem dX2_keep_53 : decode cX2_keep 53 = .ok (.bipush 40, 2) := dchk_at dall_X2_keep_26_cl00_0 (k := 25) rfl
theorem dX2_keep_55 : decode cX2_keep 55 = .ok (.invokestatic 33, 3) := dchk_at dall_X2_keep_26_cl00_0 (k := 26) rfl
theorem dX2_keep_58 : decode cX2_keep 58 = .ok (.putfield 21, 3) := dchk_at dall_X2_keep_26_cl00_0 (k := 27) rfl
theorem dX2_keep_61 : decode cX2_keep 61 = .ok (.return_, 1) := dchk_at dall_X2_keep_26_cl00_0 (k := 28) rfl
theorem dX2_keep_33 : decode cX2_keep 33 = .ok (.aload_n 0, 1) := dchk_at dall_X2_keep_26_cl00_0 (k := 29) rfl
theorem dX2_keep_34 : decode cX2_keep 34 = .ok (.getfield 17, 3) := dchk_at dall_X2_keep_26_cl00_0 (k := 30) rfl
theorem dX2_keep_37 : decode cX2_keep 37 = .ok (.iconst 1, 1) := dchk_at dall_X2_keep_26_cl00_0 (k := 31) rfl
theorem dX2_keep_38 : decode cX2_keep 38 = .ok (.iadd, 1) := dchk_at dall_X2_keep_26_cl00_0 (k := 32) rfl
theorem dX2_keep_39 : decode cX2_keep 39 = .ok (.goto 4, 3) := dchk_at dall_X2_keep_26_cl00_0 (k := 33) rfl
def dl_X4_areFull_26_cl00_0 : List (Nat × Instr × Nat) := [(0, .aload_n 0, 1), (1, .getfield 18, 3), (4, .iconst 4, 1), (5, .if_icmp .lt 7, 3), (12, .iconst 0, 1), (13, .ireturn, 1), (8, .iconst 1, 1), (9, .goto 4, 3)]
set_option maxRecDepth 100000 in
theorem dall_X4_areFull_26_cl00_0 : dchk cX4_areFull dl_X4_areFull_26_cl00_0 = true := by decide +kernel
theorem dX4_areFull_0 : decode cX4_areFull 0 = .ok (.aload_n 0, 1) := dchk_at dall_X4_areFull_26_cl00_0 (k := 0) rfl
theorem dX4_areFull_1 : decode cX4_areFull 1 = .ok (.getfield 18, 3) := dchk_at dall_X4_areFull_26_cl00_0 (k := 1) rfl
theorem dX4_areFull_4 : decode cX4_areFull 4 = .ok (.iconst 4, 1) := dchk_at dall_X4_areFull_26_cl00_0 (k := 2) rfl
theorem dX4_areFull_5 : decode cX4_areFull 5 = .ok (.if_icmp .lt 7, 3) := dchk_at dall_X4_areFull_26_cl00_0 (k := 3) rfl
theorem dX4_areFull_12 : decode cX4_areFull 12 = .ok (.iconst 0, 1) := dchk_at dall_X4_areFull_26_cl00_0 (k := 4) rfl
theorem dX4_areFull_13 : decode cX4_areFull 13 = .ok (.ireturn, 1) := dchk_at dall_X4_areFull_26_cl00_0 (k := 5) rfl
theorem dX4_areFull_8 : decode cX4_areFull 8 = .ok (.iconst 1, 1) := dchk_at dall_X4_areFull_26_cl00_0 (k := 6) rfl
theorem dX4_areFull_9 : decode cX4_areFull 9 = .ok (.goto 4, 3) := dchk_at dall_X4_areFull_26_cl00_0 (k := 7) rfl
def dl_X4_has_26_cl00_0 : List (Nat × Instr × Nat) := [(0, .iload_n 1, 1), (1, .ifCond .lt 20, 3), (21, .iconst 0, 1), (22, .ireturn, 1), (4, .iload_n 1, 1), (5, .aload_n 0, 1), (6, .getfield 18, 3), (9, .if_icmp .ge 12, 3), (12, .iload_n 1, 1), (13, .iconst 4, 1), (14, .if_icmp .ge 7, 3), (17, .iconst 1, 1), (18, .goto 4, 3)]
set_option maxRecDepth 100000 in
theorem dall_X4_has_26_cl00_0 : dchk cX4_has dl_X4_has_26_cl00_0 = true := by decide +kernel
theorem dX4_has_0 : decode cX4_has 0 = .ok (.iload_n 1, 1) := dchk_at dall_X4_has_26_cl00_0 (k := 0) rfl
theorem dX4_has_1 : decode cX4_has 1 = .ok (.ifCond .lt 20, 3) := dchk_at dall_X4_has_26_cl00_0 (k := 1) rfl
theorem dX4_has_21 : decode cX4_has 21 = .ok (.iconst 0, 1) := dchk_at dall_X4_has_26_cl00_0 (k := 2) rfl
theorem dX4_has_22 : decode cX4_has 22 = .ok (.ireturn, 1) := dchk_at dall_X4_has_26_cl00_0 (k := 3) rfl
theorem dX4_has_4 : decode cX4_has 4 = .ok (.iload_n 1, 1) := dchk_at dall_X4_has_26_cl00_0 (k := 4) rfl
theorem dX4_has_5 : decode cX4_has 5 = .ok (.aload_n 0, 1) := dchk_at dall_X4_has_26_cl00_0 (k := 5) rfl
theorem dX4_has_6 : decode cX4_has 6 = .ok (.getfield 18, 3) := dchk_at dall_X4_has_26_cl00_0 (k := 6) rfl
theorem dX4_has_9 : decode cX4_has 9 = .ok (.if_icmp .ge 12, 3) := dchk_at dall_X4_has_26_cl00_0 (k := 7) rfl
theorem dX4_has_12 : decode cX4_has 12 = .ok (.iload_n 1, 1) := dchk_at dall_X4_has_26_cl00_0 (k := 8) rfl
theorem dX4_has_13 : decode cX4_has 13 = .ok (.iconst 4, 1) := dchk_at dall_X4_has_26_cl00_0 (k := 9) rfl
theorem dX4_has_14 : decode cX4_has 14 = .ok (.if_icmp .ge 7, 3) := dchk_at dall_X4_has_26_cl00_0 (k := 10) rfl
theorem dX4_has_17 : decode cX4_has 17 = .ok (.iconst 1, 1) := dchk_at dall_X4_has_26_cl00_0 (k := 11) rfl
theorem dX4_has_18 : decode cX4_has 18 = .ok (.goto 4, 3) := dchk_at dall_X4_has_26_cl00_0 (k := 12) rfl
def dl_X4_keep_26_cl00_0 : List (Nat × Instr × Nat) := [(0, .aload_n 0, 1), (1, .invokevirtual 22, 3), (4, .ifCond .ne 47, 3), (51, .return_, 1), (7, .aload_n 1, 1), (8, .getfield 26, 3), (11, .iconst 0, 1), (12, .aload_n 0, 1), (13, .getfield 11, 3), (16, .aload_n 0, 1), (17, .getfield 18, 3), (20, .bipush 48, 2), (22, .imul, 1), (23, .bipush 48, 2), (25, .invokestatic 29, 3), (28, .aload_n 0, 1), (29, .getfield 15, 3), (32, .aload_n 0, 1), (33, .getfield 18, 3), (36, .aload_n 1, 1), (37, .getfield 35, 3), (40, .iastore, 1), (41, .aload_n 0, 1), (42, .dup, 1), (43, .getfield 18, 3), (46, .iconst 1, 1), (47, .iadd, 1), (48, .putfield 18, 3)]
set_option maxRecDepth 100000 in
theorem dall_X4_keep_26_cl00_0 : dchk cX4_keep dl_X4_keep_26_cl00_0 = true := by decide +kernel
theorem dX4_keep_0 : decode cX4_keep 0 = .ok (.aload_n 0, 1) := dchk_at dall_X4_keep_26_cl00_0 (k := 0) rfl
theorem dX4_keep_1 : decode cX4_keep 1 = .ok (.invokevirtual 22, 3) := dchk_at dall_X4_keep_26_cl00_0 (k := 1) rfl
theorem dX4_keep_4 : decode cX4_keep 4 = .ok (.ifCond .ne 47, 3) := dchk_at dall_X4_keep_26_cl00_0 (k := 2) rfl
theorem dX4_keep_51 : decode cX4_keep 51 = .ok (.return_, 1) := dchk_at dall_X4_keep_26_cl00_0 (k := 3) rfl
theorem dX4_keep_7 : decode cX4_keep 7 = .ok (.aload_n 1, 1) := dchk_at dall_X4_keep_26_cl00_0 (k := 4) rfl
theorem dX4_keep_8 : decode cX4_keep 8 = .ok (.getfield 26, 3) := dchk_at dall_X4_keep_26_cl00_0 (k := 5) rfl
theorem dX4_keep_11 : decode cX4_keep 11 = .ok (.iconst 0, 1) := dchk_at dall_X4_keep_26_cl00_0 (k := 6) rfl
theorem dX4_keep_12 : decode cX4_keep 12 = .ok (.aload_n 0, 1) := dchk_at dall_X4_keep_26_cl00_0 (k := 7) rfl
theorem dX4_keep_13 : decode cX4_keep 13 = .ok (.getfield 11, 3) := dchk_at dall_X4_keep_26_cl00_0 (k := 8) rfl
theorem dX4_keep_16 : decode cX4_keep 16 = .ok (.aload_n 0, 1) := dchk_at dall_X4_keep_26_cl00_0 (k := 9) rfl
theorem dX4_keep_17 : decode cX4_keep 17 = .ok (.getfield 18, 3) := dchk_at dall_X4_keep_26_cl00_0 (k := 10) rfl
theorem dX4_keep_20 : decode cX4_keep 20 = .ok (.bipush 48, 2) := dchk_at dall_X4_keep_26_cl00_0 (k := 11) rfl
theorem dX4_keep_22 : decode cX4_keep 22 = .ok (.imul, 1) := dchk_at dall_X4_keep_26_cl00_0 (k := 12) rfl
theorem dX4_keep_23 : decode cX4_keep 23 = .ok (.bipush 48, 2) := dchk_at dall_X4_keep_26_cl00_0 (k := 13) rfl
theorem dX4_keep_25 : decode cX4_keep 25 = .ok (.invokestatic 29, 3) := dchk_at dall_X4_keep_26_cl00_0 (k := 14) rfl
theorem dX4_keep_28 : decode cX4_keep 28 = .ok (.aload_n 0, 1) := dchk_at dall_X4_keep_26_cl00_0 (k := 15) rfl
theorem dX4_keep_29 : decode cX4_keep 29 = .ok (.getfield 15, 3) := dchk_at dall_X4_keep_26_cl00_0 (k := 16) rfl
theorem dX4_keep_32 : decode cX4_keep 32 = .ok (.aload_n 0, 1) := dchk_at dall_X4_keep_26_cl00_0 (k := 17) rfl
theorem dX4_keep_33 : decode cX4_keep 33 = .ok (.getfield 18, 3) := dchk_at dall_X4_keep_26_cl00_0 (k := 18) rfl
theorem dX4_keep_36 : decode cX4_keep 36 = .ok (.aload_n 1, 1) := dchk_at dall_X4_keep_26_cl00_0 (k := 19) rfl
theorem dX4_keep_37 : decode cX4_keep 37 = .ok (.getfield 35, 3) := dchk_at dall_X4_keep_26_cl00_0 (k := 20) rfl
theorem dX4_keep_40 : decode cX4_keep 40 = .ok (.iastore, 1) := dchk_at dall_X4_keep_26_cl00_0 (k := 21) rfl
theorem dX4_keep_41 : decode cX4_keep 41 = .ok (.aload_n 0, 1) := dchk_at dall_X4_keep_26_cl00_0 (k := 22) rfl
theorem dX4_keep_42 : decode cX4_keep 42 = .ok (.dup, 1) := dchk_at dall_X4_keep_26_cl00_0 (k := 23) rfl
theorem dX4_keep_43 : decode cX4_keep 43 = .ok (.getfield 18, 3) := dchk_at dall_X4_keep_26_cl00_0 (k := 24) rfl
theorem dX4_keep_46 : decode cX4_keep 46 = .ok (.iconst 1, 1) := dchk_at dall_X4_keep_26_cl00_0 (k := 25) rfl
theorem dX4_keep_47 : decode cX4_keep 47 = .ok (.iadd, 1) := dchk_at dall_X4_keep_26_cl00_0 (k := 26) rfl
theorem dX4_keep_48 : decode cX4_keep 48 = .ok (.putfield 18, 3) := dchk_at dall_X4_keep_26_cl00_0 (k := 27) rfl
def dl_X4_stepsOf_26_cl00_0 : List (Nat × Instr × Nat) := [(0, .aload_n 0, 1), (1, .iload_n 1, 1), (2, .invokevirtual 38, 3), (5, .ifCond .eq 12, 3), (17, .iconst 0, 1), (18, .ireturn, 1), (8, .aload_n 0, 1), (9, .getfield 15, 3), (12, .iload_n 1, 1), (13, .iaload, 1), (14, .goto 4, 3)]
set_option maxRecDepth 100000 in
theorem dall_X4_stepsOf_26_cl00_0 : dchk cX4_stepsOf dl_X4_stepsOf_26_cl00_0 = true := by decide +kernel
theorem dX4_stepsOf_0 : decode cX4_stepsOf 0 = .ok (.aload_n 0, 1) := dchk_at dall_X4_stepsOf_26_cl00_0 (k := 0) rfl
theorem dX4_stepsOf_1 : decode cX4_stepsOf 1 = .ok (.iload_n 1, 1) := dchk_at dall_X4_stepsOf_26_cl00_0 (k := 1) rfl
theorem dX4_stepsOf_2 : decode cX4_stepsOf 2 = .ok (.invokevirtual 38, 3) := dchk_at dall_X4_stepsOf_26_cl00_0 (k := 2) rfl
theorem dX4_stepsOf_5 : decode cX4_stepsOf 5 = .ok (.ifCond .eq 12, 3) := dchk_at dall_X4_stepsOf_26_cl00_0 (k := 3) rfl
theorem dX4_stepsOf_17 : decode cX4_stepsOf 17 = .ok (.iconst 0, 1) := dchk_at dall_X4_stepsOf_26_cl00_0 (k := 4) rfl
theorem dX4_stepsOf_18 : decode cX4_stepsOf 18 = .ok (.ireturn, 1) := dchk_at dall_X4_stepsOf_26_cl00_0 (k := 5) rfl
theorem dX4_stepsOf_8 : decode cX4_stepsOf 8 = .ok (.aload_n 0, 1) := dchk_at dall_X4_stepsOf_26_cl00_0 (k := 6) rfl
theorem dX4_stepsOf_9 : decode cX4_stepsOf 9 = .ok (.getfield 15, 3) := dchk_at dall_X4_stepsOf_26_cl00_0 (k := 7) rfl
theorem dX4_stepsOf_12 : decode cX4_stepsOf 12 = .ok (.iload_n 1, 1) := dchk_at dall_X4_stepsOf_26_cl00_0 (k := 8) rfl
theorem dX4_stepsOf_13 : decode cX4_stepsOf 13 = .ok (.iaload, 1) := dchk_at dall_X4_stepsOf_26_cl00_0 (k := 9) rfl
theorem dX4_stepsOf_14 : decode cX4_stepsOf 14 = .ok (.goto 4, 3) := dchk_at dall_X4_stepsOf_26_cl00_0 (k := 10) rfl
def dl_X4_read_26_cl00_0 : List (Nat × Instr × Nat) := [(0, .iload_n 2, 1), (1, .ifCond .lt 21, 3), (22, .ldc 46, 2), (24, .ireturn, 1), (4, .iload_n 2, 1), (5, .aload_n 0, 1), (6, .iload_n 1, 1), (7, .invokevirtual 42, 3), (10, .if_icmp .ge 12, 3), (13, .iload_n 3, 1), (14, .ifCond .lt 8, 3), (17, .iload_n 3, 1), (18, .iconst 4, 1), (19, .if_icmp .lt 6, 3), (25, .aload_n 0, 1), (26, .getfield 11, 3), (29, .iload_n 1, 1), (30, .bipush 48, 2), (32, .imul, 1), (33, .iload_n 2, 1), (34, .iconst 4, 1), (35, .imul, 1), (36, .iadd, 1), (37, .iload_n 3, 1), (38, .iadd, 1), (39, .iaload, 1), (40, .ireturn, 1)]
set_option maxRecDepth 100000 in
theorem dall_X4_read_26_cl00_0 : dchk cX4_read dl_X4_read_26_cl00_0 = true := by decide +kernel
theorem dX4_read_0 : decode cX4_read 0 = .ok (.iload_n 2, 1) := dchk_at dall_X4_read_26_cl00_0 (k := 0) rfl
theorem dX4_read_1 : decode cX4_read 1 = .ok (.ifCond .lt 21, 3) := dchk_at dall_X4_read_26_cl00_0 (k := 1) rfl
theorem dX4_read_22 : decode cX4_read 22 = .ok (.ldc 46, 2) := dchk_at dall_X4_read_26_cl00_0 (k := 2) rfl
theorem dX4_read_24 : decode cX4_read 24 = .ok (.ireturn, 1) := dchk_at dall_X4_read_26_cl00_0 (k := 3) rfl
theorem dX4_read_4 : decode cX4_read 4 = .ok (.iload_n 2, 1) := dchk_at dall_X4_read_26_cl00_0 (k := 4) rfl
theorem dX4_read_5 : decode cX4_read 5 = .ok (.aload_n 0, 1) := dchk_at dall_X4_read_26_cl00_0 (k := 5) rfl
theorem dX4_read_6 : decode cX4_read 6 = .ok (.iload_n 1, 1) := dchk_at dall_X4_read_26_cl00_0 (k := 6) rfl
theorem dX4_read_7 : decode cX4_read 7 = .ok (.invokevirtual 42, 3) := dchk_at dall_X4_read_26_cl00_0 (k := 7) rfl
theorem dX4_read_10 : decode cX4_read 10 = .ok (.if_icmp .ge 12, 3) := dchk_at dall_X4_read_26_cl00_0 (k := 8) rfl
theorem dX4_read_13 : decode cX4_read 13 = .ok (.iload_n 3, 1) := dchk_at dall_X4_read_26_cl00_0 (k := 9) rfl
theorem dX4_read_14 : decode cX4_read 14 = .ok (.ifCond .lt 8, 3) := dchk_at dall_X4_read_26_cl00_0 (k := 10) rfl
theorem dX4_read_17 : decode cX4_read 17 = .ok (.iload_n 3, 1) := dchk_at dall_X4_read_26_cl00_0 (k := 11) rfl
theorem dX4_read_18 : decode cX4_read 18 = .ok (.iconst 4, 1) := dchk_at dall_X4_read_26_cl00_0 (k := 12) rfl
theorem dX4_read_19 : decode cX4_read 19 = .ok (.if_icmp .lt 6, 3) := dchk_at dall_X4_read_26_cl00_0 (k := 13) rfl
theorem dX4_read_25 : decode cX4_read 25 = .ok (.aload_n 0, 1) := dchk_at dall_X4_read_26_cl00_0 (k := 14) rfl
theorem dX4_read_26 : decode cX4_read 26 = .ok (.getfield 11, 3) := dchk_at dall_X4_read_26_cl00_0 (k := 15) rfl
theorem dX4_read_29 : decode cX4_read 29 = .ok (.iload_n 1, 1) := dchk_at dall_X4_read_26_cl00_0 (k := 16) rfl
theorem dX4_read_30 : decode cX4_read 30 = .ok (.bipush 48, 2) := dchk_at dall_X4_read_26_cl00_0 (k := 17) rfl
theorem dX4_read_32 : decode cX4_read 32 = .ok (.imul, 1) := dchk_at dall_X4_read_26_cl00_0 (k := 18) rfl
theorem dX4_read_33 : decode cX4_read 33 = .ok (.iload_n 2, 1) := dchk_at dall_X4_read_26_cl00_0 (k := 19) rfl
theorem dX4_read_34 : decode cX4_read 34 = .ok (.iconst 4, 1) := dchk_at dall_X4_read_26_cl00_0 (k := 20) rfl
theorem dX4_read_35 : decode cX4_read 35 = .ok (.imul, 1) := dchk_at dall_X4_read_26_cl00_0 (k := 21) rfl
theorem dX4_read_36 : decode cX4_read 36 = .ok (.iadd, 1) := dchk_at dall_X4_read_26_cl00_0 (k := 22) rfl
theorem dX4_read_37 : decode cX4_read 37 = .ok (.iload_n 3, 1) := dchk_at dall_X4_read_26_cl00_0 (k := 23) rfl
theorem dX4_read_38 : decode cX4_read 38 = .ok (.iadd, 1) := dchk_at dall_X4_read_26_cl00_0 (k := 24) rfl
theorem dX4_read_39 : decode cX4_read 39 = .ok (.iaload, 1) := dchk_at dall_X4_read_26_cl00_0 (k := 25) rfl
theorem dX4_read_40 : decode cX4_read 40 = .ok (.ireturn, 1) := dchk_at dall_X4_read_26_cl00_0 (k := 26) rfl
def dl_X4_sortOf_26_cl00_0 : List (Nat × Instr × Nat) := [(0, .aload_n 0, 1), (1, .iload_n 1, 1), (2, .iload_n 2, 1), (3, .iconst 0, 1), (4, .invokevirtual 47, 3), (7, .istore_n 3, 1), (8, .iload_n 3, 1), (9, .ifCond .lt 19, 3), (28, .iconst (-1), 1), (29, .ireturn, 1), (12, .iload_n 3, 1), (13, .getstatic 51, 3), (16, .arraylength, 1), (17, .if_icmp .ge 11, 3), (20, .getstatic 51, 3), (23, .iload_n 3, 1), (24, .iaload, 1), (25, .goto 4, 3)]
set_option maxRecDepth 100000 in
theorem dall_X4_sortOf_26_cl00_0 : dchk cX4_sortOf dl_X4_sortOf_26_cl00_0 = true := by decide +kernel
theorem dX4_sortOf_0 : decode cX4_sortOf 0 = .ok (.aload_n 0, 1) := dchk_at dall_X4_sortOf_26_cl00_0 (k := 0) rfl
theorem dX4_sortOf_1 : decode cX4_sortOf 1 = .ok (.iload_n 1, 1) := dchk_at dall_X4_sortOf_26_cl00_0 (k := 1) rfl
theorem dX4_sortOf_2 : decode cX4_sortOf 2 = .ok (.iload_n 2, 1) := dchk_at dall_X4_sortOf_26_cl00_0 (k := 2) rfl
theorem dX4_sortOf_3 : decode cX4_sortOf 3 = .ok (.iconst 0, 1) := dchk_at dall_X4_sortOf_26_cl00_0 (k := 3) rfl
theorem dX4_sortOf_4 : decode cX4_sortOf 4 = .ok (.invokevirtual 47, 3) := dchk_at dall_X4_sortOf_26_cl00_0 (k := 4) rfl
theorem dX4_sortOf_7 : decode cX4_sortOf 7 = .ok (.istore_n 3, 1) := dchk_at dall_X4_sortOf_26_cl00_0 (k := 5) rfl
theorem dX4_sortOf_8 : decode cX4_sortOf 8 = .ok (.iload_n 3, 1) := dchk_at dall_X4_sortOf_26_cl00_0 (k := 6) rfl
theorem dX4_sortOf_9 : decode cX4_sortOf 9 = .ok (.ifCond .lt 19, 3) := dchk_at dall_X4_sortOf_26_cl00_0 (k := 7) rfl
theorem dX4_sortOf_28 : decode cX4_sortOf 28 = .ok (.iconst (-1), 1) := dchk_at dall_X4_sortOf_26_cl00_0 (k := 8) rfl
theorem dX4_sortOf_29 : decode cX4_sortOf 29 = .ok (.ireturn, 1) := dchk_at dall_X4_sortOf_26_cl00_0 (k := 9) rfl
theorem dX4_sortOf_12 : decode cX4_sortOf 12 = .ok (.iload_n 3, 1) := dchk_at dall_X4_sortOf_26_cl00_0 (k := 10) rfl
theorem dX4_sortOf_13 : decode cX4_sortOf 13 = .ok (.getstatic 51, 3) := dchk_at dall_X4_sortOf_26_cl00_0 (k := 11) rfl
theorem dX4_sortOf_16 : decode cX4_sortOf 16 = .ok (.arraylength, 1) := dchk_at dall_X4_sortOf_26_cl00_0 (k := 12) rfl
theorem dX4_sortOf_17 : decode cX4_sortOf 17 = .ok (.if_icmp .ge 11, 3) := dchk_at dall_X4_sortOf_26_cl00_0 (k := 13) rfl
theorem dX4_sortOf_20 : decode cX4_sortOf 20 = .ok (.getstatic 51, 3) := dchk_at dall_X4_sortOf_26_cl00_0 (k := 14) rfl
theorem dX4_sortOf_23 : decode cX4_sortOf 23 = .ok (.iload_n 3, 1) := dchk_at dall_X4_sortOf_26_cl00_0 (k := 15) rfl
theorem dX4_sortOf_24 : decode cX4_sortOf 24 = .ok (.iaload, 1) := dchk_at dall_X4_sortOf_26_cl00_0 (k := 16) rfl
theorem dX4_sortOf_25 : decode cX4_sortOf 25 = .ok (.goto 4, 3) := dchk_at dall_X4_sortOf_26_cl00_0 (k := 17) rfl
def F_X0_copyFrom (c_lines : Nat → Int32) (c_o1_lines : Nat → Int32) : Option ((Nat → Int32)) :=
  cpF (0 : Int32) (0 : Int32) (300 : Int32) 300 300 (nmF (va_cpy c_o1_lines c_lines (0 : Int32).toNatClampNeg (0 : Int32).toNatClampNeg (300 : Int32).toNatClampNeg) (fun f_2 => some f_2))
abbrev w_X0_copyFrom (E : EE) (a_ a_lines a_o1 a_o1_lines : Nat) (c_lines : Nat → Int32) (c_o1_lines : Nat → Int32) : va_W := [(a_, .inr (1, [.ref a_lines])), (a_lines, .inl (E.2.1, 300, .inl c_lines)), (a_o1, .inr (1, [.ref a_o1_lines])), (a_o1_lines, .inl (E.2.1, 300, .inl c_o1_lines))]
def v_f_X0_copyFrom : List Cond := List.cons (.code yX0_copyFrom cX0_copyFrom 2 none) (HAppend.hAppend (α := List Cond) (β := List Cond) (γ := List Cond) [.fieldLink RX0 11 "HushWatch$Book" "lines" "[I", .methodLink RX0 22 arraycopyName, .native arraycopyName, .static arraycopyName, .initialized "java/lang/System"] (HAppend.hAppend (α := List Cond) (β := List Cond) (γ := List Cond) wsX00 []))
theorem gw_f_X0_copyFrom : v_f_X0_copyFrom.all goodWord = true := by decide +kernel
theorem i_f_X0_copyFrom_X0 : ∀ w ∈ wsX00, w ∈ v_f_X0_copyFrom := fun _ h => List.mem_cons_of_mem _ (List.mem_append_right _ (List.mem_append_left _ h))
theorem hd_X0_copyFrom : yX0_copyFrom.cls = RX0 ∧ yX0_copyFrom.cls ≠ "java/lang/invoke/MethodHandle" ∧ yX0_copyFrom.cls ≠ "java/lang/invoke/VarHandle" ∧ (parseMethodDescriptor yX0_copyFrom.desc).map (fun d => d.parameters.length) = some 1 := by decide +kernel
set_option maxHeartbeats 4000000 in
set_option maxRecDepth 100000 in
theorem f_X0_copyFrom (l : Launch) (E : EE) (sz : Nat) {a_ a_lines a_o1 a_o1_lines : Nat} {c_lines : Nat → Int32} {c_o1_lines : Nat → Int32} {n_lines : Nat → Int32} (hF : F_X0_copyFrom c_lines c_o1_lines = some n_lines) : Met l yX0_copyFrom v_f_X0_copyFrom (({ frames := 1, cells := 0, slots := 0, locals := 60 } : Room)) (va_Pc [.ref a_, .ref a_o1] (pW E sz (w_X0_copyFrom E a_ a_lines a_o1 a_o1_lines c_lines c_o1_lines))) (va_Qv (fun (_u : Unit) => True) (fun (_u : Unit) tt => va_P E.1 vwCl (w_X0_copyFrom E a_ a_lines a_o1 a_o1_lines n_lines c_o1_lines) tt.heap ∧ va_D (va_A (w_X0_copyFrom E a_ a_lines a_o1 a_o1_lines c_lines c_o1_lines) sz) (w_X0_copyFrom E a_ a_lines a_o1 a_o1_lines n_lines c_o1_lines)) (va_A (w_X0_copyFrom E a_ a_lines a_o1 a_o1_lines c_lines c_o1_lines) sz)) 0 0 (va_A (w_X0_copyFrom E a_ a_lines a_o1 a_o1_lines c_lines c_o1_lines) sz) := by
  refine Met.ofW (cc := cX0_copyFrom) (maxL := 2) (ret := none) (by decide) rfl ?_
  intro p e s m args below meth c s₁ B hml hv
  obtain ⟨rfl, hsz, ⟨hK, hN⟩, hP, hD0⟩ := hv
  have hx := B.exec
  have hb := B.bytes
  have hr := B.returns
  have hts := atoms_spec (ws := v_f_X0_copyFrom) B.pre
  have hown : s.vm.findClass RX0 = some m.cls := own_of hd_X0_copyFrom.1 (findClass_of_methodNamed B.named)
  have hlocks : meth.locks = false := B.notSynchronized
  subst hsz
  have hD := hD0.self (sz := s.heap.size)
  generalize hAe : va_A (w_X0_copyFrom E a_ a_lines a_o1 a_o1_lines c_lines c_o1_lines) s.heap.size = A at hD ⊢
  have hA : ∀ q : Nat, s.heap.size ≤ q → A q := fun q h => by rw [← hAe]; exact Or.inr h
  have hS : va_S A s.heap s.heap [] := va_S.rf
  have hl := lv_entry ([.ref a_, .ref a_o1]) (n := 2) (Nat.le_of_ble_eq_true rfl)
  rw [lg_entry_eq]
  generalize (lg_sl ([.ref a_, .ref a_o1]) ++ List.replicate (2 - (lg_sl ([.ref a_, .ref a_o1])).length) Slot.unset).toArray = ls at hl ⊢
  have hl : lv_has ls 2 [(0, .ref a_), (1, .ref a_o1)] := hl
  obtain ⟨Q, hQ⟩ : ∃ Q : State → Prop, Q = MQ below (va_Qv (fun (_u : Unit) => True) (fun (_u : Unit) tt => va_P E.1 vwCl (w_X0_copyFrom E a_ a_lines a_o1 a_o1_lines n_lines c_o1_lines) tt.heap ∧ va_D A (w_X0_copyFrom E a_ a_lines a_o1 a_o1_lines n_lines c_o1_lines)) A) #[Value.ref a_, Value.ref a_o1] s 0 0 A := ⟨_, rfl⟩
  rw [← hQ]
  change W p l e ({ frames := 1, cells := 0, slots := 0, locals := 60 } : Room) s m #[Value.ref a_, Value.ref a_o1] below meth c s.heap [] 0 0 Q (F0 m 0 ls [])
  suffices hh9 : ∀ (H : Heap) (locs : List Loc), va_P E.1 vwCl (w_X0_copyFrom E a_ a_lines a_o1 a_o1_lines c_lines c_o1_lines) H → va_D A (w_X0_copyFrom E a_ a_lines a_o1 a_o1_lines c_lines c_o1_lines) → va_S A s.heap H locs → W p l e ({ frames := 1, cells := 0, slots := 0, locals := 60 } : Room) s m #[Value.ref a_, Value.ref a_o1] below meth c H locs 0 0 Q (F0 m 0 ls []) from hh9 s.heap [] hP hD hS
  clear hP hD hS
  intro H locs hP hD hS
  replace hP : va_P E.1 vwCl [(a_, .inr (1, [.ref a_lines])), (a_lines, .inl (E.2.1, 300, .inl c_lines)), (a_o1, .inr (1, [.ref a_o1_lines])), (a_o1_lines, .inl (E.2.1, 300, .inl c_o1_lines))] H := hP
  replace hD : va_D A [(a_, .inr (1, [.ref a_lines])), (a_lines, .inl (E.2.1, 300, .inl c_lines)), (a_o1, .inr (1, [.ref a_o1_lines])), (a_o1_lines, .inl (E.2.1, 300, .inl c_o1_lines))] := hD
  unfold F_X0_copyFrom at hF
  refine lv_aload_n hx hb dX0_copyFrom_0 rfl (lv_at hl 1 rfl) ?_
  refine gt_X0_0 (v := .ref a_o1_lines) hx hb hts i_f_X0_copyFrom_X0 hown hK hP 2 rfl (hts (.fieldLink RX0 11 "HushWatch$Book" "lines" "[I") (List.mem_of_getElem? (i := 1) rfl)) rfl dX0_copyFrom_1 ?_
  refine lv_iconst (v := 0) hx hb dX0_copyFrom_4 (by decide) ?_
  refine lv_aload_n hx hb dX0_copyFrom_5 rfl (lv_at hl 0 rfl) ?_
  refine gt_X0_0 (v := .ref a_lines) hx hb hts i_f_X0_copyFrom_X0 hown hK hP 0 rfl (hts (.fieldLink RX0 11 "HushWatch$Book" "lines" "[I") (List.mem_of_getElem? (i := 1) rfl)) rfl dX0_copyFrom_6 ?_
  refine lv_iconst (v := 0) hx hb dX0_copyFrom_9 (by decide) ?_
  refine lv_sipush (v := 300) hx hb dX0_copyFrom_10 (by decide) ?_
  replace hF := cp_s hF
  obtain ⟨hy_1, hF⟩ := hF
  refine va_copyi hx hb (hml.trans hl.1.symm) hown (hts (.methodLink RX0 22 arraycopyName) (List.mem_of_getElem? (i := 2) rfl)) (hts (.native arraycopyName) (List.mem_of_getElem? (i := 3) rfl)) (hts (.static arraycopyName) (List.mem_of_getElem? (i := 4) rfl)) (hts (.initialized "java/lang/System") (List.mem_of_getElem? (i := 5) rfl)) hK hP hD hS 3 1 0 0 rfl rfl rfl rfl rfl hy_1.1 hy_1.2.1 hy_1.2.2.1 hy_1.2.2.2.1 hy_1.2.2.2.2 (fun _ _ => rfl) (Nat.le_of_ble_eq_true rfl) (Nat.le_of_ble_eq_true rfl) dX0_copyFrom_13 (fun H locs hP hD hS => ?_)
  replace hP : va_P E.1 vwCl [(a_, .inr (1, [.ref a_lines])), (a_lines, .inl (E.2.1, 300, .inl (va_cpy c_o1_lines c_lines (0 : Int32).toNatClampNeg (0 : Int32).toNatClampNeg (300 : Int32).toNatClampNeg))), (a_o1, .inr (1, [.ref a_o1_lines])), (a_o1_lines, .inl (E.2.1, 300, .inl c_o1_lines))] H := hP
  replace hD : va_D A [(a_, .inr (1, [.ref a_lines])), (a_lines, .inl (E.2.1, 300, .inl (va_cpy c_o1_lines c_lines (0 : Int32).toNatClampNeg (0 : Int32).toNatClampNeg (300 : Int32).toNatClampNeg))), (a_o1, .inr (1, [.ref a_o1_lines])), (a_o1_lines, .inl (E.2.1, 300, .inl c_o1_lines))] := hD
  replace hF := nm_s hF
  obtain ⟨f_2, hf_2, hF⟩ := hF
  rw [← hf_2] at hP hD
  rw [hQ]
  have h9 := fin9 (P := fun u9 : (Nat → Int32) => va_P E.1 vwCl (w_X0_copyFrom E a_ a_lines a_o1 a_o1_lines u9 c_o1_lines) H ∧ va_D A (w_X0_copyFrom E a_ a_lines a_o1 a_o1_lines u9 c_o1_lines)) hF ⟨hP, hD⟩
  obtain ⟨hP9, hD9⟩ := h9
  exact W.vret hx hb hr (fun tt ht hW => ⟨⟨(), rfl, trivial, ht ▸ hP9, hD9⟩, hS.F ht⟩) hS.2.2 dX0_copyFrom_16

def F_X0_read (p1 : Int32) (p2 : Int32) (c_lines : Nat → Int32) : Option (Int32) :=
  if p2 < (0 : Int32) then some (-100000000 : Int32) else if (3 : Int32) ≤ p2 then some (-100000000 : Int32) else bd1 (F_J9_floorMod_7cf53 p1 (100 : Int32)) (fun r_3 => ixF ((r_3 * (3 : Int32)) + p2) 300 (some (c_lines ((r_3 * (3 : Int32)) + p2).toNatClampNeg)))
abbrev w_X0_read (E : EE) (a_ a_lines : Nat) (c_lines : Nat → Int32) : va_W := [(a_, .inr (1, [.ref a_lines])), (a_lines, .inl (E.2.1, 300, .inl c_lines))]
def v_f_X0_read : List Cond := List.cons (.code yX0_read cX0_read 3 (some .int)) (HAppend.hAppend (α := List Cond) (β := List Cond) (γ := List Cond) [.constant RX0 21 (-100000000), .fieldLink RX0 11 "HushWatch$Book" "lines" "[I", .methodLink RX0 15 yJ9_floorMod_7cf53, .static yJ9_floorMod_7cf53, .initialized RJ9] (HAppend.hAppend (α := List Cond) (β := List Cond) (γ := List Cond) wsX00 (HAppend.hAppend (α := List Cond) (β := List Cond) (γ := List Cond) v_f_J9_floorMod_7cf53 [])))
theorem gw_f_X0_read : v_f_X0_read.all goodWord = true := by decide +kernel
theorem i_f_X0_read_X0 : ∀ w ∈ wsX00, w ∈ v_f_X0_read := fun _ h => List.mem_cons_of_mem _ (List.mem_append_right _ (List.mem_append_left _ h))
theorem g_f_X0_read_f_J9_floorMod_7cf53_15 : GoodIn v_f_X0_read (va_wsS RX0 15 yJ9_floorMod_7cf53 v_f_J9_floorMod_7cf53) := goodIn_app (goodIn_of _ (by decide +kernel)) (goodIn_sub (fun _ h => List.mem_cons_of_mem _ (List.mem_append_right _ (List.mem_append_right _ (List.mem_append_left _ h)))) gw_f_J9_floorMod_7cf53)
theorem hd_X0_read : yX0_read.cls = RX0 ∧ yX0_read.cls ≠ "java/lang/invoke/MethodHandle" ∧ yX0_read.cls ≠ "java/lang/invoke/VarHandle" ∧ (parseMethodDescriptor yX0_read.desc).map (fun d => d.parameters.length) = some 2 := by decide +kernel
set_option maxHeartbeats 4000000 in
set_option maxRecDepth 100000 in
theorem f_X0_read (l : Launch) (E : EE) {a_ a_lines : Nat} {p1 : Int32} {p2 : Int32} {c_lines : Nat → Int32} {rr : Int32} (hF : F_X0_read p1 p2 c_lines = some rr) : Met l yX0_read v_f_X0_read (({ frames := 1, cells := 0, slots := 0, locals := 22 } : Room)) (va_Pc [.ref a_, .int p1, .int p2] (pP E (w_X0_read E a_ a_lines c_lines))) (vp_Si (fun q : Int32 => q = rr)) 0 0 (fun _ => False) := by
  refine Met.ofW (cc := cX0_read) (maxL := 3) (ret := (some .int)) (by decide) rfl ?_
  intro p e s m args below meth c s₁ B hml hv
  obtain ⟨rfl, ⟨hK, hN⟩, hP⟩ := hv
  have hx := B.exec
  have hb := B.bytes
  have hr := B.returns
  have hts := atoms_spec (ws := v_f_X0_read) B.pre
  have hown : s.vm.findClass RX0 = some m.cls := own_of hd_X0_read.1 (findClass_of_methodNamed B.named)
  have hlocks : meth.locks = false := B.notSynchronized
  replace hP : va_P E.1 vwCl [(a_, .inr (1, [.ref a_lines])), (a_lines, .inl (E.2.1, 300, .inl c_lines))] s.heap := hP
  have hl := lv_entry ([.ref a_, .int p1, .int p2]) (n := 3) (Nat.le_of_ble_eq_true rfl)
  rw [lg_entry_eq]
  generalize (lg_sl ([.ref a_, .int p1, .int p2]) ++ List.replicate (3 - (lg_sl ([.ref a_, .int p1, .int p2])).length) Slot.unset).toArray = ls at hl ⊢
  have hl : lv_has ls 3 [(0, .ref a_), (1, .int p1), (2, .int p2)] := hl
  obtain ⟨Q, hQ⟩ : ∃ Q : State → Prop, Q = MQ below (vp_Si (fun q : Int32 => q = rr)) #[Value.ref a_, Value.int p1, Value.int p2] s 0 0 (fun _ => False) := ⟨_, rfl⟩
  rw [← hQ]
  change W p l e ({ frames := 1, cells := 0, slots := 0, locals := 22 } : Room) s m #[Value.ref a_, Value.int p1, Value.int p2] below meth c s.heap [] 0 0 Q (F0 m 0 ls [])
  unfold F_X0_read at hF
  refine lv_iload_n hx hb dX0_read_0 rfl (lv_at hl 2 rfl) ?_
  refine lv_if_lt (tgt := 27) hx hb dX0_read_1 (by decide) (fun c_1 => ?_) (fun c_1 => ?_)
  ·
    replace hF := ip c_1 hF
    refine lv_ldc (v := -100000000) hx hb hown (hts (.constant RX0 21 (-100000000)) (List.mem_of_getElem? (i := 1) rfl)) dX0_read_27 ?_
    rw [hQ]
    obtain e9_0 := inj1 hF
    exact W.iret (v := (-100000000 : Int32)) hx hb hr (fun tt ht hW => ⟨_, rfl, e9_0, ht⟩) (fun _ h => by cases h) dX0_read_29
  ·
    replace hF := inn c_1 hF
    refine lv_iload_n hx hb dX0_read_4 rfl (lv_at hl 2 rfl) ?_
    refine lv_iconst (v := 3) hx hb dX0_read_5 (by decide) ?_
    refine lv_icmp_ge (tgt := 27) hx hb dX0_read_6 (by decide) (fun c_2 => ?_) (fun c_2 => ?_)
    ·
      replace hF := ip c_2 hF
      refine lv_ldc (v := -100000000) hx hb hown (hts (.constant RX0 21 (-100000000)) (List.mem_of_getElem? (i := 1) rfl)) dX0_read_27 ?_
      rw [hQ]
      obtain e9_0 := inj1 hF
      exact W.iret (v := (-100000000 : Int32)) hx hb hr (fun tt ht hW => ⟨_, rfl, e9_0, ht⟩) (fun _ h => by cases h) dX0_read_29
    ·
      replace hF := inn c_2 hF
      refine lv_aload_n hx hb dX0_read_9 rfl (lv_at hl 0 rfl) ?_
      refine gt_X0_0 (v := .ref a_lines) hx hb hts i_f_X0_read_X0 hown hK hP 0 rfl (hts (.fieldLink RX0 11 "HushWatch$Book" "lines" "[I") (List.mem_of_getElem? (i := 2) rfl)) rfl dX0_read_10 ?_
      refine lv_iload_n hx hb dX0_read_13 rfl (lv_at hl 1 rfl) ?_
      refine lv_bipush (v := 100) hx hb dX0_read_14 (by decide) ?_
      replace hF := bd1_s hF
      obtain ⟨r_3, hc_4, hF⟩ := hF
      have hPc : va_P E.1 vwCl [] s.heap := fun k q h => by simp at h
      refine pE_i (va_runS (As := [.int p1, .int (100 : Int32)]) (rest := [.ref a_lines])  ⟨hx, hb, hml, hown, hts⟩ (f_J9_floorMod_7cf53 l E (p0 := p1) (p1 := (100 : Int32)) hc_4) (va_cwS 2 hts g_f_X0_read_f_J9_floorMod_7cf53_15 rfl rfl rfl hd_J9_floorMod_7cf53.2 ⟨Nat.le_of_ble_eq_true rfl, Nat.le_of_ble_eq_true rfl⟩) ⟨pP.blind, (pP.pre ⟨hK, hN⟩ hPc)⟩ rfl rfl hl.1 rfl (lv_room (Nat.le_of_ble_eq_true rfl)) dX0_read_16 ⟨Nat.le_of_ble_eq_true rfl, Nat.le_of_ble_eq_true rfl⟩) ?_
      refine lv_iconst (v := 3) hx hb dX0_read_19 (by decide) ?_
      refine lv_imul hx hb dX0_read_20 ?_
      refine lv_iload_n hx hb dX0_read_21 rfl (lv_at hl 2 rfl) ?_
      refine lv_iadd hx hb dX0_read_22 ?_
      replace hF := ix_s hF
      obtain ⟨hi_5, hF⟩ := hF
      refine va_iald hx hb hK hP 1 0 rfl rfl hi_5 dX0_read_23 ?_
      refine lv_goto (tgt := 29) hx hb dX0_read_24 (by decide) ?_
      rw [hQ]
      obtain e9_0 := inj1 hF
      exact W.iret (v := c_lines ((r_3 * (3 : Int32)) + p2).toNatClampNeg) hx hb hr (fun tt ht hW => ⟨_, rfl, e9_0, ht⟩) (fun _ h => by cases h) dX0_read_29

def F_X0_write (p1 : Int32) (p2 : Int32) (p3 : Int32) (p4 : Int32) (c_lines : Nat → Int32) : Option ((Nat → Int32)) :=
  bd1 (F_J9_floorMod_7cf53 p1 (100 : Int32)) (fun r_1 => ixF (r_1 * (3 : Int32)) 300 (nmF (upd c_lines (r_1 * (3 : Int32)).toNatClampNeg p2) (fun f_4 => ixF ((r_1 * (3 : Int32)) + (1 : Int32)) 300 (nmF (upd f_4 ((r_1 * (3 : Int32)) + (1 : Int32)).toNatClampNeg p3) (fun f_6 => ixF ((r_1 * (3 : Int32)) + (2 : Int32)) 300 (nmF (upd f_6 ((r_1 * (3 : Int32)) + (2 : Int32)).toNatClampNeg p4) (fun f_8 => some f_8)))))))
abbrev w_X0_write (E : EE) (a_ a_lines : Nat) (c_lines : Nat → Int32) : va_W := [(a_, .inr (1, [.ref a_lines])), (a_lines, .inl (E.2.1, 300, .inl c_lines))]
def v_f_X0_write : List Cond := List.cons (.code yX0_write cX0_write 6 none) (HAppend.hAppend (α := List Cond) (β := List Cond) (γ := List Cond) [.fieldLink RX0 11 "HushWatch$Book" "lines" "[I", .methodLink RX0 15 yJ9_floorMod_7cf53, .static yJ9_floorMod_7cf53, .initialized RJ9] (HAppend.hAppend (α := List Cond) (β := List Cond) (γ := List Cond) v_f_J9_floorMod_7cf53 (HAppend.hAppend (α := List Cond) (β := List Cond) (γ := List Cond) wsX00 [])))
theorem gw_f_X0_write : v_f_X0_write.all goodWord = true := by decide +kernel
theorem i_f_X0_write_X0 : ∀ w ∈ wsX00, w ∈ v_f_X0_write := fun _ h => List.mem_cons_of_mem _ (List.mem_append_right _ (List.mem_append_right _ (List.mem_append_left _ h)))
theorem g_f_X0_write_f_J9_floorMod_7cf53_15 : GoodIn v_f_X0_write (va_wsS RX0 15 yJ9_floorMod_7cf53 v_f_J9_floorMod_7cf53) := goodIn_app (goodIn_of _ (by decide +kernel)) (goodIn_sub (fun _ h => List.mem_cons_of_mem _ (List.mem_append_right _ (List.mem_append_left _ h))) gw_f_J9_floorMod_7cf53)
theorem hd_X0_write : yX0_write.cls = RX0 ∧ yX0_write.cls ≠ "java/lang/invoke/MethodHandle" ∧ yX0_write.cls ≠ "java/lang/invoke/VarHandle" ∧ (parseMethodDescriptor yX0_write.desc).map (fun d => d.parameters.length) = some 4 := by decide +kernel
set_option maxHeartbeats 4000000 in
set_option maxRecDepth 100000 in
theorem f_X0_write (l : Launch) (E : EE) (sz : Nat) {a_ a_lines : Nat} {p1 : Int32} {p2 : Int32} {p3 : Int32} {p4 : Int32} {c_lines : Nat → Int32} {n_lines : Nat → Int32} (hF : F_X0_write p1 p2 p3 p4 c_lines = some n_lines) : Met l yX0_write v_f_X0_write (({ frames := 1, cells := 0, slots := 0, locals := 22 } : Room)) (va_Pc [.ref a_, .int p1, .int p2, .int p3, .int p4] (pW E sz (w_X0_write E a_ a_lines c_lines))) (va_Qv (fun (_u : Unit) => True) (fun (_u : Unit) tt => va_P E.1 vwCl (w_X0_write E a_ a_lines n_lines) tt.heap ∧ va_D (va_A (w_X0_write E a_ a_lines c_lines) sz) (w_X0_write E a_ a_lines n_lines)) (va_A (w_X0_write E a_ a_lines c_lines) sz)) 0 0 (va_A (w_X0_write E a_ a_lines c_lines) sz) := by
  refine Met.ofW (cc := cX0_write) (maxL := 6) (ret := none) (by decide) rfl ?_
  intro p e s m args below meth c s₁ B hml hv
  obtain ⟨rfl, hsz, ⟨hK, hN⟩, hP, hD0⟩ := hv
  have hx := B.exec
  have hb := B.bytes
  have hr := B.returns
  have hts := atoms_spec (ws := v_f_X0_write) B.pre
  have hown : s.vm.findClass RX0 = some m.cls := own_of hd_X0_write.1 (findClass_of_methodNamed B.named)
  have hlocks : meth.locks = false := B.notSynchronized
  subst hsz
  have hD := hD0.self (sz := s.heap.size)
  generalize hAe : va_A (w_X0_write E a_ a_lines c_lines) s.heap.size = A at hD ⊢
  have hA : ∀ q : Nat, s.heap.size ≤ q → A q := fun q h => by rw [← hAe]; exact Or.inr h
  have hS : va_S A s.heap s.heap [] := va_S.rf
  have hl := lv_entry ([.ref a_, .int p1, .int p2, .int p3, .int p4]) (n := 6) (Nat.le_of_ble_eq_true rfl)
  rw [lg_entry_eq]
  generalize (lg_sl ([.ref a_, .int p1, .int p2, .int p3, .int p4]) ++ List.replicate (6 - (lg_sl ([.ref a_, .int p1, .int p2, .int p3, .int p4])).length) Slot.unset).toArray = ls at hl ⊢
  have hl : lv_has ls 6 [(0, .ref a_), (1, .int p1), (2, .int p2), (3, .int p3), (4, .int p4)] := hl
  obtain ⟨Q, hQ⟩ : ∃ Q : State → Prop, Q = MQ below (va_Qv (fun (_u : Unit) => True) (fun (_u : Unit) tt => va_P E.1 vwCl (w_X0_write E a_ a_lines n_lines) tt.heap ∧ va_D A (w_X0_write E a_ a_lines n_lines)) A) #[Value.ref a_, Value.int p1, Value.int p2, Value.int p3, Value.int p4] s 0 0 A := ⟨_, rfl⟩
  rw [← hQ]
  change W p l e ({ frames := 1, cells := 0, slots := 0, locals := 22 } : Room) s m #[Value.ref a_, Value.int p1, Value.int p2, Value.int p3, Value.int p4] below meth c s.heap [] 0 0 Q (F0 m 0 ls [])
  suffices hh9 : ∀ (H : Heap) (locs : List Loc), va_P E.1 vwCl (w_X0_write E a_ a_lines c_lines) H → va_D A (w_X0_write E a_ a_lines c_lines) → va_S A s.heap H locs → W p l e ({ frames := 1, cells := 0, slots := 0, locals := 22 } : Room) s m #[Value.ref a_, Value.int p1, Value.int p2, Value.int p3, Value.int p4] below meth c H locs 0 0 Q (F0 m 0 ls []) from hh9 s.heap [] hP hD hS
  clear hP hD hS
  intro H locs hP hD hS
  replace hP : va_P E.1 vwCl [(a_, .inr (1, [.ref a_lines])), (a_lines, .inl (E.2.1, 300, .inl c_lines))] H := hP
  replace hD : va_D A [(a_, .inr (1, [.ref a_lines])), (a_lines, .inl (E.2.1, 300, .inl c_lines))] := hD
  unfold F_X0_write at hF
  refine lv_iload_n hx hb dX0_write_0 rfl (lv_at hl 1 rfl) ?_
  refine lv_bipush (v := 100) hx hb dX0_write_1 (by decide) ?_
  replace hF := bd1_s hF
  obtain ⟨r_1, hc_2, hF⟩ := hF
  have hPc : va_P E.1 vwCl [] H := fun k q h => by simp at h
  refine pE_i (va_runS (As := [.int p1, .int (100 : Int32)]) (rest := [])  ⟨hx, hb, hml, hown, hts⟩ (f_J9_floorMod_7cf53 l E (p0 := p1) (p1 := (100 : Int32)) hc_2) (va_cwS 2 hts g_f_X0_write_f_J9_floorMod_7cf53_15 rfl rfl rfl hd_J9_floorMod_7cf53.2 ⟨Nat.le_of_ble_eq_true rfl, Nat.le_of_ble_eq_true rfl⟩) ⟨pP.blind, (pP.pre ⟨hK, hN⟩ hPc)⟩ rfl rfl hl.1 rfl (lv_room (Nat.le_of_ble_eq_true rfl)) dX0_write_3 ⟨Nat.le_of_ble_eq_true rfl, Nat.le_of_ble_eq_true rfl⟩) ?_
  refine lv_iconst (v := 3) hx hb dX0_write_6 (by decide) ?_
  refine lv_imul hx hb dX0_write_7 ?_
  refine lv_istore (lv' := [(5, .int (r_1 * (3 : Int32))), (0, .ref a_), (1, .int p1), (2, .int p2), (3, .int p3), (4, .int p4)]) hx hb dX0_write_8 hl (by decide) rfl (fun ls hl => ?_)
  refine lv_aload_n hx hb dX0_write_10 rfl (lv_at hl 1 rfl) ?_
  refine gt_X0_0 (v := .ref a_lines) hx hb hts i_f_X0_write_X0 hown hK hP 0 rfl (hts (.fieldLink RX0 11 "HushWatch$Book" "lines" "[I") (List.mem_of_getElem? (i := 1) rfl)) rfl dX0_write_11 ?_
  refine lv_iload hx hb dX0_write_14 (lv_at hl 0 rfl) ?_
  refine lv_iload_n hx hb dX0_write_16 rfl (lv_at hl 3 rfl) ?_
  replace hF := ix_s hF
  obtain ⟨hi_3, hF⟩ := hF
  refine va_iast hx hb hK hP hD hS 1 0 rfl rfl hi_3 dX0_write_17 (fun H locs hP hD hS => ?_)
  replace hP : va_P E.1 vwCl [(a_, .inr (1, [.ref a_lines])), (a_lines, .inl (E.2.1, 300, .inl (upd c_lines (r_1 * (3 : Int32)).toNatClampNeg p2)))] H := hP
  replace hD : va_D A [(a_, .inr (1, [.ref a_lines])), (a_lines, .inl (E.2.1, 300, .inl (upd c_lines (r_1 * (3 : Int32)).toNatClampNeg p2)))] := hD
  replace hF := nm_s hF
  obtain ⟨f_4, hf_4, hF⟩ := hF
  rw [← hf_4] at hP hD
  refine lv_aload_n hx hb dX0_write_18 rfl (lv_at hl 1 rfl) ?_
  refine gt_X0_0 (v := .ref a_lines) hx hb hts i_f_X0_write_X0 hown hK hP 0 rfl (hts (.fieldLink RX0 11 "HushWatch$Book" "lines" "[I") (List.mem_of_getElem? (i := 1) rfl)) rfl dX0_write_19 ?_
  refine lv_iload hx hb dX0_write_22 (lv_at hl 0 rfl) ?_
  refine lv_iconst (v := 1) hx hb dX0_write_24 (by decide) ?_
  refine lv_iadd hx hb dX0_write_25 ?_
  refine lv_iload_n hx hb dX0_write_26 rfl (lv_at hl 4 rfl) ?_
  replace hF := ix_s hF
  obtain ⟨hi_5, hF⟩ := hF
  refine va_iast hx hb hK hP hD hS 1 0 rfl rfl hi_5 dX0_write_27 (fun H locs hP hD hS => ?_)
  replace hP : va_P E.1 vwCl [(a_, .inr (1, [.ref a_lines])), (a_lines, .inl (E.2.1, 300, .inl (upd f_4 ((r_1 * (3 : Int32)) + (1 : Int32)).toNatClampNeg p3)))] H := hP
  replace hD : va_D A [(a_, .inr (1, [.ref a_lines])), (a_lines, .inl (E.2.1, 300, .inl (upd f_4 ((r_1 * (3 : Int32)) + (1 : Int32)).toNatClampNeg p3)))] := hD
  replace hF := nm_s hF
  obtain ⟨f_6, hf_6, hF⟩ := hF
  rw [← hf_6] at hP hD
  refine lv_aload_n hx hb dX0_write_28 rfl (lv_at hl 1 rfl) ?_
  refine gt_X0_0 (v := .ref a_lines) hx hb hts i_f_X0_write_X0 hown hK hP 0 rfl (hts (.fieldLink RX0 11 "HushWatch$Book" "lines" "[I") (List.mem_of_getElem? (i := 1) rfl)) rfl dX0_write_29 ?_
  refine lv_iload hx hb dX0_write_32 (lv_at hl 0 rfl) ?_
  refine lv_iconst (v := 2) hx hb dX0_write_34 (by decide) ?_
  refine lv_iadd hx hb dX0_write_35 ?_
  refine lv_iload hx hb dX0_write_36 (lv_at hl 5 rfl) ?_
  replace hF := ix_s hF
  obtain ⟨hi_7, hF⟩ := hF
  refine va_iast hx hb hK hP hD hS 1 0 rfl rfl hi_7 dX0_write_38 (fun H locs hP hD hS => ?_)
  replace hP : va_P E.1 vwCl [(a_, .inr (1, [.ref a_lines])), (a_lines, .inl (E.2.1, 300, .inl (upd f_6 ((r_1 * (3 : Int32)) + (2 : Int32)).toNatClampNeg p4)))] H := hP
  replace hD : va_D A [(a_, .inr (1, [.ref a_lines])), (a_lines, .inl (E.2.1, 300, .inl (upd f_6 ((r_1 * (3 : Int32)) + (2 : Int32)).toNatClampNeg p4)))] := hD
  replace hF := nm_s hF
  obtain ⟨f_8, hf_8, hF⟩ := hF
  rw [← hf_8] at hP hD
  rw [hQ]
  have h9 := fin9 (P := fun u9 : (Nat → Int32) => va_P E.1 vwCl (w_X0_write E a_ a_lines u9) H ∧ va_D A (w_X0_write E a_ a_lines u9)) hF ⟨hP, hD⟩
  obtain ⟨hP9, hD9⟩ := h9
  exact W.vret hx hb hr (fun tt ht hW => ⟨⟨(), rfl, trivial, ht ▸ hP9, hD9⟩, hS.F ht⟩) hS.2.2 dX0_write_39

def F_X1_next (p1 : Int32) (c_x : Int64) : Option (Int32 × Int64) :=
  if p1 ≤ (0 : Int32) then some ((0 : Int32), (c_x * (6364136223846793005 : Int64)) + (1442695040888963407 : Int64)) else nzL p1.toInt64 (some (((lushrF ((c_x * (6364136223846793005 : Int64)) + (1442695040888963407 : Int64)) (33 : Int32)) - (lushrF ((c_x * (6364136223846793005 : Int64)) + (1442695040888963407 : Int64)) (33 : Int32)) / p1.toInt64 * p1.toInt64).toInt32, (c_x * (6364136223846793005 : Int64)) + (1442695040888963407 : Int64)))
abbrev w_X1_next (E : EE) (a_ : Nat) (c_x : Int64) (c_sort : Int32) (c_a : Int32) (c_b : Int32) (c_c : Int32) : va_W := [(a_, .inr (2, [.long c_x, .int c_sort, .int c_a, .int c_b, .int c_c]))]
def v_f_X1_next : List Cond := List.cons (.code yX1_next cX1_next 2 (some .int)) (HAppend.hAppend (α := List Cond) (β := List Cond) (γ := List Cond) [.fieldLink RX1 9 "HushWatch$Draws" "x" "J", .constantLong RX1 32 (6364136223846793005), .constantLong RX1 34 (1442695040888963407)] (HAppend.hAppend (α := List Cond) (β := List Cond) (γ := List Cond) wsX10 []))
theorem gw_f_X1_next : v_f_X1_next.all goodWord = true := by decide +kernel
theorem i_f_X1_next_X1 : ∀ w ∈ wsX10, w ∈ v_f_X1_next := fun _ h => List.mem_cons_of_mem _ (List.mem_append_right _ (List.mem_append_left _ h))
theorem hd_X1_next : yX1_next.cls = RX1 ∧ yX1_next.cls ≠ "java/lang/invoke/MethodHandle" ∧ yX1_next.cls ≠ "java/lang/invoke/VarHandle" ∧ (parseMethodDescriptor yX1_next.desc).map (fun d => d.parameters.length) = some 1 := by decide +kernel
set_option maxHeartbeats 4000000 in
set_option maxRecDepth 100000 in
theorem f_X1_next (l : Launch) (E : EE) (sz : Nat) {a_ : Nat} {p1 : Int32} {c_x : Int64} {c_sort : Int32} {c_a : Int32} {c_b : Int32} {c_c : Int32} {rr : Int32} {n_x : Int64} (hF : F_X1_next p1 c_x = some (rr, n_x)) : Met l yX1_next v_f_X1_next (({ frames := 0, cells := 0, slots := 0, locals := 0 } : Room)) (va_Pc [.ref a_, .int p1] (pW E sz (w_X1_next E a_ c_x c_sort c_a c_b c_c))) (va_Qi (fun (q : Int32) (_u : Unit) => q = rr) (fun (_u : Unit) tt => va_P E.1 vwCl (w_X1_next E a_ n_x c_sort c_a c_b c_c) tt.heap ∧ va_D (va_A (w_X1_next E a_ c_x c_sort c_a c_b c_c) sz) (w_X1_next E a_ n_x c_sort c_a c_b c_c)) (va_A (w_X1_next E a_ c_x c_sort c_a c_b c_c) sz)) 0 0 (va_A (w_X1_next E a_ c_x c_sort c_a c_b c_c) sz) := by
  refine Met.ofW (cc := cX1_next) (maxL := 2) (ret := (some .int)) (by decide) rfl ?_
  intro p e s m args below meth c s₁ B hml hv
  obtain ⟨rfl, hsz, ⟨hK, hN⟩, hP, hD0⟩ := hv
  have hx := B.exec
  have hb := B.bytes
  have hr := B.returns
  have hts := atoms_spec (ws := v_f_X1_next) B.pre
  have hown : s.vm.findClass RX1 = some m.cls := own_of hd_X1_next.1 (findClass_of_methodNamed B.named)
  have hlocks : meth.locks = false := B.notSynchronized
  subst hsz
  have hD := hD0.self (sz := s.heap.size)
  generalize hAe : va_A (w_X1_next E a_ c_x c_sort c_a c_b c_c) s.heap.size = A at hD ⊢
  have hA : ∀ q : Nat, s.heap.size ≤ q → A q := fun q h => by rw [← hAe]; exact Or.inr h
  have hS : va_S A s.heap s.heap [] := va_S.rf
  have hl := lv_entry ([.ref a_, .int p1]) (n := 2) (Nat.le_of_ble_eq_true rfl)
  rw [lg_entry_eq]
  generalize (lg_sl ([.ref a_, .int p1]) ++ List.replicate (2 - (lg_sl ([.ref a_, .int p1])).length) Slot.unset).toArray = ls at hl ⊢
  have hl : lv_has ls 2 [(0, .ref a_), (1, .int p1)] := hl
  obtain ⟨Q, hQ⟩ : ∃ Q : State → Prop, Q = MQ below (va_Qi (fun (q : Int32) (_u : Unit) => q = rr) (fun (_u : Unit) tt => va_P E.1 vwCl (w_X1_next E a_ n_x c_sort c_a c_b c_c) tt.heap ∧ va_D A (w_X1_next E a_ n_x c_sort c_a c_b c_c)) A) #[Value.ref a_, Value.int p1] s 0 0 A := ⟨_, rfl⟩
  rw [← hQ]
  change W p l e ({ frames := 0, cells := 0, slots := 0, locals := 0 } : Room) s m #[Value.ref a_, Value.int p1] below meth c s.heap [] 0 0 Q (F0 m 0 ls [])
  suffices hh9 : ∀ (H : Heap) (locs : List Loc), va_P E.1 vwCl (w_X1_next E a_ c_x c_sort c_a c_b c_c) H → va_D A (w_X1_next E a_ c_x c_sort c_a c_b c_c) → va_S A s.heap H locs → W p l e ({ frames := 0, cells := 0, slots := 0, locals := 0 } : Room) s m #[Value.ref a_, Value.int p1] below meth c H locs 0 0 Q (F0 m 0 ls []) from hh9 s.heap [] hP hD hS
  clear hP hD hS
  intro H locs hP hD hS
  replace hP : va_P E.1 vwCl [(a_, .inr (2, [.long c_x, .int c_sort, .int c_a, .int c_b, .int c_c]))] H := hP
  replace hD : va_D A [(a_, .inr (2, [.long c_x, .int c_sort, .int c_a, .int c_b, .int c_c]))] := hD
  unfold F_X1_next at hF
  refine lv_aload_n hx hb dX1_next_0 rfl (lv_at hl 0 rfl) ?_
  refine lv_aload_n hx hb dX1_next_1 rfl (lv_at hl 0 rfl) ?_
  refine gt_X1_0 (v := .long c_x) hx hb hts i_f_X1_next_X1 hown hK hP 0 rfl (hts (.fieldLink RX1 9 "HushWatch$Draws" "x" "J") (List.mem_of_getElem? (i := 1) rfl)) rfl dX1_next_2 ?_
  refine lv_ldc2 (v := 6364136223846793005) hx hb hown (hts (.constantLong RX1 32 (6364136223846793005)) (List.mem_of_getElem? (i := 2) rfl)) dX1_next_5 ?_
  refine lv_lmul hx hb dX1_next_8 ?_
  refine lv_ldc2 (v := 1442695040888963407) hx hb hown (hts (.constantLong RX1 34 (1442695040888963407)) (List.mem_of_getElem? (i := 3) rfl)) dX1_next_9 ?_
  refine lv_ladd hx hb dX1_next_12 ?_
  refine pt_X1_0 (v := .long ((c_x * (6364136223846793005 : Int64)) + (1442695040888963407 : Int64))) hx hb hts i_f_X1_next_X1 hown hK hP hD hS 0 rfl (hts (.fieldLink RX1 9 "HushWatch$Draws" "x" "J") (List.mem_of_getElem? (i := 1) rfl)) rfl rfl (Nat.le_of_ble_eq_true rfl) dX1_next_13 (fun H locs hP hD hS => ?_)
  replace hP : va_P E.1 vwCl [(a_, .inr (2, [.long ((c_x * (6364136223846793005 : Int64)) + (1442695040888963407 : Int64)), .int c_sort, .int c_a, .int c_b, .int c_c]))] H := hP
  replace hD : va_D A [(a_, .inr (2, [.long ((c_x * (6364136223846793005 : Int64)) + (1442695040888963407 : Int64)), .int c_sort, .int c_a, .int c_b, .int c_c]))] := hD
  refine lv_iload_n hx hb dX1_next_16 rfl (lv_at hl 1 rfl) ?_
  refine lv_if_le (tgt := 34) hx hb dX1_next_17 (by decide) (fun c_1 => ?_) (fun c_1 => ?_)
  ·
    replace hF := ip c_1 hF
    refine lv_iconst (v := 0) hx hb dX1_next_34 (by decide) ?_
    rw [hQ]
    have h9 := fin9 (P := fun u9 : Int32 × Int64 => (0 : Int32) = u9.1 ∧ va_P E.1 vwCl (w_X1_next E a_ u9.2 c_sort c_a c_b c_c) H ∧ va_D A (w_X1_next E a_ u9.2 c_sort c_a c_b c_c)) hF ⟨rfl, hP, hD⟩
    obtain ⟨e9_0, hP9, hD9⟩ := h9
    exact W.iret (v := (0 : Int32)) hx hb hr (fun tt ht hW => ⟨⟨_, (), rfl, e9_0, ht ▸ hP9, hD9⟩, hS.F ht⟩) hS.2.2 dX1_next_35
  ·
    replace hF := inn c_1 hF
    refine lv_aload_n hx hb dX1_next_20 rfl (lv_at hl 0 rfl) ?_
    refine gt_X1_0 (v := .long ((c_x * (6364136223846793005 : Int64)) + (1442695040888963407 : Int64))) hx hb hts i_f_X1_next_X1 hown hK hP 0 rfl (hts (.fieldLink RX1 9 "HushWatch$Draws" "x" "J") (List.mem_of_getElem? (i := 1) rfl)) rfl dX1_next_21 ?_
    refine lv_bipush (v := 33) hx hb dX1_next_24 (by decide) ?_
    refine lv_lushr (v := (lushrF ((c_x * (6364136223846793005 : Int64)) + (1442695040888963407 : Int64)) (33 : Int32))) hx hb dX1_next_26 rfl ?_
    refine lv_iload_n hx hb dX1_next_27 rfl (lv_at hl 1 rfl) ?_
    refine lv_i2l (v := p1.toInt64) hx hb dX1_next_28 rfl ?_
    replace hF := nzL_s hF
    obtain ⟨hz_2, hF⟩ := hF
    refine lv_lrem hx hb dX1_next_29 (hz_2) ?_
    refine lv_l2i (v := ((lushrF ((c_x * (6364136223846793005 : Int64)) + (1442695040888963407 : Int64)) (33 : Int32)) - (lushrF ((c_x * (6364136223846793005 : Int64)) + (1442695040888963407 : Int64)) (33 : Int32)) / p1.toInt64 * p1.toInt64).toInt32) hx hb dX1_next_30 rfl ?_
    refine lv_goto (tgt := 35) hx hb dX1_next_31 (by decide) ?_
    rw [hQ]
    have h9 := fin9 (P := fun u9 : Int32 × Int64 => (((lushrF ((c_x * (6364136223846793005 : Int64)) + (1442695040888963407 : Int64)) (33 : Int32)) - (lushrF ((c_x * (6364136223846793005 : Int64)) + (1442695040888963407 : Int64)) (33 : Int32)) / p1.toInt64 * p1.toInt64).toInt32) = u9.1 ∧ va_P E.1 vwCl (w_X1_next E a_ u9.2 c_sort c_a c_b c_c) H ∧ va_D A (w_X1_next E a_ u9.2 c_sort c_a c_b c_c)) hF ⟨rfl, hP, hD⟩
    obtain ⟨e9_0, hP9, hD9⟩ := h9
    exact W.iret (v := ((lushrF ((c_x * (6364136223846793005 : Int64)) + (1442695040888963407 : Int64)) (33 : Int32)) - (lushrF ((c_x * (6364136223846793005 : Int64)) + (1442695040888963407 : Int64)) (33 : Int32)) / p1.toInt64 * p1.toInt64).toInt32) hx hb hr (fun tt ht hW => ⟨⟨_, (), rfl, e9_0, ht ▸ hP9, hD9⟩, hS.F ht⟩) hS.2.2 dX1_next_35

def F_X1_pickAct (p1 : Int32) (c_x : Int64) (c_sort : Int32) (c_a : Int32) (c_b : Int32) (c_c : Int32) : Option (Int64 × Int32 × Int32 × Int32 × Int32) :=
  bd2 (F_X1_next (8 : Int32) c_x) (fun r_1 w_2 => if r_1 = (7 : Int32) then some (w_2, (1 : Int32), (-1 : Int32), c_b, c_c) else bd2 (F_X1_next p1 w_2) (fun r_5 w_6 => if r_1 = (6 : Int32) then bd2 (F_X1_next (9 : Int32) w_6) (fun r_15 w_16 => some (w_16, (4 : Int32), r_5, r_15 + (1 : Int32), c_c)) else bd2 (F_X1_next (21 : Int32) w_6) (fun r_9 w_10 => bd2 (F_X1_next (21 : Int32) w_10) (fun r_12 w_13 => some (w_13, (0 : Int32), r_5, r_9 - (10 : Int32), r_12 - (10 : Int32))))))
abbrev w_X1_pickAct (E : EE) (a_ : Nat) (c_x : Int64) (c_sort : Int32) (c_a : Int32) (c_b : Int32) (c_c : Int32) : va_W := [(a_, .inr (2, [.long c_x, .int c_sort, .int c_a, .int c_b, .int c_c]))]
def v_f_X1_pickAct : List Cond := List.cons (.code yX1_pickAct cX1_pickAct 3 none) (HAppend.hAppend (α := List Cond) (β := List Cond) (γ := List Cond) [.fieldLink RX1 19 "HushWatch$Draws" "a" "I", .fieldLink RX1 15 "HushWatch$Draws" "sort" "I", .fieldLink RX1 22 "HushWatch$Draws" "b" "I", .fieldLink RX1 25 "HushWatch$Draws" "c" "I", .methodLink RX1 28 yX1_next, .instanceMethod yX1_next, .selects RX1 yX1_next yX1_next, .initialized RX1] (HAppend.hAppend (α := List Cond) (β := List Cond) (γ := List Cond) v_f_X1_next (HAppend.hAppend (α := List Cond) (β := List Cond) (γ := List Cond) wsX10 [])))
theorem gw_f_X1_pickAct : v_f_X1_pickAct.all goodWord = true := by decide +kernel
theorem i_f_X1_pickAct_X1 : ∀ w ∈ wsX10, w ∈ v_f_X1_pickAct := fun _ h => List.mem_cons_of_mem _ (List.mem_append_right _ (List.mem_append_right _ (List.mem_append_left _ h)))
theorem g_f_X1_pickAct_f_X1_next_28 : GoodIn v_f_X1_pickAct (wsV RX1 28 RX1 yX1_next v_f_X1_next) := goodIn_app (goodIn_of _ (by decide +kernel)) (goodIn_sub (fun _ h => List.mem_cons_of_mem _ (List.mem_append_right _ (List.mem_append_left _ h))) gw_f_X1_next)
theorem hd_X1_pickAct : yX1_pickAct.cls = RX1 ∧ yX1_pickAct.cls ≠ "java/lang/invoke/MethodHandle" ∧ yX1_pickAct.cls ≠ "java/lang/invoke/VarHandle" ∧ (parseMethodDescriptor yX1_pickAct.desc).map (fun d => d.parameters.length) = some 1 := by decide +kernel
set_option maxHeartbeats 4000000 in
set_option maxRecDepth 100000 in
theorem f_X1_pickAct (l : Launch) (E : EE) (sz : Nat) {a_ : Nat} {p1 : Int32} {c_x : Int64} {c_sort : Int32} {c_a : Int32} {c_b : Int32} {c_c : Int32} {n_x : Int64} {n_sort : Int32} {n_a : Int32} {n_b : Int32} {n_c : Int32} (hF : F_X1_pickAct p1 c_x c_sort c_a c_b c_c = some (n_x, n_sort, n_a, n_b, n_c)) : Met l yX1_pickAct v_f_X1_pickAct (({ frames := 1, cells := 0, slots := 0, locals := 21 } : Room)) (va_Pc [.ref a_, .int p1] (pW E sz (w_X1_pickAct E a_ c_x c_sort c_a c_b c_c))) (va_Qv (fun (_u : Unit) => True) (fun (_u : Unit) tt => va_P E.1 vwCl (w_X1_pickAct E a_ n_x n_sort n_a n_b n_c) tt.heap ∧ va_D (va_A (w_X1_pickAct E a_ c_x c_sort c_a c_b c_c) sz) (w_X1_pickAct E a_ n_x n_sort n_a n_b n_c)) (va_A (w_X1_pickAct E a_ c_x c_sort c_a c_b c_c) sz)) 0 0 (va_A (w_X1_pickAct E a_ c_x c_sort c_a c_b c_c) sz) := by
  refine Met.ofW (cc := cX1_pickAct) (maxL := 3) (ret := none) (by decide) rfl ?_
  intro p e s m args below meth c s₁ B hml hv
  obtain ⟨rfl, hsz, ⟨hK, hN⟩, hP, hD0⟩ := hv
  have hx := B.exec
  have hb := B.bytes
  have hr := B.returns
  have hts := atoms_spec (ws := v_f_X1_pickAct) B.pre
  have hown : s.vm.findClass RX1 = some m.cls := own_of hd_X1_pickAct.1 (findClass_of_methodNamed B.named)
  have hlocks : meth.locks = false := B.notSynchronized
  subst hsz
  have hD := hD0.self (sz := s.heap.size)
  generalize hAe : va_A (w_X1_pickAct E a_ c_x c_sort c_a c_b c_c) s.heap.size = A at hD ⊢
  have hA : ∀ q : Nat, s.heap.size ≤ q → A q := fun q h => by rw [← hAe]; exact Or.inr h
  have hS : va_S A s.heap s.heap [] := va_S.rf
  have hl := lv_entry ([.ref a_, .int p1]) (n := 3) (Nat.le_of_ble_eq_true rfl)
  rw [lg_entry_eq]
  generalize (lg_sl ([.ref a_, .int p1]) ++ List.replicate (3 - (lg_sl ([.ref a_, .int p1])).length) Slot.unset).toArray = ls at hl ⊢
  have hl : lv_has ls 3 [(0, .ref a_), (1, .int p1)] := hl
  obtain ⟨Q, hQ⟩ : ∃ Q : State → Prop, Q = MQ below (va_Qv (fun (_u : Unit) => True) (fun (_u : Unit) tt => va_P E.1 vwCl (w_X1_pickAct E a_ n_x n_sort n_a n_b n_c) tt.heap ∧ va_D A (w_X1_pickAct E a_ n_x n_sort n_a n_b n_c)) A) #[Value.ref a_, Value.int p1] s 0 0 A := ⟨_, rfl⟩
  rw [← hQ]
  change W p l e ({ frames := 1, cells := 0, slots := 0, locals := 21 } : Room) s m #[Value.ref a_, Value.int p1] below meth c s.heap [] 0 0 Q (F0 m 0 ls [])
  suffices hh9 : ∀ (H : Heap) (locs : List Loc), va_P E.1 vwCl (w_X1_pickAct E a_ c_x c_sort c_a c_b c_c) H → va_D A (w_X1_pickAct E a_ c_x c_sort c_a c_b c_c) → va_S A s.heap H locs → W p l e ({ frames := 1, cells := 0, slots := 0, locals := 21 } : Room) s m #[Value.ref a_, Value.int p1] below meth c H locs 0 0 Q (F0 m 0 ls []) from hh9 s.heap [] hP hD hS
  clear hP hD hS
  intro H locs hP hD hS
  replace hP : va_P E.1 vwCl [(a_, .inr (2, [.long c_x, .int c_sort, .int c_a, .int c_b, .int c_c]))] H := hP
  replace hD : va_D A [(a_, .inr (2, [.long c_x, .int c_sort, .int c_a, .int c_b, .int c_c]))] := hD
  unfold F_X1_pickAct at hF
  refine lv_aload_n hx hb dX1_pickAct_0 rfl (lv_at hl 0 rfl) ?_
  refine lv_bipush (v := 8) hx hb dX1_pickAct_1 (by decide) ?_
  replace hF := bd2_s hF
  obtain ⟨r_1, w_2, hc_3, hF⟩ := hF
  obtain ⟨hPc, hDc, hFc⟩ := wcut (wc := (w_X1_next E a_ c_x c_sort c_a c_b c_c)) hP hD hS hA [0] (by decide) rfl
  have hrc := va_recv hK hPc (ci := 2) (q0 := 0) rfl rfl
  refine cE_i (wc := (w_X1_next E a_ c_x c_sort c_a c_b c_c)) (wr := []) (w1 := (w_X1_next E a_ w_2 c_sort c_a c_b c_c)) (va_runV (As := [.int (8 : Int32)]) (rest := [])  ⟨hx, hb, hml, hown, hts⟩ (f_X1_next l E H.size (a_ := a_) (p1 := (8 : Int32)) (c_x := c_x) (c_sort := c_sort) (c_a := c_a) (c_b := c_b) (c_c := c_c) hc_3) (cwV 1 hts g_f_X1_pickAct_f_X1_next_28 rfl rfl rfl hd_X1_next ⟨Nat.le_of_ble_eq_true rfl, Nat.le_of_ble_eq_true rfl⟩) ⟨pW.blind, hrc, (pW.pre ⟨hK, hN⟩ hPc hDc)⟩ rfl rfl hl.1 rfl (lv_room (Nat.le_of_ble_eq_true rfl)) dX1_pickAct_3 ⟨Nat.le_of_ble_eq_true rfl, Nat.le_of_ble_eq_true rfl⟩) hS hFc hP hD [0] [] rfl rfl (by decide) (by decide) (fun H locs hP hD hS => ?_)
  replace hP : va_P E.1 vwCl [(a_, .inr (2, [.long w_2, .int c_sort, .int c_a, .int c_b, .int c_c]))] H := hP
  replace hD : va_D A [(a_, .inr (2, [.long w_2, .int c_sort, .int c_a, .int c_b, .int c_c]))] := hD
  refine lv_istore_n (lv' := [(2, .int r_1), (0, .ref a_), (1, .int p1)]) hx hb dX1_pickAct_6 rfl hl (by decide) rfl (fun ls hl => ?_)
  refine lv_iload_n hx hb dX1_pickAct_7 rfl (lv_at hl 0 rfl) ?_
  refine lv_bipush (v := 7) hx hb dX1_pickAct_8 (by decide) ?_
  refine lv_icmp_ne (tgt := 24) hx hb dX1_pickAct_10 (by decide) (fun c_4 => ?_) (fun c_4 => ?_)
  ·
    replace hF := inn c_4 hF
    refine lv_aload_n hx hb dX1_pickAct_24 rfl (lv_at hl 1 rfl) ?_
    refine lv_aload_n hx hb dX1_pickAct_25 rfl (lv_at hl 1 rfl) ?_
    refine lv_iload_n hx hb dX1_pickAct_26 rfl (lv_at hl 2 rfl) ?_
    replace hF := bd2_s hF
    obtain ⟨r_5, w_6, hc_7, hF⟩ := hF
    obtain ⟨hPc, hDc, hFc⟩ := wcut (wc := (w_X1_next E a_ w_2 c_sort c_a c_b c_c)) hP hD hS hA [0] (by decide) rfl
    have hrc := va_recv hK hPc (ci := 2) (q0 := 0) rfl rfl
    refine cE_i (wc := (w_X1_next E a_ w_2 c_sort c_a c_b c_c)) (wr := []) (w1 := (w_X1_next E a_ w_6 c_sort c_a c_b c_c)) (va_runV (As := [.int p1]) (rest := [.ref a_])  ⟨hx, hb, hml, hown, hts⟩ (f_X1_next l E H.size (a_ := a_) (p1 := p1) (c_x := w_2) (c_sort := c_sort) (c_a := c_a) (c_b := c_b) (c_c := c_c) hc_7) (cwV 1 hts g_f_X1_pickAct_f_X1_next_28 rfl rfl rfl hd_X1_next ⟨Nat.le_of_ble_eq_true rfl, Nat.le_of_ble_eq_true rfl⟩) ⟨pW.blind, hrc, (pW.pre ⟨hK, hN⟩ hPc hDc)⟩ rfl rfl hl.1 rfl (lv_room (Nat.le_of_ble_eq_true rfl)) dX1_pickAct_27 ⟨Nat.le_of_ble_eq_true rfl, Nat.le_of_ble_eq_true rfl⟩) hS hFc hP hD [0] [] rfl rfl (by decide) (by decide) (fun H locs hP hD hS => ?_)
    replace hP : va_P E.1 vwCl [(a_, .inr (2, [.long w_6, .int c_sort, .int c_a, .int c_b, .int c_c]))] H := hP
    replace hD : va_D A [(a_, .inr (2, [.long w_6, .int c_sort, .int c_a, .int c_b, .int c_c]))] := hD
    refine pt_X1_2 (v := .int r_5) hx hb hts i_f_X1_pickAct_X1 hown hK hP hD hS 0 rfl (hts (.fieldLink RX1 19 "HushWatch$Draws" "a" "I") (List.mem_of_getElem? (i := 1) rfl)) rfl rfl (Nat.le_of_ble_eq_true rfl) dX1_pickAct_30 (fun H locs hP hD hS => ?_)
    replace hP : va_P E.1 vwCl [(a_, .inr (2, [.long w_6, .int c_sort, .int r_5, .int c_b, .int c_c]))] H := hP
    replace hD : va_D A [(a_, .inr (2, [.long w_6, .int c_sort, .int r_5, .int c_b, .int c_c]))] := hD
    refine lv_iload_n hx hb dX1_pickAct_33 rfl (lv_at hl 0 rfl) ?_
    refine lv_bipush (v := 6) hx hb dX1_pickAct_34 (by decide) ?_
    refine lv_icmp_ne (tgt := 57) hx hb dX1_pickAct_36 (by decide) (fun c_8 => ?_) (fun c_8 => ?_)
    ·
      replace hF := inn c_8 hF
      refine lv_aload_n hx hb dX1_pickAct_57 rfl (lv_at hl 1 rfl) ?_
      refine lv_iconst (v := 0) hx hb dX1_pickAct_58 (by decide) ?_
      refine pt_X1_1 (v := .int (0 : Int32)) hx hb hts i_f_X1_pickAct_X1 hown hK hP hD hS 0 rfl (hts (.fieldLink RX1 15 "HushWatch$Draws" "sort" "I") (List.mem_of_getElem? (i := 2) rfl)) rfl rfl (Nat.le_of_ble_eq_true rfl) dX1_pickAct_59 (fun H locs hP hD hS => ?_)
      replace hP : va_P E.1 vwCl [(a_, .inr (2, [.long w_6, .int (0 : Int32), .int r_5, .int c_b, .int c_c]))] H := hP
      replace hD : va_D A [(a_, .inr (2, [.long w_6, .int (0 : Int32), .int r_5, .int c_b, .int c_c]))] := hD
      refine lv_aload_n hx hb dX1_pickAct_62 rfl (lv_at hl 1 rfl) ?_
      refine lv_aload_n hx hb dX1_pickAct_63 rfl (lv_at hl 1 rfl) ?_
      refine lv_bipush (v := 21) hx hb dX1_pickAct_64 (by decide) ?_
      replace hF := bd2_s hF
      obtain ⟨r_9, w_10, hc_11, hF⟩ := hF
      obtain ⟨hPc, hDc, hFc⟩ := wcut (wc := (w_X1_next E a_ w_6 (0 : Int32) r_5 c_b c_c)) hP hD hS hA [0] (by decide) rfl
      have hrc := va_recv hK hPc (ci := 2) (q0 := 0) rfl rfl
      refine cE_i (wc := (w_X1_next E a_ w_6 (0 : Int32) r_5 c_b c_c)) (wr := []) (w1 := (w_X1_next E a_ w_10 (0 : Int32) r_5 c_b c_c)) (va_runV (As := [.int (21 : Int32)]) (rest := [.ref a_])  ⟨hx, hb, hml, hown, hts⟩ (f_X1_next l E H.size (a_ := a_) (p1 := (21 : Int32)) (c_x := w_6) (c_sort := (0 : Int32)) (c_a := r_5) (c_b := c_b) (c_c := c_c) hc_11) (cwV 1 hts g_f_X1_pickAct_f_X1_next_28 rfl rfl rfl hd_X1_next ⟨Nat.le_of_ble_eq_true rfl, Nat.le_of_ble_eq_true rfl⟩) ⟨pW.blind, hrc, (pW.pre ⟨hK, hN⟩ hPc hDc)⟩ rfl rfl hl.1 rfl (lv_room (Nat.le_of_ble_eq_true rfl)) dX1_pickAct_66 ⟨Nat.le_of_ble_eq_true rfl, Nat.le_of_ble_eq_true rfl⟩) hS hFc hP hD [0] [] rfl rfl (by decide) (by decide) (fun H locs hP hD hS => ?_)
      replace hP : va_P E.1 vwCl [(a_, .inr (2, [.long w_10, .int (0 : Int32), .int r_5, .int c_b, .int c_c]))] H := hP
      replace hD : va_D A [(a_, .inr (2, [.long w_10, .int (0 : Int32), .int r_5, .int c_b, .int c_c]))] := hD
      refine lv_bipush (v := 10) hx hb dX1_pickAct_69 (by decide) ?_
      refine lv_isub hx hb dX1_pickAct_71 ?_
      refine pt_X1_3 (v := .int (r_9 - (10 : Int32))) hx hb hts i_f_X1_pickAct_X1 hown hK hP hD hS 0 rfl (hts (.fieldLink RX1 22 "HushWatch$Draws" "b" "I") (List.mem_of_getElem? (i := 3) rfl)) rfl rfl (Nat.le_of_ble_eq_true rfl) dX1_pickAct_72 (fun H locs hP hD hS => ?_)
      replace hP : va_P E.1 vwCl [(a_, .inr (2, [.long w_10, .int (0 : Int32), .int r_5, .int (r_9 - (10 : Int32)), .int c_c]))] H := hP
      replace hD : va_D A [(a_, .inr (2, [.long w_10, .int (0 : Int32), .int r_5, .int (r_9 - (10 : Int32)), .int c_c]))] := hD
      refine lv_aload_n hx hb dX1_pickAct_75 rfl (lv_at hl 1 rfl) ?_
      refine lv_aload_n hx hb dX1_pickAct_76 rfl (lv_at hl 1 rfl) ?_
      refine lv_bipush (v := 21) hx hb dX1_pickAct_77 (by decide) ?_
      replace hF := bd2_s hF
      obtain ⟨r_12, w_13, hc_14, hF⟩ := hF
      obtain ⟨hPc, hDc, hFc⟩ := wcut (wc := (w_X1_next E a_ w_10 (0 : Int32) r_5 (r_9 - (10 : Int32)) c_c)) hP hD hS hA [0] (by decide) rfl
      have hrc := va_recv hK hPc (ci := 2) (q0 := 0) rfl rfl
      refine cE_i (wc := (w_X1_next E a_ w_10 (0 : Int32) r_5 (r_9 - (10 : Int32)) c_c)) (wr := []) (w1 := (w_X1_next E a_ w_13 (0 : Int32) r_5 (r_9 - (10 : Int32)) c_c)) (va_runV (As := [.int (21 : Int32)]) (rest := [.ref a_])  ⟨hx, hb, hml, hown, hts⟩ (f_X1_next l E H.size (a_ := a_) (p1 := (21 : Int32)) (c_x := w_10) (c_sort := (0 : Int32)) (c_a := r_5) (c_b := r_9 - (10 : Int32)) (c_c := c_c) hc_14) (cwV 1 hts g_f_X1_pickAct_f_X1_next_28 rfl rfl rfl hd_X1_next ⟨Nat.le_of_ble_eq_true rfl, Nat.le_of_ble_eq_true rfl⟩) ⟨pW.blind, hrc, (pW.pre ⟨hK, hN⟩ hPc hDc)⟩ rfl rfl hl.1 rfl (lv_room (Nat.le_of_ble_eq_true rfl)) dX1_pickAct_79 ⟨Nat.le_of_ble_eq_true rfl, Nat.le_of_ble_eq_true rfl⟩) hS hFc hP hD [0] [] rfl rfl (by decide) (by decide) (fun H locs hP hD hS => ?_)
      replace hP : va_P E.1 vwCl [(a_, .inr (2, [.long w_13, .int (0 : Int32), .int r_5, .int (r_9 - (10 : Int32)), .int c_c]))] H := hP
      replace hD : va_D A [(a_, .inr (2, [.long w_13, .int (0 : Int32), .int r_5, .int (r_9 - (10 : Int32)), .int c_c]))] := hD
      refine lv_bipush (v := 10) hx hb dX1_pickAct_82 (by decide) ?_
      refine lv_isub hx hb dX1_pickAct_84 ?_
      refine pt_X1_4 (v := .int (r_12 - (10 : Int32))) hx hb hts i_f_X1_pickAct_X1 hown hK hP hD hS 0 rfl (hts (.fieldLink RX1 25 "HushWatch$Draws" "c" "I") (List.mem_of_getElem? (i := 4) rfl)) rfl rfl (Nat.le_of_ble_eq_true rfl) dX1_pickAct_85 (fun H locs hP hD hS => ?_)
      replace hP : va_P E.1 vwCl [(a_, .inr (2, [.long w_13, .int (0 : Int32), .int r_5, .int (r_9 - (10 : Int32)), .int (r_12 - (10 : Int32))]))] H := hP
      replace hD : va_D A [(a_, .inr (2, [.long w_13, .int (0 : Int32), .int r_5, .int (r_9 - (10 : Int32)), .int (r_12 - (10 : Int32))]))] := hD
      rw [hQ]
      have h9 := fin9 (P := fun u9 : Int64 × Int32 × Int32 × Int32 × Int32 => va_P E.1 vwCl (w_X1_pickAct E a_ u9.1 u9.2.1 u9.2.2.1 u9.2.2.2.1 u9.2.2.2.2) H ∧ va_D A (w_X1_pickAct E a_ u9.1 u9.2.1 u9.2.2.1 u9.2.2.2.1 u9.2.2.2.2)) hF ⟨hP, hD⟩
      obtain ⟨hP9, hD9⟩ := h9
      exact W.vret hx hb hr (fun tt ht hW => ⟨⟨(), rfl, trivial, ht ▸ hP9, hD9⟩, hS.F ht⟩) hS.2.2 dX1_pickAct_88
    ·
      replace hF := ip c_8 hF
      refine lv_aload_n hx hb dX1_pickAct_39 rfl (lv_at hl 1 rfl) ?_
      refine lv_iconst (v := 4) hx hb dX1_pickAct_40 (by decide) ?_
      refine pt_X1_1 (v := .int (4 : Int32)) hx hb hts i_f_X1_pickAct_X1 hown hK hP hD hS 0 rfl (hts (.fieldLink RX1 15 "HushWatch$Draws" "sort" "I") (List.mem_of_getElem? (i := 2) rfl)) rfl rfl (Nat.le_of_ble_eq_true rfl) dX1_pickAct_41 (fun H locs hP hD hS => ?_)
      replace hP : va_P E.1 vwCl [(a_, .inr (2, [.long w_6, .int (4 : Int32), .int r_5, .int c_b, .int c_c]))] H := hP
      replace hD : va_D A [(a_, .inr (2, [.long w_6, .int (4 : Int32), .int r_5, .int c_b, .int c_c]))] := hD
      refine lv_aload_n hx hb dX1_pickAct_44 rfl (lv_at hl 1 rfl) ?_
      refine lv_aload_n hx hb dX1_pickAct_45 rfl (lv_at hl 1 rfl) ?_
      refine lv_bipush (v := 9) hx hb dX1_pickAct_46 (by decide) ?_
      replace hF := bd2_s hF
      obtain ⟨r_15, w_16, hc_17, hF⟩ := hF
      obtain ⟨hPc, hDc, hFc⟩ := wcut (wc := (w_X1_next E a_ w_6 (4 : Int32) r_5 c_b c_c)) hP hD hS hA [0] (by decide) rfl
      have hrc := va_recv hK hPc (ci := 2) (q0 := 0) rfl rfl
      refine cE_i (wc := (w_X1_next E a_ w_6 (4 : Int32) r_5 c_b c_c)) (wr := []) (w1 := (w_X1_next E a_ w_16 (4 : Int32) r_5 c_b c_c)) (va_runV (As := [.int (9 : Int32)]) (rest := [.ref a_])  ⟨hx, hb, hml, hown, hts⟩ (f_X1_next l E H.size (a_ := a_) (p1 := (9 : Int32)) (c_x := w_6) (c_sort := (4 : Int32)) (c_a := r_5) (c_b := c_b) (c_c := c_c) hc_17) (cwV 1 hts g_f_X1_pickAct_f_X1_next_28 rfl rfl rfl hd_X1_next ⟨Nat.le_of_ble_eq_true rfl, Nat.le_of_ble_eq_true rfl⟩) ⟨pW.blind, hrc, (pW.pre ⟨hK, hN⟩ hPc hDc)⟩ rfl rfl hl.1 rfl (lv_room (Nat.le_of_ble_eq_true rfl)) dX1_pickAct_48 ⟨Nat.le_of_ble_eq_true rfl, Nat.le_of_ble_eq_true rfl⟩) hS hFc hP hD [0] [] rfl rfl (by decide) (by decide) (fun H locs hP hD hS => ?_)
      replace hP : va_P E.1 vwCl [(a_, .inr (2, [.long w_16, .int (4 : Int32), .int r_5, .int c_b, .int c_c]))] H := hP
      replace hD : va_D A [(a_, .inr (2, [.long w_16, .int (4 : Int32), .int r_5, .int c_b, .int c_c]))] := hD
      refine lv_iconst (v := 1) hx hb dX1_pickAct_51 (by decide) ?_
      refine lv_iadd hx hb dX1_pickAct_52 ?_
      refine pt_X1_3 (v := .int (r_15 + (1 : Int32))) hx hb hts i_f_X1_pickAct_X1 hown hK hP hD hS 0 rfl (hts (.fieldLink RX1 22 "HushWatch$Draws" "b" "I") (List.mem_of_getElem? (i := 3) rfl)) rfl rfl (Nat.le_of_ble_eq_true rfl) dX1_pickAct_53 (fun H locs hP hD hS => ?_)
      replace hP : va_P E.1 vwCl [(a_, .inr (2, [.long w_16, .int (4 : Int32), .int r_5, .int (r_15 + (1 : Int32)), .int c_c]))] H := hP
      replace hD : va_D A [(a_, .inr (2, [.long w_16, .int (4 : Int32), .int r_5, .int (r_15 + (1 : Int32)), .int c_c]))] := hD
      rw [hQ]
      have h9 := fin9 (P := fun u9 : Int64 × Int32 × Int32 × Int32 × Int32 => va_P E.1 vwCl (w_X1_pickAct E a_ u9.1 u9.2.1 u9.2.2.1 u9.2.2.2.1 u9.2.2.2.2) H ∧ va_D A (w_X1_pickAct E a_ u9.1 u9.2.1 u9.2.2.1 u9.2.2.2.1 u9.2.2.2.2)) hF ⟨hP, hD⟩
      obtain ⟨hP9, hD9⟩ := h9
      exact W.vret hx hb hr (fun tt ht hW => ⟨⟨(), rfl, trivial, ht ▸ hP9, hD9⟩, hS.F ht⟩) hS.2.2 dX1_pickAct_56
  ·
    replace hF := ip c_4 hF
    refine lv_aload_n hx hb dX1_pickAct_13 rfl (lv_at hl 1 rfl) ?_
    refine lv_iconst (v := 1) hx hb dX1_pickAct_14 (by decide) ?_
    refine pt_X1_1 (v := .int (1 : Int32)) hx hb hts i_f_X1_pickAct_X1 hown hK hP hD hS 0 rfl (hts (.fieldLink RX1 15 "HushWatch$Draws" "sort" "I") (List.mem_of_getElem? (i := 2) rfl)) rfl rfl (Nat.le_of_ble_eq_true rfl) dX1_pickAct_15 (fun H locs hP hD hS => ?_)
    replace hP : va_P E.1 vwCl [(a_, .inr (2, [.long w_2, .int (1 : Int32), .int c_a, .int c_b, .int c_c]))] H := hP
    replace hD : va_D A [(a_, .inr (2, [.long w_2, .int (1 : Int32), .int c_a, .int c_b, .int c_c]))] := hD
    refine lv_aload_n hx hb dX1_pickAct_18 rfl (lv_at hl 1 rfl) ?_
    refine lv_iconst (v := -1) hx hb dX1_pickAct_19 (by decide) ?_
    refine pt_X1_2 (v := .int (-1 : Int32)) hx hb hts i_f_X1_pickAct_X1 hown hK hP hD hS 0 rfl (hts (.fieldLink RX1 19 "HushWatch$Draws" "a" "I") (List.mem_of_getElem? (i := 1) rfl)) rfl rfl (Nat.le_of_ble_eq_true rfl) dX1_pickAct_20 (fun H locs hP hD hS => ?_)
    replace hP : va_P E.1 vwCl [(a_, .inr (2, [.long w_2, .int (1 : Int32), .int (-1 : Int32), .int c_b, .int c_c]))] H := hP
    replace hD : va_D A [(a_, .inr (2, [.long w_2, .int (1 : Int32), .int (-1 : Int32), .int c_b, .int c_c]))] := hD
    rw [hQ]
    have h9 := fin9 (P := fun u9 : Int64 × Int32 × Int32 × Int32 × Int32 => va_P E.1 vwCl (w_X1_pickAct E a_ u9.1 u9.2.1 u9.2.2.1 u9.2.2.2.1 u9.2.2.2.2) H ∧ va_D A (w_X1_pickAct E a_ u9.1 u9.2.1 u9.2.2.1 u9.2.2.2.1 u9.2.2.2.2)) hF ⟨hP, hD⟩
    obtain ⟨hP9, hD9⟩ := h9
    exact W.vret hx hb hr (fun tt ht hW => ⟨⟨(), rfl, trivial, ht ▸ hP9, hD9⟩, hS.F ht⟩) hS.2.2 dX1_pickAct_23

def J_X2_bringBack_28 (c_rows : Nat → Int32) (k0 : Int32) (c_held : Int32) (c_o1_row : Nat → Int32) : Option (Int32 × Int32 × Int32 × (Nat → Int32)) :=
  cpF (k0 * (81 : Int32)) (0 : Int32) (81 : Int32) 3240 81 (nmF (va_cpy c_rows c_o1_row (k0 * (81 : Int32)).toNatClampNeg (0 : Int32).toNatClampNeg (81 : Int32).toNatClampNeg) (fun f_4 => some ((1 : Int32), k0, c_held - (1 : Int32), f_4)))
def F_X2_bringBack (c_rows : Nat → Int32) (c_next : Int32) (c_held : Int32) (c_o1_row : Nat → Int32) : Option (Int32 × Int32 × Int32 × (Nat → Int32)) :=
  if c_held = (0 : Int32) then some ((0 : Int32), c_next, c_held, c_o1_row) else if c_next ≤ (0 : Int32) then J_X2_bringBack_28 c_rows (39 : Int32) c_held c_o1_row else J_X2_bringBack_28 c_rows (c_next - (1 : Int32)) c_held c_o1_row
abbrev w_X2_bringBack (E : EE) (a_ a_rows a_o1 a_o1_row a_o1_partners a_o1_share a_o1_leftOver : Nat) (c_next : Int32) (c_held : Int32) (c_rows : Nat → Int32) (c_o1_askedCount : Int32) (c_o1_outcome : Int32) (c_o1_row : Nat → Int32) : va_W := [(a_, .inr (3, [.ref a_rows, .int c_next, .int c_held])), (a_rows, .inl (E.2.1, 3240, .inl c_rows)), (a_o1, .inr (6, [.ref a_o1_row, .ref a_o1_partners, .int c_o1_askedCount, .int c_o1_outcome, .ref a_o1_share, .ref a_o1_leftOver])), (a_o1_row, .inl (E.2.1, 81, .inl c_o1_row))]
def v_f_X2_bringBack : List Cond := List.cons (.code yX2_bringBack cX2_bringBack 2 (some .boolean)) (HAppend.hAppend (α := List Cond) (β := List Cond) (γ := List Cond) [.fieldLink RX2 21 "HushWatch$History" "held" "I", .fieldLink RX2 17 "HushWatch$History" "next" "I", .fieldLink RX2 11 "HushWatch$History" "rows" "[I", .methodLink RX2 27 arraycopyName, .native arraycopyName, .static arraycopyName, .initialized "java/lang/System"] (HAppend.hAppend (α := List Cond) (β := List Cond) (γ := List Cond) wsX20 (HAppend.hAppend (α := List Cond) (β := List Cond) (γ := List Cond) wsX50 [])))
theorem gw_f_X2_bringBack : v_f_X2_bringBack.all goodWord = true := by decide +kernel
theorem i_f_X2_bringBack_X2 : ∀ w ∈ wsX20, w ∈ v_f_X2_bringBack := fun _ h => List.mem_cons_of_mem _ (List.mem_append_right _ (List.mem_append_left _ h))
theorem i_f_X2_bringBack_X5 : ∀ w ∈ wsX50, w ∈ v_f_X2_bringBack := fun _ h => List.mem_cons_of_mem _ (List.mem_append_right _ (List.mem_append_right _ (List.mem_append_left _ h)))
theorem hd_X2_bringBack : yX2_bringBack.cls = RX2 ∧ yX2_bringBack.cls ≠ "java/lang/invoke/MethodHandle" ∧ yX2_bringBack.cls ≠ "java/lang/invoke/VarHandle" ∧ (parseMethodDescriptor yX2_bringBack.desc).map (fun d => d.parameters.length) = some 1 := by decide +kernel
set_option maxHeartbeats 4000000 in
set_option maxRecDepth 100000 in
theorem j_X2_bringBack_28 {p : Program} (l : Launch) {e : Env} {s : State} {m : MethodId} {below : List Frame} {meth : Method} {c : Code} {Q : State → Prop} (E : EE) {a_ a_rows a_o1 a_o1_row a_o1_partners a_o1_share a_o1_leftOver : Nat} {c_rows : Nat → Int32} {c_o1_askedCount : Int32} {c_o1_outcome : Int32} {k0 : Int32} {c_next : Int32} {c_held : Int32} {c_o1_row : Nat → Int32} (hx : p.tables.exec = Jvm.exec) (hb : c.code = cX2_bringBack) (hml : c.maxLocals = 2) (hown : s.vm.findClass RX2 = some m.cls) (hts : ∀ w ∈ v_f_X2_bringBack, w.before #[Value.ref a_, Value.ref a_o1] s = true) (hK : va_K E.1 vwCl (TY E) s) (hN : NX s) {A : Nat → Prop} (hA : ∀ q : Nat, s.heap.size ≤ q → A q) {rr : Int32} {n_next : Int32} {n_held : Int32} {n_o1_row : Nat → Int32} (hr : meth.sig.returnType = (some .boolean)) (hlocks : meth.locks = false) (hQ : Q = MQ below (va_Qi (fun (q : Int32) (_u : Unit) => q = rr ∧ (q = 0 ∨ q = 1)) (fun (_u : Unit) tt => va_P E.1 vwCl (w_X2_bringBack E a_ a_rows a_o1 a_o1_row a_o1_partners a_o1_share a_o1_leftOver n_next n_held c_rows c_o1_askedCount c_o1_outcome n_o1_row) tt.heap ∧ va_D A (w_X2_bringBack E a_ a_rows a_o1 a_o1_row a_o1_partners a_o1_share a_o1_leftOver n_next n_held c_rows c_o1_askedCount c_o1_outcome n_o1_row)) A) #[Value.ref a_, Value.ref a_o1] s 0 0 A) (hF : J_X2_bringBack_28 c_rows k0 c_held c_o1_row = some (rr, n_next, n_held, n_o1_row)) : ∀ (H : Heap) (locs : List Loc) (ls : Array Slot), va_P E.1 vwCl (w_X2_bringBack E a_ a_rows a_o1 a_o1_row a_o1_partners a_o1_share a_o1_leftOver c_next c_held c_rows c_o1_askedCount c_o1_outcome c_o1_row) H → va_D A (w_X2_bringBack E a_ a_rows a_o1 a_o1_row a_o1_partners a_o1_share a_o1_leftOver c_next c_held c_rows c_o1_askedCount c_o1_outcome c_o1_row) → va_S A s.heap H locs → lv_has ls 2 [(0, .ref a_), (1, .ref a_o1)] → W p l e ({ frames := 1, cells := 0, slots := 0, locals := 60 } : Room) s m #[Value.ref a_, Value.ref a_o1] below meth c H locs 0 0 Q (F0 m 28 ls [.int k0, .ref a_]) := by
  unfold J_X2_bringBack_28 at hF
  intro H locs ls hP hD hS hl
  replace hP : va_P E.1 vwCl [(a_, .inr (3, [.ref a_rows, .int c_next, .int c_held])), (a_rows, .inl (E.2.1, 3240, .inl c_rows)), (a_o1, .inr (6, [.ref a_o1_row, .ref a_o1_partners, .int c_o1_askedCount, .int c_o1_outcome, .ref a_o1_share, .ref a_o1_leftOver])), (a_o1_row, .inl (E.2.1, 81, .inl c_o1_row))] H := hP
  replace hD : va_D A [(a_, .inr (3, [.ref a_rows, .int c_next, .int c_held])), (a_rows, .inl (E.2.1, 3240, .inl c_rows)), (a_o1, .inr (6, [.ref a_o1_row, .ref a_o1_partners, .int c_o1_askedCount, .int c_o1_outcome, .ref a_o1_share, .ref a_o1_leftOver])), (a_o1_row, .inl (E.2.1, 81, .inl c_o1_row))] := hD
  refine pt_X2_1 (v := .int k0) hx hb hts i_f_X2_bringBack_X2 hown hK hP hD hS 0 rfl (hts (.fieldLink RX2 17 "HushWatch$History" "next" "I") (List.mem_of_getElem? (i := 2) rfl)) rfl rfl (Nat.le_of_ble_eq_true rfl) dX2_bringBack_28 (fun H locs hP hD hS => ?_)
  replace hP : va_P E.1 vwCl [(a_, .inr (3, [.ref a_rows, .int k0, .int c_held])), (a_rows, .inl (E.2.1, 3240, .inl c_rows)), (a_o1, .inr (6, [.ref a_o1_row, .ref a_o1_partners, .int c_o1_askedCount, .int c_o1_outcome, .ref a_o1_share, .ref a_o1_leftOver])), (a_o1_row, .inl (E.2.1, 81, .inl c_o1_row))] H := hP
  replace hD : va_D A [(a_, .inr (3, [.ref a_rows, .int k0, .int c_held])), (a_rows, .inl (E.2.1, 3240, .inl c_rows)), (a_o1, .inr (6, [.ref a_o1_row, .ref a_o1_partners, .int c_o1_askedCount, .int c_o1_outcome, .ref a_o1_share, .ref a_o1_leftOver])), (a_o1_row, .inl (E.2.1, 81, .inl c_o1_row))] := hD
  refine lv_aload_n hx hb dX2_bringBack_31 rfl (lv_at hl 0 rfl) ?_
  refine lv_dup hx hb dX2_bringBack_32 rfl ?_
  refine gt_X2_2 (v := .int c_held) hx hb hts i_f_X2_bringBack_X2 hown hK hP 0 rfl (hts (.fieldLink RX2 21 "HushWatch$History" "held" "I") (List.mem_of_getElem? (i := 1) rfl)) rfl dX2_bringBack_33 ?_
  refine lv_iconst (v := 1) hx hb dX2_bringBack_36 (by decide) ?_
  refine lv_isub hx hb dX2_bringBack_37 ?_
  refine pt_X2_2 (v := .int (c_held - (1 : Int32))) hx hb hts i_f_X2_bringBack_X2 hown hK hP hD hS 0 rfl (hts (.fieldLink RX2 21 "HushWatch$History" "held" "I") (List.mem_of_getElem? (i := 1) rfl)) rfl rfl (Nat.le_of_ble_eq_true rfl) dX2_bringBack_38 (fun H locs hP hD hS => ?_)
  replace hP : va_P E.1 vwCl [(a_, .inr (3, [.ref a_rows, .int k0, .int (c_held - (1 : Int32))])), (a_rows, .inl (E.2.1, 3240, .inl c_rows)), (a_o1, .inr (6, [.ref a_o1_row, .ref a_o1_partners, .int c_o1_askedCount, .int c_o1_outcome, .ref a_o1_share, .ref a_o1_leftOver])), (a_o1_row, .inl (E.2.1, 81, .inl c_o1_row))] H := hP
  replace hD : va_D A [(a_, .inr (3, [.ref a_rows, .int k0, .int (c_held - (1 : Int32))])), (a_rows, .inl (E.2.1, 3240, .inl c_rows)), (a_o1, .inr (6, [.ref a_o1_row, .ref a_o1_partners, .int c_o1_askedCount, .int c_o1_outcome, .ref a_o1_share, .ref a_o1_leftOver])), (a_o1_row, .inl (E.2.1, 81, .inl c_o1_row))] := hD
  refine lv_aload_n hx hb dX2_bringBack_41 rfl (lv_at hl 0 rfl) ?_
  refine gt_X2_0 (v := .ref a_rows) hx hb hts i_f_X2_bringBack_X2 hown hK hP 0 rfl (hts (.fieldLink RX2 11 "HushWatch$History" "rows" "[I") (List.mem_of_getElem? (i := 3) rfl)) rfl dX2_bringBack_42 ?_
  refine lv_aload_n hx hb dX2_bringBack_45 rfl (lv_at hl 0 rfl) ?_
  refine gt_X2_1 (v := .int k0) hx hb hts i_f_X2_bringBack_X2 hown hK hP 0 rfl (hts (.fieldLink RX2 17 "HushWatch$History" "next" "I") (List.mem_of_getElem? (i := 2) rfl)) rfl dX2_bringBack_46 ?_
  refine lv_bipush (v := 81) hx hb dX2_bringBack_49 (by decide) ?_
  refine lv_imul hx hb dX2_bringBack_51 ?_
  refine lv_aload_n hx hb dX2_bringBack_52 rfl (lv_at hl 1 rfl) ?_
  refine va_getN (D := E.1) (ci := 6) (v := .ref a_o1_row) (C := RX5) (T := TX5) (N := 6) hx hb hts i_f_X2_bringBack_X5 hown hK hP 2 rfl rfl 0 (by decide) (nx hN 11 rfl) (fun _ h9 => h9) rfl dX2_bringBack_53 ?_
  refine lv_iconst (v := 0) hx hb dX2_bringBack_56 (by decide) ?_
  refine lv_bipush (v := 81) hx hb dX2_bringBack_57 (by decide) ?_
  replace hF := cp_s hF
  obtain ⟨hy_3, hF⟩ := hF
  refine va_copyi hx hb (hml.trans hl.1.symm) hown (hts (.methodLink RX2 27 arraycopyName) (List.mem_of_getElem? (i := 4) rfl)) (hts (.native arraycopyName) (List.mem_of_getElem? (i := 5) rfl)) (hts (.static arraycopyName) (List.mem_of_getElem? (i := 6) rfl)) (hts (.initialized "java/lang/System") (List.mem_of_getElem? (i := 7) rfl)) hK hP hD hS 1 3 0 0 rfl rfl rfl rfl rfl hy_3.1 hy_3.2.1 hy_3.2.2.1 hy_3.2.2.2.1 hy_3.2.2.2.2 (fun _ _ => rfl) (Nat.le_of_ble_eq_true rfl) (Nat.le_of_ble_eq_true rfl) dX2_bringBack_59 (fun H locs hP hD hS => ?_)
  replace hP : va_P E.1 vwCl [(a_, .inr (3, [.ref a_rows, .int k0, .int (c_held - (1 : Int32))])), (a_rows, .inl (E.2.1, 3240, .inl c_rows)), (a_o1, .inr (6, [.ref a_o1_row, .ref a_o1_partners, .int c_o1_askedCount, .int c_o1_outcome, .ref a_o1_share, .ref a_o1_leftOver])), (a_o1_row, .inl (E.2.1, 81, .inl (va_cpy c_rows c_o1_row (k0 * (81 : Int32)).toNatClampNeg (0 : Int32).toNatClampNeg (81 : Int32).toNatClampNeg)))] H := hP
  replace hD : va_D A [(a_, .inr (3, [.ref a_rows, .int k0, .int (c_held - (1 : Int32))])), (a_rows, .inl (E.2.1, 3240, .inl c_rows)), (a_o1, .inr (6, [.ref a_o1_row, .ref a_o1_partners, .int c_o1_askedCount, .int c_o1_outcome, .ref a_o1_share, .ref a_o1_leftOver])), (a_o1_row, .inl (E.2.1, 81, .inl (va_cpy c_rows c_o1_row (k0 * (81 : Int32)).toNatClampNeg (0 : Int32).toNatClampNeg (81 : Int32).toNatClampNeg)))] := hD
  replace hF := nm_s hF
  obtain ⟨f_4, hf_4, hF⟩ := hF
  rw [← hf_4] at hP hD
  refine lv_iconst (v := 1) hx hb dX2_bringBack_62 (by decide) ?_
  rw [hQ]
  have h9 := fin9 (P := fun u9 : Int32 × Int32 × Int32 × (Nat → Int32) => (1 : Int32) = u9.1 ∧ va_P E.1 vwCl (w_X2_bringBack E a_ a_rows a_o1 a_o1_row a_o1_partners a_o1_share a_o1_leftOver u9.2.1 u9.2.2.1 c_rows c_o1_askedCount c_o1_outcome u9.2.2.2) H ∧ va_D A (w_X2_bringBack E a_ a_rows a_o1 a_o1_row a_o1_partners a_o1_share a_o1_leftOver u9.2.1 u9.2.2.1 c_rows c_o1_askedCount c_o1_outcome u9.2.2.2)) hF ⟨rfl, hP, hD⟩
  obtain ⟨e9_0, hP9, hD9⟩ := h9
  exact W.zret (v := (1 : Int32)) hx hb hr rfl (fun tt ht hW => ⟨⟨_, (), rfl, ⟨e9_0, Or.inr rfl⟩, ht ▸ hP9, hD9⟩, hS.F ht⟩) hS.2.2 dX2_bringBack_63

set_option maxHeartbeats 4000000 in
set_option maxRecDepth 100000 in
theorem f_X2_bringBack (l : Launch) (E : EE) (sz : Nat) {a_ a_rows a_o1 a_o1_row a_o1_partners a_o1_share a_o1_leftOver : Nat} {c_next : Int32} {c_held : Int32} {c_rows : Nat → Int32} {c_o1_askedCount : Int32} {c_o1_outcome : Int32} {c_o1_row : Nat → Int32} {rr : Int32} {n_next : Int32} {n_held : Int32} {n_o1_row : Nat → Int32} (hF : F_X2_bringBack c_rows c_next c_held c_o1_row = some (rr, n_next, n_held, n_o1_row)) : Met l yX2_bringBack v_f_X2_bringBack (({ frames := 1, cells := 0, slots := 0, locals := 60 } : Room)) (va_Pc [.ref a_, .ref a_o1] (pW E sz (w_X2_bringBack E a_ a_rows a_o1 a_o1_row a_o1_partners a_o1_share a_o1_leftOver c_next c_held c_rows c_o1_askedCount c_o1_outcome c_o1_row))) (va_Qi (fun (q : Int32) (_u : Unit) => q = rr ∧ (q = 0 ∨ q = 1)) (fun (_u : Unit) tt => va_P E.1 vwCl (w_X2_bringBack E a_ a_rows a_o1 a_o1_row a_o1_partners a_o1_share a_o1_leftOver n_next n_held c_rows c_o1_askedCount c_o1_outcome n_o1_row) tt.heap ∧ va_D (va_A (w_X2_bringBack E a_ a_rows a_o1 a_o1_row a_o1_partners a_o1_share a_o1_leftOver c_next c_held c_rows c_o1_askedCount c_o1_outcome c_o1_row) sz) (w_X2_bringBack E a_ a_rows a_o1 a_o1_row a_o1_partners a_o1_share a_o1_leftOver n_next n_held c_rows c_o1_askedCount c_o1_outcome n_o1_row)) (va_A (w_X2_bringBack E a_ a_rows a_o1 a_o1_row a_o1_partners a_o1_share a_o1_leftOver c_next c_held c_rows c_o1_askedCount c_o1_outcome c_o1_row) sz)) 0 0 (va_A (w_X2_bringBack E a_ a_rows a_o1 a_o1_row a_o1_partners a_o1_share a_o1_leftOver c_next c_held c_rows c_o1_askedCount c_o1_outcome c_o1_row) sz) := by
  refine Met.ofW (cc := cX2_bringBack) (maxL := 2) (ret := (some .boolean)) (by decide) rfl ?_
  intro p e s m args below meth c s₁ B hml hv
  obtain ⟨rfl, hsz, ⟨hK, hN⟩, hP, hD0⟩ := hv
  have hx := B.exec
  have hb := B.bytes
  have hr := B.returns
  have hts := atoms_spec (ws := v_f_X2_bringBack) B.pre
  have hown : s.vm.findClass RX2 = some m.cls := own_of hd_X2_bringBack.1 (findClass_of_methodNamed B.named)
  have hlocks : meth.locks = false := B.notSynchronized
  subst hsz
  have hD := hD0.self (sz := s.heap.size)
  generalize hAe : va_A (w_X2_bringBack E a_ a_rows a_o1 a_o1_row a_o1_partners a_o1_share a_o1_leftOver c_next c_held c_rows c_o1_askedCount c_o1_outcome c_o1_row) s.heap.size = A at hD ⊢
  have hA : ∀ q : Nat, s.heap.size ≤ q → A q := fun q h => by rw [← hAe]; exact Or.inr h
  have hS : va_S A s.heap s.heap [] := va_S.rf
  have hl := lv_entry ([.ref a_, .ref a_o1]) (n := 2) (Nat.le_of_ble_eq_true rfl)
  rw [lg_entry_eq]
  generalize (lg_sl ([.ref a_, .ref a_o1]) ++ List.replicate (2 - (lg_sl ([.ref a_, .ref a_o1])).length) Slot.unset).toArray = ls at hl ⊢
  have hl : lv_has ls 2 [(0, .ref a_), (1, .ref a_o1)] := hl
  obtain ⟨Q, hQ⟩ : ∃ Q : State → Prop, Q = MQ below (va_Qi (fun (q : Int32) (_u : Unit) => q = rr ∧ (q = 0 ∨ q = 1)) (fun (_u : Unit) tt => va_P E.1 vwCl (w_X2_bringBack E a_ a_rows a_o1 a_o1_row a_o1_partners a_o1_share a_o1_leftOver n_next n_held c_rows c_o1_askedCount c_o1_outcome n_o1_row) tt.heap ∧ va_D A (w_X2_bringBack E a_ a_rows a_o1 a_o1_row a_o1_partners a_o1_share a_o1_leftOver n_next n_held c_rows c_o1_askedCount c_o1_outcome n_o1_row)) A) #[Value.ref a_, Value.ref a_o1] s 0 0 A := ⟨_, rfl⟩
  rw [← hQ]
  change W p l e ({ frames := 1, cells := 0, slots := 0, locals := 60 } : Room) s m #[Value.ref a_, Value.ref a_o1] below meth c s.heap [] 0 0 Q (F0 m 0 ls [])
  suffices hh9 : ∀ (H : Heap) (locs : List Loc), va_P E.1 vwCl (w_X2_bringBack E a_ a_rows a_o1 a_o1_row a_o1_partners a_o1_share a_o1_leftOver c_next c_held c_rows c_o1_askedCount c_o1_outcome c_o1_row) H → va_D A (w_X2_bringBack E a_ a_rows a_o1 a_o1_row a_o1_partners a_o1_share a_o1_leftOver c_next c_held c_rows c_o1_askedCount c_o1_outcome c_o1_row) → va_S A s.heap H locs → W p l e ({ frames := 1, cells := 0, slots := 0, locals := 60 } : Room) s m #[Value.ref a_, Value.ref a_o1] below meth c H locs 0 0 Q (F0 m 0 ls []) from hh9 s.heap [] hP hD hS
  clear hP hD hS
  intro H locs hP hD hS
  replace hP : va_P E.1 vwCl [(a_, .inr (3, [.ref a_rows, .int c_next, .int c_held])), (a_rows, .inl (E.2.1, 3240, .inl c_rows)), (a_o1, .inr (6, [.ref a_o1_row, .ref a_o1_partners, .int c_o1_askedCount, .int c_o1_outcome, .ref a_o1_share, .ref a_o1_leftOver])), (a_o1_row, .inl (E.2.1, 81, .inl c_o1_row))] H := hP
  replace hD : va_D A [(a_, .inr (3, [.ref a_rows, .int c_next, .int c_held])), (a_rows, .inl (E.2.1, 3240, .inl c_rows)), (a_o1, .inr (6, [.ref a_o1_row, .ref a_o1_partners, .int c_o1_askedCount, .int c_o1_outcome, .ref a_o1_share, .ref a_o1_leftOver])), (a_o1_row, .inl (E.2.1, 81, .inl c_o1_row))] := hD
  unfold F_X2_bringBack at hF
  refine lv_aload_n hx hb dX2_bringBack_0 rfl (lv_at hl 0 rfl) ?_
  refine gt_X2_2 (v := .int c_held) hx hb hts i_f_X2_bringBack_X2 hown hK hP 0 rfl (hts (.fieldLink RX2 21 "HushWatch$History" "held" "I") (List.mem_of_getElem? (i := 1) rfl)) rfl dX2_bringBack_1 ?_
  refine lv_if_ne (tgt := 9) hx hb dX2_bringBack_4 (by decide) (fun c_1 => ?_) (fun c_1 => ?_)
  ·
    replace hF := inn c_1 hF
    refine lv_aload_n hx hb dX2_bringBack_9 rfl (lv_at hl 0 rfl) ?_
    refine lv_aload_n hx hb dX2_bringBack_10 rfl (lv_at hl 0 rfl) ?_
    refine gt_X2_1 (v := .int c_next) hx hb hts i_f_X2_bringBack_X2 hown hK hP 0 rfl (hts (.fieldLink RX2 17 "HushWatch$History" "next" "I") (List.mem_of_getElem? (i := 2) rfl)) rfl dX2_bringBack_11 ?_
    refine lv_if_le (tgt := 26) hx hb dX2_bringBack_14 (by decide) (fun c_2 => ?_) (fun c_2 => ?_)
    ·
      replace hF := ip c_2 hF
      refine lv_bipush (v := 39) hx hb dX2_bringBack_26 (by decide) ?_
      exact j_X2_bringBack_28 l E (c_rows := c_rows) (c_o1_askedCount := c_o1_askedCount) (c_o1_outcome := c_o1_outcome) (k0 := (39 : Int32)) (c_next := c_next) (c_held := c_held) (c_o1_row := c_o1_row) hx hb hml hown hts hK hN hA hr hlocks hQ hF H locs ls (hP.sub [0, 1, 2, 3] rfl) (hD.sub [0, 1, 2, 3] (by decide) rfl) hS (lv_sub hl [0, 1] rfl)
    ·
      replace hF := inn c_2 hF
      refine lv_aload_n hx hb dX2_bringBack_17 rfl (lv_at hl 0 rfl) ?_
      refine gt_X2_1 (v := .int c_next) hx hb hts i_f_X2_bringBack_X2 hown hK hP 0 rfl (hts (.fieldLink RX2 17 "HushWatch$History" "next" "I") (List.mem_of_getElem? (i := 2) rfl)) rfl dX2_bringBack_18 ?_
      refine lv_iconst (v := 1) hx hb dX2_bringBack_21 (by decide) ?_
      refine lv_isub hx hb dX2_bringBack_22 ?_
      refine lv_goto (tgt := 28) hx hb dX2_bringBack_23 (by decide) ?_
      exact j_X2_bringBack_28 l E (c_rows := c_rows) (c_o1_askedCount := c_o1_askedCount) (c_o1_outcome := c_o1_outcome) (k0 := c_next - (1 : Int32)) (c_next := c_next) (c_held := c_held) (c_o1_row := c_o1_row) hx hb hml hown hts hK hN hA hr hlocks hQ hF H locs ls (hP.sub [0, 1, 2, 3] rfl) (hD.sub [0, 1, 2, 3] (by decide) rfl) hS (lv_sub hl [0, 1] rfl)
  ·
    replace hF := ip c_1 hF
    refine lv_iconst (v := 0) hx hb dX2_bringBack_7 (by decide) ?_
    rw [hQ]
    have h9 := fin9 (P := fun u9 : Int32 × Int32 × Int32 × (Nat → Int32) => (0 : Int32) = u9.1 ∧ va_P E.1 vwCl (w_X2_bringBack E a_ a_rows a_o1 a_o1_row a_o1_partners a_o1_share a_o1_leftOver u9.2.1 u9.2.2.1 c_rows c_o1_askedCount c_o1_outcome u9.2.2.2) H ∧ va_D A (w_X2_bringBack E a_ a_rows a_o1 a_o1_row a_o1_partners a_o1_share a_o1_leftOver u9.2.1 u9.2.2.1 c_rows c_o1_askedCount c_o1_outcome u9.2.2.2)) hF ⟨rfl, hP, hD⟩
    obtain ⟨e9_0, hP9, hD9⟩ := h9
    exact W.zret (v := (0 : Int32)) hx hb hr rfl (fun tt ht hW => ⟨⟨_, (), rfl, ⟨e9_0, Or.inl rfl⟩, ht ▸ hP9, hD9⟩, hS.F ht⟩) hS.2.2 dX2_bringBack_8

def F_X2_forget (c_held : Int32) : Option (Int32) :=
  some (0 : Int32)
abbrev w_X2_forget (E : EE) (a_ a_rows : Nat) (c_next : Int32) (c_held : Int32) : va_W := [(a_, .inr (3, [.ref a_rows, .int c_next, .int c_held]))]
def v_f_X2_forget : List Cond := List.cons (.code yX2_forget cX2_forget 1 none) (HAppend.hAppend (α := List Cond) (β := List Cond) (γ := List Cond) [.fieldLink RX2 21 "HushWatch$History" "held" "I"] (HAppend.hAppend (α := List Cond) (β := List Cond) (γ := List Cond) wsX20 []))
theorem gw_f_X2_forget : v_f_X2_forget.all goodWord = true := by decide +kernel
theorem i_f_X2_forget_X2 : ∀ w ∈ wsX20, w ∈ v_f_X2_forget := fun _ h => List.mem_cons_of_mem _ (List.mem_append_right _ (List.mem_append_left _ h))
theorem hd_X2_forget : yX2_forget.cls = RX2 ∧ yX2_forget.cls ≠ "java/lang/invoke/MethodHandle" ∧ yX2_forget.cls ≠ "java/lang/invoke/VarHandle" ∧ (parseMethodDescriptor yX2_forget.desc).map (fun d => d.parameters.length) = some 0 := by decide +kernel
set_option maxHeartbeats 4000000 in
set_option maxRecDepth 100000 in
theorem f_X2_forget (l : Launch) (E : EE) (sz : Nat) {a_ a_rows : Nat} {c_next : Int32} {c_held : Int32} {n_held : Int32} (hF : F_X2_forget c_held = some n_held) : Met l yX2_forget v_f_X2_forget (({ frames := 0, cells := 0, slots := 0, locals := 0 } : Room)) (va_Pc [.ref a_] (pW E sz (w_X2_forget E a_ a_rows c_next c_held))) (va_Qv (fun (_u : Unit) => True) (fun (_u : Unit) tt => va_P E.1 vwCl (w_X2_forget E a_ a_rows c_next n_held) tt.heap ∧ va_D (va_A (w_X2_forget E a_ a_rows c_next c_held) sz) (w_X2_forget E a_ a_rows c_next n_held)) (va_A (w_X2_forget E a_ a_rows c_next c_held) sz)) 0 0 (va_A (w_X2_forget E a_ a_rows c_next c_held) sz) := by
  refine Met.ofW (cc := cX2_forget) (maxL := 1) (ret := none) (by decide) rfl ?_
  intro p e s m args below meth c s₁ B hml hv
  obtain ⟨rfl, hsz, ⟨hK, hN⟩, hP, hD0⟩ := hv
  have hx := B.exec
  have hb := B.bytes
  have hr := B.returns
  have hts := atoms_spec (ws := v_f_X2_forget) B.pre
  have hown : s.vm.findClass RX2 = some m.cls := own_of hd_X2_forget.1 (findClass_of_methodNamed B.named)
  have hlocks : meth.locks = false := B.notSynchronized
  subst hsz
  have hD := hD0.self (sz := s.heap.size)
  generalize hAe : va_A (w_X2_forget E a_ a_rows c_next c_held) s.heap.size = A at hD ⊢
  have hA : ∀ q : Nat, s.heap.size ≤ q → A q := fun q h => by rw [← hAe]; exact Or.inr h
  have hS : va_S A s.heap s.heap [] := va_S.rf
  have hl := lv_entry ([.ref a_]) (n := 1) (Nat.le_of_ble_eq_true rfl)
  rw [lg_entry_eq]
  generalize (lg_sl ([.ref a_]) ++ List.replicate (1 - (lg_sl ([.ref a_])).length) Slot.unset).toArray = ls at hl ⊢
  have hl : lv_has ls 1 [(0, .ref a_)] := hl
  obtain ⟨Q, hQ⟩ : ∃ Q : State → Prop, Q = MQ below (va_Qv (fun (_u : Unit) => True) (fun (_u : Unit) tt => va_P E.1 vwCl (w_X2_forget E a_ a_rows c_next n_held) tt.heap ∧ va_D A (w_X2_forget E a_ a_rows c_next n_held)) A) #[Value.ref a_] s 0 0 A := ⟨_, rfl⟩
  rw [← hQ]
  change W p l e ({ frames := 0, cells := 0, slots := 0, locals := 0 } : Room) s m #[Value.ref a_] below meth c s.heap [] 0 0 Q (F0 m 0 ls [])
  suffices hh9 : ∀ (H : Heap) (locs : List Loc), va_P E.1 vwCl (w_X2_forget E a_ a_rows c_next c_held) H → va_D A (w_X2_forget E a_ a_rows c_next c_held) → va_S A s.heap H locs → W p l e ({ frames := 0, cells := 0, slots := 0, locals := 0 } : Room) s m #[Value.ref a_] below meth c H locs 0 0 Q (F0 m 0 ls []) from hh9 s.heap [] hP hD hS
  clear hP hD hS
  intro H locs hP hD hS
  replace hP : va_P E.1 vwCl [(a_, .inr (3, [.ref a_rows, .int c_next, .int c_held]))] H := hP
  replace hD : va_D A [(a_, .inr (3, [.ref a_rows, .int c_next, .int c_held]))] := hD
  unfold F_X2_forget at hF
  refine lv_aload_n hx hb dX2_forget_0 rfl (lv_at hl 0 rfl) ?_
  refine lv_iconst (v := 0) hx hb dX2_forget_1 (by decide) ?_
  refine pt_X2_2 (v := .int (0 : Int32)) hx hb hts i_f_X2_forget_X2 hown hK hP hD hS 0 rfl (hts (.fieldLink RX2 21 "HushWatch$History" "held" "I") (List.mem_of_getElem? (i := 1) rfl)) rfl rfl (Nat.le_of_ble_eq_true rfl) dX2_forget_2 (fun H locs hP hD hS => ?_)
  replace hP : va_P E.1 vwCl [(a_, .inr (3, [.ref a_rows, .int c_next, .int (0 : Int32)]))] H := hP
  replace hD : va_D A [(a_, .inr (3, [.ref a_rows, .int c_next, .int (0 : Int32)]))] := hD
  rw [hQ]
  have h9 := fin9 (P := fun u9 : Int32 => va_P E.1 vwCl (w_X2_forget E a_ a_rows c_next u9) H ∧ va_D A (w_X2_forget E a_ a_rows c_next u9)) hF ⟨hP, hD⟩
  obtain ⟨hP9, hD9⟩ := h9
  exact W.vret hx hb hr (fun tt ht hW => ⟨⟨(), rfl, trivial, ht ▸ hP9, hD9⟩, hS.F ht⟩) hS.2.2 dX2_forget_5

def F_X2_keep (c_rows : Nat → Int32) (c_next : Int32) (c_held : Int32) (c_o1_row : Nat → Int32) : Option ((Nat → Int32) × Int32 × Int32) :=
  cpF (0 : Int32) (c_next * (81 : Int32)) (81 : Int32) 81 3240 (nmF (va_cpy c_o1_row c_rows (0 : Int32).toNatClampNeg (c_next * (81 : Int32)).toNatClampNeg (81 : Int32).toNatClampNeg) (fun f_2 => if (40 : Int32) ≤ c_next + (1 : Int32) then some (f_2, (0 : Int32), (minF (c_held + (1 : Int32)) (40 : Int32))) else some (f_2, c_next + (1 : Int32), (minF (c_held + (1 : Int32)) (40 : Int32)))))
abbrev w_X2_keep (E : EE) (a_ a_rows a_o1 a_o1_row a_o1_partners a_o1_share a_o1_leftOver : Nat) (c_next : Int32) (c_held : Int32) (c_rows : Nat → Int32) (c_o1_askedCount : Int32) (c_o1_outcome : Int32) (c_o1_row : Nat → Int32) : va_W := [(a_, .inr (3, [.ref a_rows, .int c_next, .int c_held])), (a_rows, .inl (E.2.1, 3240, .inl c_rows)), (a_o1, .inr (6, [.ref a_o1_row, .ref a_o1_partners, .int c_o1_askedCount, .int c_o1_outcome, .ref a_o1_share, .ref a_o1_leftOver])), (a_o1_row, .inl (E.2.1, 81, .inl c_o1_row))]
def v_f_X2_keep : List Cond := List.cons (.code yX2_keep cX2_keep 2 none) (HAppend.hAppend (α := List Cond) (β := List Cond) (γ := List Cond) [.fieldLink RX2 11 "HushWatch$History" "rows" "[I", .fieldLink RX2 17 "HushWatch$History" "next" "I", .methodLink RX2 27 arraycopyName, .native arraycopyName, .static arraycopyName, .initialized "java/lang/System", .fieldLink RX2 21 "HushWatch$History" "held" "I", .methodLink RX2 33 Lib.Math.min.name, .static Lib.Math.min.name, .initialized "java/lang/Math", .code Lib.Math.min.name Lib.Math.min.code 2 (some .int)] (HAppend.hAppend (α := List Cond) (β := List Cond) (γ := List Cond) wsX50 (HAppend.hAppend (α := List Cond) (β := List Cond) (γ := List Cond) wsX20 [])))
theorem gw_f_X2_keep : v_f_X2_keep.all goodWord = true := by decide +kernel
theorem i_f_X2_keep_X5 : ∀ w ∈ wsX50, w ∈ v_f_X2_keep := fun _ h => List.mem_cons_of_mem _ (List.mem_append_right _ (List.mem_append_left _ h))
theorem i_f_X2_keep_X2 : ∀ w ∈ wsX20, w ∈ v_f_X2_keep := fun _ h => List.mem_cons_of_mem _ (List.mem_append_right _ (List.mem_append_right _ (List.mem_append_left _ h)))
theorem hd_X2_keep : yX2_keep.cls = RX2 ∧ yX2_keep.cls ≠ "java/lang/invoke/MethodHandle" ∧ yX2_keep.cls ≠ "java/lang/invoke/VarHandle" ∧ (parseMethodDescriptor yX2_keep.desc).map (fun d => d.parameters.length) = some 1 := by decide +kernel
set_option maxHeartbeats 4000000 in
set_option maxRecDepth 100000 in
theorem f_X2_keep (l : Launch) (E : EE) (sz : Nat) {a_ a_rows a_o1 a_o1_row a_o1_partners a_o1_share a_o1_leftOver : Nat} {c_next : Int32} {c_held : Int32} {c_rows : Nat → Int32} {c_o1_askedCount : Int32} {c_o1_outcome : Int32} {c_o1_row : Nat → Int32} {n_rows : Nat → Int32} {n_next : Int32} {n_held : Int32} (hF : F_X2_keep c_rows c_next c_held c_o1_row = some (n_rows, n_next, n_held)) : Met l yX2_keep v_f_X2_keep (({ frames := 1, cells := 0, slots := 0, locals := 60 } : Room)) (va_Pc [.ref a_, .ref a_o1] (pW E sz (w_X2_keep E a_ a_rows a_o1 a_o1_row a_o1_partners a_o1_share a_o1_leftOver c_next c_held c_rows c_o1_askedCount c_o1_outcome c_o1_row))) (va_Qv (fun (_u : Unit) => True) (fun (_u : Unit) tt => va_P E.1 vwCl (w_X2_keep E a_ a_rows a_o1 a_o1_row a_o1_partners a_o1_share a_o1_leftOver n_next n_held n_rows c_o1_askedCount c_o1_outcome c_o1_row) tt.heap ∧ va_D (va_A (w_X2_keep E a_ a_rows a_o1 a_o1_row a_o1_partners a_o1_share a_o1_leftOver c_next c_held c_rows c_o1_askedCount c_o1_outcome c_o1_row) sz) (w_X2_keep E a_ a_rows a_o1 a_o1_row a_o1_partners a_o1_share a_o1_leftOver n_next n_held n_rows c_o1_askedCount c_o1_outcome c_o1_row)) (va_A (w_X2_keep E a_ a_rows a_o1 a_o1_row a_o1_partners a_o1_share a_o1_leftOver c_next c_held c_rows c_o1_askedCount c_o1_outcome c_o1_row) sz)) 0 0 (va_A (w_X2_keep E a_ a_rows a_o1 a_o1_row a_o1_partners a_o1_share a_o1_leftOver c_next c_held c_rows c_o1_askedCount c_o1_outcome c_o1_row) sz) := by
  refine Met.ofW (cc := cX2_keep) (maxL := 2) (ret := none) (by decide) rfl ?_
  intro p e s m args below meth c s₁ B hml hv
  obtain ⟨rfl, hsz, ⟨hK, hN⟩, hP, hD0⟩ := hv
  have hx := B.exec
  have hb := B.bytes
  have hr := B.returns
  have hts := atoms_spec (ws := v_f_X2_keep) B.pre
  have hown : s.vm.findClass RX2 = some m.cls := own_of hd_X2_keep.1 (findClass_of_methodNamed B.named)
  have hlocks : meth.locks = false := B.notSynchronized
  subst hsz
  have hD := hD0.self (sz := s.heap.size)
  generalize hAe : va_A (w_X2_keep E a_ a_rows a_o1 a_o1_row a_o1_partners a_o1_share a_o1_leftOver c_next c_held c_rows c_o1_askedCount c_o1_outcome c_o1_row) s.heap.size = A at hD ⊢
  have hA : ∀ q : Nat, s.heap.size ≤ q → A q := fun q h => by rw [← hAe]; exact Or.inr h
  have hS : va_S A s.heap s.heap [] := va_S.rf
  have hl := lv_entry ([.ref a_, .ref a_o1]) (n := 2) (Nat.le_of_ble_eq_true rfl)
  rw [lg_entry_eq]
  generalize (lg_sl ([.ref a_, .ref a_o1]) ++ List.replicate (2 - (lg_sl ([.ref a_, .ref a_o1])).length) Slot.unset).toArray = ls at hl ⊢
  have hl : lv_has ls 2 [(0, .ref a_), (1, .ref a_o1)] := hl
  obtain ⟨Q, hQ⟩ : ∃ Q : State → Prop, Q = MQ below (va_Qv (fun (_u : Unit) => True) (fun (_u : Unit) tt => va_P E.1 vwCl (w_X2_keep E a_ a_rows a_o1 a_o1_row a_o1_partners a_o1_share a_o1_leftOver n_next n_held n_rows c_o1_askedCount c_o1_outcome c_o1_row) tt.heap ∧ va_D A (w_X2_keep E a_ a_rows a_o1 a_o1_row a_o1_partners a_o1_share a_o1_leftOver n_next n_held n_rows c_o1_askedCount c_o1_outcome c_o1_row)) A) #[Value.ref a_, Value.ref a_o1] s 0 0 A := ⟨_, rfl⟩
  rw [← hQ]
  change W p l e ({ frames := 1, cells := 0, slots := 0, locals := 60 } : Room) s m #[Value.ref a_, Value.ref a_o1] below meth c s.heap [] 0 0 Q (F0 m 0 ls [])
  suffices hh9 : ∀ (H : Heap) (locs : List Loc), va_P E.1 vwCl (w_X2_keep E a_ a_rows a_o1 a_o1_row a_o1_partners a_o1_share a_o1_leftOver c_next c_held c_rows c_o1_askedCount c_o1_outcome c_o1_row) H → va_D A (w_X2_keep E a_ a_rows a_o1 a_o1_row a_o1_partners a_o1_share a_o1_leftOver c_next c_held c_rows c_o1_askedCount c_o1_outcome c_o1_row) → va_S A s.heap H locs → W p l e ({ frames := 1, cells := 0, slots := 0, locals := 60 } : Room) s m #[Value.ref a_, Value.ref a_o1] below meth c H locs 0 0 Q (F0 m 0 ls []) from hh9 s.heap [] hP hD hS
  clear hP hD hS
  intro H locs hP hD hS
  replace hP : va_P E.1 vwCl [(a_, .inr (3, [.ref a_rows, .int c_next, .int c_held])), (a_rows, .inl (E.2.1, 3240, .inl c_rows)), (a_o1, .inr (6, [.ref a_o1_row, .ref a_o1_partners, .int c_o1_askedCount, .int c_o1_outcome, .ref a_o1_share, .ref a_o1_leftOver])), (a_o1_row, .inl (E.2.1, 81, .inl c_o1_row))] H := hP
  replace hD : va_D A [(a_, .inr (3, [.ref a_rows, .int c_next, .int c_held])), (a_rows, .inl (E.2.1, 3240, .inl c_rows)), (a_o1, .inr (6, [.ref a_o1_row, .ref a_o1_partners, .int c_o1_askedCount, .int c_o1_outcome, .ref a_o1_share, .ref a_o1_leftOver])), (a_o1_row, .inl (E.2.1, 81, .inl c_o1_row))] := hD
  unfold F_X2_keep at hF
  refine lv_aload_n hx hb dX2_keep_0 rfl (lv_at hl 1 rfl) ?_
  refine va_getN (D := E.1) (ci := 6) (v := .ref a_o1_row) (C := RX5) (T := TX5) (N := 6) hx hb hts i_f_X2_keep_X5 hown hK hP 2 rfl rfl 0 (by decide) (nx hN 11 rfl) (fun _ h9 => h9) rfl dX2_keep_1 ?_
  refine lv_iconst (v := 0) hx hb dX2_keep_4 (by decide) ?_
  refine lv_aload_n hx hb dX2_keep_5 rfl (lv_at hl 0 rfl) ?_
  refine gt_X2_0 (v := .ref a_rows) hx hb hts i_f_X2_keep_X2 hown hK hP 0 rfl (hts (.fieldLink RX2 11 "HushWatch$History" "rows" "[I") (List.mem_of_getElem? (i := 1) rfl)) rfl dX2_keep_6 ?_
  refine lv_aload_n hx hb dX2_keep_9 rfl (lv_at hl 0 rfl) ?_
  refine gt_X2_1 (v := .int c_next) hx hb hts i_f_X2_keep_X2 hown hK hP 0 rfl (hts (.fieldLink RX2 17 "HushWatch$History" "next" "I") (List.mem_of_getElem? (i := 2) rfl)) rfl dX2_keep_10 ?_
  refine lv_bipush (v := 81) hx hb dX2_keep_13 (by decide) ?_
  refine lv_imul hx hb dX2_keep_15 ?_
  refine lv_bipush (v := 81) hx hb dX2_keep_16 (by decide) ?_
  replace hF := cp_s hF
  obtain ⟨hy_1, hF⟩ := hF
  refine va_copyi hx hb (hml.trans hl.1.symm) hown (hts (.methodLink RX2 27 arraycopyName) (List.mem_of_getElem? (i := 3) rfl)) (hts (.native arraycopyName) (List.mem_of_getElem? (i := 4) rfl)) (hts (.static arraycopyName) (List.mem_of_getElem? (i := 5) rfl)) (hts (.initialized "java/lang/System") (List.mem_of_getElem? (i := 6) rfl)) hK hP hD hS 3 1 0 0 rfl rfl rfl rfl rfl hy_1.1 hy_1.2.1 hy_1.2.2.1 hy_1.2.2.2.1 hy_1.2.2.2.2 (fun _ _ => rfl) (Nat.le_of_ble_eq_true rfl) (Nat.le_of_ble_eq_true rfl) dX2_keep_18 (fun H locs hP hD hS => ?_)
  replace hP : va_P E.1 vwCl [(a_, .inr (3, [.ref a_rows, .int c_next, .int c_held])), (a_rows, .inl (E.2.1, 3240, .inl (va_cpy c_o1_row c_rows (0 : Int32).toNatClampNeg (c_next * (81 : Int32)).toNatClampNeg (81 : Int32).toNatClampNeg))), (a_o1, .inr (6, [.ref a_o1_row, .ref a_o1_partners, .int c_o1_askedCount, .int c_o1_outcome, .ref a_o1_share, .ref a_o1_leftOver])), (a_o1_row, .inl (E.2.1, 81, .inl c_o1_row))] H := hP
  replace hD : va_D A [(a_, .inr (3, [.ref a_rows, .int c_next, .int c_held])), (a_rows, .inl (E.2.1, 3240, .inl (va_cpy c_o1_row c_rows (0 : Int32).toNatClampNeg (c_next * (81 : Int32)).toNatClampNeg (81 : Int32).toNatClampNeg))), (a_o1, .inr (6, [.ref a_o1_row, .ref a_o1_partners, .int c_o1_askedCount, .int c_o1_outcome, .ref a_o1_share, .ref a_o1_leftOver])), (a_o1_row, .inl (E.2.1, 81, .inl c_o1_row))] := hD
  replace hF := nm_s hF
  obtain ⟨f_2, hf_2, hF⟩ := hF
  rw [← hf_2] at hP hD
  refine lv_aload_n hx hb dX2_keep_21 rfl (lv_at hl 0 rfl) ?_
  refine lv_aload_n hx hb dX2_keep_22 rfl (lv_at hl 0 rfl) ?_
  refine gt_X2_1 (v := .int c_next) hx hb hts i_f_X2_keep_X2 hown hK hP 0 rfl (hts (.fieldLink RX2 17 "HushWatch$History" "next" "I") (List.mem_of_getElem? (i := 2) rfl)) rfl dX2_keep_23 ?_
  refine lv_iconst (v := 1) hx hb dX2_keep_26 (by decide) ?_
  refine lv_iadd hx hb dX2_keep_27 ?_
  refine lv_bipush (v := 40) hx hb dX2_keep_28 (by decide) ?_
  refine lv_icmp_ge (tgt := 42) hx hb dX2_keep_30 (by decide) (fun c_3 => ?_) (fun c_3 => ?_)
  ·
    replace hF := ip c_3 hF
    refine lv_iconst (v := 0) hx hb dX2_keep_42 (by decide) ?_
    refine pt_X2_1 (v := .int (0 : Int32)) hx hb hts i_f_X2_keep_X2 hown hK hP hD hS 0 rfl (hts (.fieldLink RX2 17 "HushWatch$History" "next" "I") (List.mem_of_getElem? (i := 2) rfl)) rfl rfl (Nat.le_of_ble_eq_true rfl) dX2_keep_43 (fun H locs hP hD hS => ?_)
    replace hP : va_P E.1 vwCl [(a_, .inr (3, [.ref a_rows, .int (0 : Int32), .int c_held])), (a_rows, .inl (E.2.1, 3240, .inl f_2)), (a_o1, .inr (6, [.ref a_o1_row, .ref a_o1_partners, .int c_o1_askedCount, .int c_o1_outcome, .ref a_o1_share, .ref a_o1_leftOver])), (a_o1_row, .inl (E.2.1, 81, .inl c_o1_row))] H := hP
    replace hD : va_D A [(a_, .inr (3, [.ref a_rows, .int (0 : Int32), .int c_held])), (a_rows, .inl (E.2.1, 3240, .inl f_2)), (a_o1, .inr (6, [.ref a_o1_row, .ref a_o1_partners, .int c_o1_askedCount, .int c_o1_outcome, .ref a_o1_share, .ref a_o1_leftOver])), (a_o1_row, .inl (E.2.1, 81, .inl c_o1_row))] := hD
    refine lv_aload_n hx hb dX2_keep_46 rfl (lv_at hl 0 rfl) ?_
    refine lv_aload_n hx hb dX2_keep_47 rfl (lv_at hl 0 rfl) ?_
    refine gt_X2_2 (v := .int c_held) hx hb hts i_f_X2_keep_X2 hown hK hP 0 rfl (hts (.fieldLink RX2 21 "HushWatch$History" "held" "I") (List.mem_of_getElem? (i := 7) rfl)) rfl dX2_keep_48 ?_
    refine lv_iconst (v := 1) hx hb dX2_keep_51 (by decide) ?_
    refine lv_iadd hx hb dX2_keep_52 ?_
    refine lv_bipush (v := 40) hx hb dX2_keep_53 (by decide) ?_
    refine va_mmin hx hb (hml.trans hl.1.symm) hown (hts (.methodLink RX2 33 Lib.Math.min.name) (List.mem_of_getElem? (i := 8) rfl)) (hts (.static Lib.Math.min.name) (List.mem_of_getElem? (i := 9) rfl)) (hts (.initialized "java/lang/Math") (List.mem_of_getElem? (i := 10) rfl)) (hts (.code Lib.Math.min.name Lib.Math.min.code 2 (some .int)) (List.mem_of_getElem? (i := 11) rfl)) (Nat.le_of_ble_eq_true rfl) (Nat.le_of_ble_eq_true rfl) (Nat.le_of_ble_eq_true rfl) (Nat.le_of_ble_eq_true rfl) dX2_keep_55 ?_
    refine W.eq (g2 := F0 m 58 ls [.int (minF (c_held + (1 : Int32)) (40 : Int32)), .ref a_]) rfl ?_
    refine pt_X2_2 (v := .int (minF (c_held + (1 : Int32)) (40 : Int32))) hx hb hts i_f_X2_keep_X2 hown hK hP hD hS 0 rfl (hts (.fieldLink RX2 21 "HushWatch$History" "held" "I") (List.mem_of_getElem? (i := 7) rfl)) rfl rfl (Nat.le_of_ble_eq_true rfl) dX2_keep_58 (fun H locs hP hD hS => ?_)
    replace hP : va_P E.1 vwCl [(a_, .inr (3, [.ref a_rows, .int (0 : Int32), .int (minF (c_held + (1 : Int32)) (40 : Int32))])), (a_rows, .inl (E.2.1, 3240, .inl f_2)), (a_o1, .inr (6, [.ref a_o1_row, .ref a_o1_partners, .int c_o1_askedCount, .int c_o1_outcome, .ref a_o1_share, .ref a_o1_leftOver])), (a_o1_row, .inl (E.2.1, 81, .inl c_o1_row))] H := hP
    replace hD : va_D A [(a_, .inr (3, [.ref a_rows, .int (0 : Int32), .int (minF (c_held + (1 : Int32)) (40 : Int32))])), (a_rows, .inl (E.2.1, 3240, .inl f_2)), (a_o1, .inr (6, [.ref a_o1_row, .ref a_o1_partners, .int c_o1_askedCount, .int c_o1_outcome, .ref a_o1_share, .ref a_o1_leftOver])), (a_o1_row, .inl (E.2.1, 81, .inl c_o1_row))] := hD
    rw [hQ]
    have h9 := fin9 (P := fun u9 : (Nat → Int32) × Int32 × Int32 => va_P E.1 vwCl (w_X2_keep E a_ a_rows a_o1 a_o1_row a_o1_partners a_o1_share a_o1_leftOver u9.2.1 u9.2.2 u9.1 c_o1_askedCount c_o1_outcome c_o1_row) H ∧ va_D A (w_X2_keep E a_ a_rows a_o1 a_o1_row a_o1_partners a_o1_share a_o1_leftOver u9.2.1 u9.2.2 u9.1 c_o1_askedCount c_o1_outcome c_o1_row)) hF ⟨hP, hD⟩
    obtain ⟨hP9, hD9⟩ := h9
    exact W.vret hx hb hr (fun tt ht hW => ⟨⟨(), rfl, trivial, ht ▸ hP9, hD9⟩, hS.F ht⟩) hS.2.2 dX2_keep_61
  ·
    replace hF := inn c_3 hF
    refine lv_aload_n hx hb dX2_keep_33 rfl (lv_at hl 0 rfl) ?_
    refine gt_X2_1 (v := .int c_next) hx hb hts i_f_X2_keep_X2 hown hK hP 0 rfl (hts (.fieldLink RX2 17 "HushWatch$History" "next" "I") (List.mem_of_getElem? (i := 2) rfl)) rfl dX2_keep_34 ?_
    refine lv_iconst (v := 1) hx hb dX2_keep_37 (by decide) ?_
    refine lv_iadd hx hb dX2_keep_38 ?_
    refine lv_goto (tgt := 43) hx hb dX2_keep_39 (by decide) ?_
    refine pt_X2_1 (v := .int (c_next + (1 : Int32))) hx hb hts i_f_X2_keep_X2 hown hK hP hD hS 0 rfl (hts (.fieldLink RX2 17 "HushWatch$History" "next" "I") (List.mem_of_getElem? (i := 2) rfl)) rfl rfl (Nat.le_of_ble_eq_true rfl) dX2_keep_43 (fun H locs hP hD hS => ?_)
    replace hP : va_P E.1 vwCl [(a_, .inr (3, [.ref a_rows, .int (c_next + (1 : Int32)), .int c_held])), (a_rows, .inl (E.2.1, 3240, .inl f_2)), (a_o1, .inr (6, [.ref a_o1_row, .ref a_o1_partners, .int c_o1_askedCount, .int c_o1_outcome, .ref a_o1_share, .ref a_o1_leftOver])), (a_o1_row, .inl (E.2.1, 81, .inl c_o1_row))] H := hP
    replace hD : va_D A [(a_, .inr (3, [.ref a_rows, .int (c_next + (1 : Int32)), .int c_held])), (a_rows, .inl (E.2.1, 3240, .inl f_2)), (a_o1, .inr (6, [.ref a_o1_row, .ref a_o1_partners, .int c_o1_askedCount, .int c_o1_outcome, .ref a_o1_share, .ref a_o1_leftOver])), (a_o1_row, .inl (E.2.1, 81, .inl c_o1_row))] := hD
    refine lv_aload_n hx hb dX2_keep_46 rfl (lv_at hl 0 rfl) ?_
    refine lv_aload_n hx hb dX2_keep_47 rfl (lv_at hl 0 rfl) ?_
    refine gt_X2_2 (v := .int c_held) hx hb hts i_f_X2_keep_X2 hown hK hP 0 rfl (hts (.fieldLink RX2 21 "HushWatch$History" "held" "I") (List.mem_of_getElem? (i := 7) rfl)) rfl dX2_keep_48 ?_
    refine lv_iconst (v := 1) hx hb dX2_keep_51 (by decide) ?_
    refine lv_iadd hx hb dX2_keep_52 ?_
    refine lv_bipush (v := 40) hx hb dX2_keep_53 (by decide) ?_
    refine va_mmin hx hb (hml.trans hl.1.symm) hown (hts (.methodLink RX2 33 Lib.Math.min.name) (List.mem_of_getElem? (i := 8) rfl)) (hts (.static Lib.Math.min.name) (List.mem_of_getElem? (i := 9) rfl)) (hts (.initialized "java/lang/Math") (List.mem_of_getElem? (i := 10) rfl)) (hts (.code Lib.Math.min.name Lib.Math.min.code 2 (some .int)) (List.mem_of_getElem? (i := 11) rfl)) (Nat.le_of_ble_eq_true rfl) (Nat.le_of_ble_eq_true rfl) (Nat.le_of_ble_eq_true rfl) (Nat.le_of_ble_eq_true rfl) dX2_keep_55 ?_
    refine W.eq (g2 := F0 m 58 ls [.int (minF (c_held + (1 : Int32)) (40 : Int32)), .ref a_]) rfl ?_
    refine pt_X2_2 (v := .int (minF (c_held + (1 : Int32)) (40 : Int32))) hx hb hts i_f_X2_keep_X2 hown hK hP hD hS 0 rfl (hts (.fieldLink RX2 21 "HushWatch$History" "held" "I") (List.mem_of_getElem? (i := 7) rfl)) rfl rfl (Nat.le_of_ble_eq_true rfl) dX2_keep_58 (fun H locs hP hD hS => ?_)
    replace hP : va_P E.1 vwCl [(a_, .inr (3, [.ref a_rows, .int (c_next + (1 : Int32)), .int (minF (c_held + (1 : Int32)) (40 : Int32))])), (a_rows, .inl (E.2.1, 3240, .inl f_2)), (a_o1, .inr (6, [.ref a_o1_row, .ref a_o1_partners, .int c_o1_askedCount, .int c_o1_outcome, .ref a_o1_share, .ref a_o1_leftOver])), (a_o1_row, .inl (E.2.1, 81, .inl c_o1_row))] H := hP
    replace hD : va_D A [(a_, .inr (3, [.ref a_rows, .int (c_next + (1 : Int32)), .int (minF (c_held + (1 : Int32)) (40 : Int32))])), (a_rows, .inl (E.2.1, 3240, .inl f_2)), (a_o1, .inr (6, [.ref a_o1_row, .ref a_o1_partners, .int c_o1_askedCount, .int c_o1_outcome, .ref a_o1_share, .ref a_o1_leftOver])), (a_o1_row, .inl (E.2.1, 81, .inl c_o1_row))] := hD
    rw [hQ]
    have h9 := fin9 (P := fun u9 : (Nat → Int32) × Int32 × Int32 => va_P E.1 vwCl (w_X2_keep E a_ a_rows a_o1 a_o1_row a_o1_partners a_o1_share a_o1_leftOver u9.2.1 u9.2.2 u9.1 c_o1_askedCount c_o1_outcome c_o1_row) H ∧ va_D A (w_X2_keep E a_ a_rows a_o1 a_o1_row a_o1_partners a_o1_share a_o1_leftOver u9.2.1 u9.2.2 u9.1 c_o1_askedCount c_o1_outcome c_o1_row)) hF ⟨hP, hD⟩
    obtain ⟨hP9, hD9⟩ := h9
    exact W.vret hx hb hr (fun tt ht hW => ⟨⟨(), rfl, trivial, ht ▸ hP9, hD9⟩, hS.F ht⟩) hS.2.2 dX2_keep_61

def F_X4_areFull (c_held : Int32) : Option (Int32) :=
  if c_held < (4 : Int32) then some (0 : Int32) else some (1 : Int32)
abbrev w_X4_areFull (E : EE) (a_ a_steps a_counts : Nat) (c_held : Int32) : va_W := [(a_, .inr (5, [.ref a_steps, .ref a_counts, .int c_held]))]
def v_f_X4_areFull : List Cond := List.cons (.code yX4_areFull cX4_areFull 1 (some .boolean)) (HAppend.hAppend (α := List Cond) (β := List Cond) (γ := List Cond) [.fieldLink RX4 18 "HushWatch$Scripts" "held" "I"] (HAppend.hAppend (α := List Cond) (β := List Cond) (γ := List Cond) wsX40 []))
theorem gw_f_X4_areFull : v_f_X4_areFull.all goodWord = true := by decide +kernel
theorem i_f_X4_areFull_X4 : ∀ w ∈ wsX40, w ∈ v_f_X4_areFull := fun _ h => List.mem_cons_of_mem _ (List.mem_append_right _ (List.mem_append_left _ h))
theorem hd_X4_areFull : yX4_areFull.cls = RX4 ∧ yX4_areFull.cls ≠ "java/lang/invoke/MethodHandle" ∧ yX4_areFull.cls ≠ "java/lang/invoke/VarHandle" ∧ (parseMethodDescriptor yX4_areFull.desc).map (fun d => d.parameters.length) = some 0 := by decide +kernel
set_option maxHeartbeats 4000000 in
set_option maxRecDepth 100000 in
theorem f_X4_areFull (l : Launch) (E : EE) {a_ a_steps a_counts : Nat} {c_held : Int32} {rr : Int32} (hF : F_X4_areFull c_held = some rr) : Met l yX4_areFull v_f_X4_areFull (({ frames := 0, cells := 0, slots := 0, locals := 0 } : Room)) (va_Pc [.ref a_] (pP E (w_X4_areFull E a_ a_steps a_counts c_held))) (vp_Si (fun q : Int32 => q = rr ∧ (q = 0 ∨ q = 1))) 0 0 (fun _ => False) := by
  refine Met.ofW (cc := cX4_areFull) (maxL := 1) (ret := (some .boolean)) (by decide) rfl ?_
  intro p e s m args below meth c s₁ B hml hv
  obtain ⟨rfl, ⟨hK, hN⟩, hP⟩ := hv
  have hx := B.exec
  have hb := B.bytes
  have hr := B.returns
  have hts := atoms_spec (ws := v_f_X4_areFull) B.pre
  have hown : s.vm.findClass RX4 = some m.cls := own_of hd_X4_areFull.1 (findClass_of_methodNamed B.named)
  have hlocks : meth.locks = false := B.notSynchronized
  replace hP : va_P E.1 vwCl [(a_, .inr (5, [.ref a_steps, .ref a_counts, .int c_held]))] s.heap := hP
  have hl := lv_entry ([.ref a_]) (n := 1) (Nat.le_of_ble_eq_true rfl)
  rw [lg_entry_eq]
  generalize (lg_sl ([.ref a_]) ++ List.replicate (1 - (lg_sl ([.ref a_])).length) Slot.unset).toArray = ls at hl ⊢
  have hl : lv_has ls 1 [(0, .ref a_)] := hl
  obtain ⟨Q, hQ⟩ : ∃ Q : State → Prop, Q = MQ below (vp_Si (fun q : Int32 => q = rr ∧ (q = 0 ∨ q = 1))) #[Value.ref a_] s 0 0 (fun _ => False) := ⟨_, rfl⟩
  rw [← hQ]
  change W p l e ({ frames := 0, cells := 0, slots := 0, locals := 0 } : Room) s m #[Value.ref a_] below meth c s.heap [] 0 0 Q (F0 m 0 ls [])
  unfold F_X4_areFull at hF
  refine lv_aload_n hx hb dX4_areFull_0 rfl (lv_at hl 0 rfl) ?_
  refine gt_X4_2 (v := .int c_held) hx hb hts i_f_X4_areFull_X4 hown hK hP 0 rfl (hts (.fieldLink RX4 18 "HushWatch$Scripts" "held" "I") (List.mem_of_getElem? (i := 1) rfl)) rfl dX4_areFull_1 ?_
  refine lv_iconst (v := 4) hx hb dX4_areFull_4 (by decide) ?_
  refine lv_icmp_lt (tgt := 12) hx hb dX4_areFull_5 (by decide) (fun c_1 => ?_) (fun c_1 => ?_)
  ·
    replace hF := ip c_1 hF
    refine lv_iconst (v := 0) hx hb dX4_areFull_12 (by decide) ?_
    rw [hQ]
    obtain e9_0 := inj1 hF
    exact W.zret (v := (0 : Int32)) hx hb hr rfl (fun tt ht hW => ⟨_, rfl, ⟨e9_0, Or.inl rfl⟩, ht⟩) (fun _ h => by cases h) dX4_areFull_13
  ·
    replace hF := inn c_1 hF
    refine lv_iconst (v := 1) hx hb dX4_areFull_8 (by decide) ?_
    refine lv_goto (tgt := 13) hx hb dX4_areFull_9 (by decide) ?_
    rw [hQ]
    obtain e9_0 := inj1 hF
    exact W.zret (v := (1 : Int32)) hx hb hr rfl (fun tt ht hW => ⟨_, rfl, ⟨e9_0, Or.inr rfl⟩, ht⟩) (fun _ h => by cases h) dX4_areFull_13

def F_X4_has (p1 : Int32) (c_held : Int32) : Option (Int32) :=
  if p1 < (0 : Int32) then some (0 : Int32) else if c_held ≤ p1 then some (0 : Int32) else if (4 : Int32) ≤ p1 then some (0 : Int32) else some (1 : Int32)
abbrev w_X4_has (E : EE) (a_ a_steps a_counts : Nat) (c_held : Int32) : va_W := [(a_, .inr (5, [.ref a_steps, .ref a_counts, .int c_held]))]
def v_f_X4_has : List Cond := List.cons (.code yX4_has cX4_has 2 (some .boolean)) (HAppend.hAppend (α := List Cond) (β := List Cond) (γ := List Cond) [.fieldLink RX4 18 "HushWatch$Scripts" "held" "I"] (HAppend.hAppend (α := List Cond) (β := List Cond) (γ := List Cond) wsX40 []))
theorem gw_f_X4_has : v_f_X4_has.all goodWord = true := by decide +kernel
theorem i_f_X4_has_X4 : ∀ w ∈ wsX40, w ∈ v_f_X4_has := fun _ h => List.mem_cons_of_mem _ (List.mem_append_right _ (List.mem_append_left _ h))
theorem hd_X4_has : yX4_has.cls = RX4 ∧ yX4_has.cls ≠ "java/lang/invoke/MethodHandle" ∧ yX4_has.cls ≠ "java/lang/invoke/VarHandle" ∧ (parseMethodDescriptor yX4_has.desc).map (fun d => d.parameters.length) = some 1 := by decide +kernel
set_option maxHeartbeats 4000000 in
set_option maxRecDepth 100000 in
theorem f_X4_has (l : Launch) (E : EE) {a_ a_steps a_counts : Nat} {p1 : Int32} {c_held : Int32} {rr : Int32} (hF : F_X4_has p1 c_held = some rr) : Met l yX4_has v_f_X4_has (({ frames := 0, cells := 0, slots := 0, locals := 0 } : Room)) (va_Pc [.ref a_, .int p1] (pP E (w_X4_has E a_ a_steps a_counts c_held))) (vp_Si (fun q : Int32 => q = rr ∧ (q = 0 ∨ q = 1))) 0 0 (fun _ => False) := by
  refine Met.ofW (cc := cX4_has) (maxL := 2) (ret := (some .boolean)) (by decide) rfl ?_
  intro p e s m args below meth c s₁ B hml hv
  obtain ⟨rfl, ⟨hK, hN⟩, hP⟩ := hv
  have hx := B.exec
  have hb := B.bytes
  have hr := B.returns
  have hts := atoms_spec (ws := v_f_X4_has) B.pre
  have hown : s.vm.findClass RX4 = some m.cls := own_of hd_X4_has.1 (findClass_of_methodNamed B.named)
  have hlocks : meth.locks = false := B.notSynchronized
  replace hP : va_P E.1 vwCl [(a_, .inr (5, [.ref a_steps, .ref a_counts, .int c_held]))] s.heap := hP
  have hl := lv_entry ([.ref a_, .int p1]) (n := 2) (Nat.le_of_ble_eq_true rfl)
  rw [lg_entry_eq]
  generalize (lg_sl ([.ref a_, .int p1]) ++ List.replicate (2 - (lg_sl ([.ref a_, .int p1])).length) Slot.unset).toArray = ls at hl ⊢
  have hl : lv_has ls 2 [(0, .ref a_), (1, .int p1)] := hl
  obtain ⟨Q, hQ⟩ : ∃ Q : State → Prop, Q = MQ below (vp_Si (fun q : Int32 => q = rr ∧ (q = 0 ∨ q = 1))) #[Value.ref a_, Value.int p1] s 0 0 (fun _ => False) := ⟨_, rfl⟩
  rw [← hQ]
  change W p l e ({ frames := 0, cells := 0, slots := 0, locals := 0 } : Room) s m #[Value.ref a_, Value.int p1] below meth c s.heap [] 0 0 Q (F0 m 0 ls [])
  unfold F_X4_has at hF
  refine lv_iload_n hx hb dX4_has_0 rfl (lv_at hl 1 rfl) ?_
  refine lv_if_lt (tgt := 21) hx hb dX4_has_1 (by decide) (fun c_1 => ?_) (fun c_1 => ?_)
  ·
    replace hF := ip c_1 hF
    refine lv_iconst (v := 0) hx hb dX4_has_21 (by decide) ?_
    rw [hQ]
    obtain e9_0 := inj1 hF
    exact W.zret (v := (0 : Int32)) hx hb hr rfl (fun tt ht hW => ⟨_, rfl, ⟨e9_0, Or.inl rfl⟩, ht⟩) (fun _ h => by cases h) dX4_has_22
  ·
    replace hF := inn c_1 hF
    refine lv_iload_n hx hb dX4_has_4 rfl (lv_at hl 1 rfl) ?_
    refine lv_aload_n hx hb dX4_has_5 rfl (lv_at hl 0 rfl) ?_
    refine gt_X4_2 (v := .int c_held) hx hb hts i_f_X4_has_X4 hown hK hP 0 rfl (hts (.fieldLink RX4 18 "HushWatch$Scripts" "held" "I") (List.mem_of_getElem? (i := 1) rfl)) rfl dX4_has_6 ?_
    refine lv_icmp_ge (tgt := 21) hx hb dX4_has_9 (by decide) (fun c_2 => ?_) (fun c_2 => ?_)
    ·
      replace hF := ip c_2 hF
      refine lv_iconst (v := 0) hx hb dX4_has_21 (by decide) ?_
      rw [hQ]
      obtain e9_0 := inj1 hF
      exact W.zret (v := (0 : Int32)) hx hb hr rfl (fun tt ht hW => ⟨_, rfl, ⟨e9_0, Or.inl rfl⟩, ht⟩) (fun _ h => by cases h) dX4_has_22
    ·
      replace hF := inn c_2 hF
      refine lv_iload_n hx hb dX4_has_12 rfl (lv_at hl 1 rfl) ?_
      refine lv_iconst (v := 4) hx hb dX4_has_13 (by decide) ?_
      refine lv_icmp_ge (tgt := 21) hx hb dX4_has_14 (by decide) (fun c_3 => ?_) (fun c_3 => ?_)
      ·
        replace hF := ip c_3 hF
        refine lv_iconst (v := 0) hx hb dX4_has_21 (by decide) ?_
        rw [hQ]
        obtain e9_0 := inj1 hF
        exact W.zret (v := (0 : Int32)) hx hb hr rfl (fun tt ht hW => ⟨_, rfl, ⟨e9_0, Or.inl rfl⟩, ht⟩) (fun _ h => by cases h) dX4_has_22
      ·
        replace hF := inn c_3 hF
        refine lv_iconst (v := 1) hx hb dX4_has_17 (by decide) ?_
        refine lv_goto (tgt := 22) hx hb dX4_has_18 (by decide) ?_
        rw [hQ]
        obtain e9_0 := inj1 hF
        exact W.zret (v := (1 : Int32)) hx hb hr rfl (fun tt ht hW => ⟨_, rfl, ⟨e9_0, Or.inr rfl⟩, ht⟩) (fun _ h => by cases h) dX4_has_22

def F_X4_keep (c_steps : Nat → Int32) (c_counts : Nat → Int32) (c_held : Int32) (c_o1_steps : Nat → Int32) (c_o1_stepCount : Int32) : Option ((Nat → Int32) × (Nat → Int32) × Int32) :=
  bd1 (F_X4_areFull c_held) (fun r_1 => if r_1 = (0 : Int32) then cpF (0 : Int32) (c_held * (48 : Int32)) (48 : Int32) 48 192 (nmF (va_cpy c_o1_steps c_steps (0 : Int32).toNatClampNeg (c_held * (48 : Int32)).toNatClampNeg (48 : Int32).toNatClampNeg) (fun f_6 => ixF c_held 4 (nmF (upd c_counts c_held.toNatClampNeg c_o1_stepCount) (fun f_8 => some (f_6, f_8, c_held + (1 : Int32)))))) else some (c_steps, c_counts, c_held))
abbrev w_X4_keep (E : EE) (a_ a_steps a_counts a_o1 a_o1_tape a_o1_rules a_o1_places a_o1_steps : Nat) (c_held : Int32) (c_steps : Nat → Int32) (c_counts : Nat → Int32) (c_o1_siteCount : Int32) (c_o1_stepCount : Int32) (c_o1_seenRules : Int32) (c_o1_at : Int32) (c_o1_wordStart : Int32) (c_o1_number : Int32) (c_o1_failed : Int32) (c_o1_steps : Nat → Int32) : va_W := [(a_, .inr (5, [.ref a_steps, .ref a_counts, .int c_held])), (a_steps, .inl (E.2.1, 192, .inl c_steps)), (a_counts, .inl (E.2.1, 4, .inl c_counts)), (a_o1, .inr (4, [.ref a_o1_tape, .ref a_o1_rules, .ref a_o1_places, .ref a_o1_steps, .int c_o1_siteCount, .int c_o1_stepCount, .int c_o1_seenRules, .int c_o1_at, .int c_o1_wordStart, .int c_o1_number, .int c_o1_failed])), (a_o1_steps, .inl (E.2.1, 48, .inl c_o1_steps))]
def v_f_X4_keep : List Cond := List.cons (.code yX4_keep cX4_keep 2 none) (HAppend.hAppend (α := List Cond) (β := List Cond) (γ := List Cond) [.fieldLink RX4 11 "HushWatch$Scripts" "steps" "[I", .fieldLink RX4 18 "HushWatch$Scripts" "held" "I", .methodLink RX4 29 arraycopyName, .native arraycopyName, .static arraycopyName, .initialized "java/lang/System", .fieldLink RX4 15 "HushWatch$Scripts" "counts" "[I", .methodLink RX4 22 yX4_areFull, .instanceMethod yX4_areFull, .selects RX4 yX4_areFull yX4_areFull, .initialized RX4] (HAppend.hAppend (α := List Cond) (β := List Cond) (γ := List Cond) v_f_X4_areFull (HAppend.hAppend (α := List Cond) (β := List Cond) (γ := List Cond) wsX30 (HAppend.hAppend (α := List Cond) (β := List Cond) (γ := List Cond) wsX40 []))))
theorem gw_f_X4_keep : v_f_X4_keep.all goodWord = true := by decide +kernel
theorem i_f_X4_keep_X3 : ∀ w ∈ wsX30, w ∈ v_f_X4_keep := fun _ h => List.mem_cons_of_mem _ (List.mem_append_right _ (List.mem_append_right _ (List.mem_append_left _ h)))
theorem i_f_X4_keep_X4 : ∀ w ∈ wsX40, w ∈ v_f_X4_keep := fun _ h => List.mem_cons_of_mem _ (List.mem_append_right _ (List.mem_append_right _ (List.mem_append_right _ (List.mem_append_left _ h))))
theorem g_f_X4_keep_f_X4_areFull_22 : GoodIn v_f_X4_keep (wsV RX4 22 RX4 yX4_areFull v_f_X4_areFull) := goodIn_app (goodIn_of _ (by decide +kernel)) (goodIn_sub (fun _ h => List.mem_cons_of_mem _ (List.mem_append_right _ (List.mem_append_left _ h))) gw_f_X4_areFull)
theorem hd_X4_keep : yX4_keep.cls = RX4 ∧ yX4_keep.cls ≠ "java/lang/invoke/MethodHandle" ∧ yX4_keep.cls ≠ "java/lang/invoke/VarHandle" ∧ (parseMethodDescriptor yX4_keep.desc).map (fun d => d.parameters.length) = some 1 := by decide +kernel
set_option maxHeartbeats 4000000 in
set_option maxRecDepth 100000 in
theorem f_X4_keep (l : Launch) (E : EE) (sz : Nat) {a_ a_steps a_counts a_o1 a_o1_tape a_o1_rules a_o1_places a_o1_steps : Nat} {c_held : Int32} {c_steps : Nat → Int32} {c_counts : Nat → Int32} {c_o1_siteCount : Int32} {c_o1_stepCount : Int32} {c_o1_seenRules : Int32} {c_o1_at : Int32} {c_o1_wordStart : Int32} {c_o1_number : Int32} {c_o1_failed : Int32} {c_o1_steps : Nat → Int32} {n_steps : Nat → Int32} {n_counts : Nat → Int32} {n_held : Int32} (hF : F_X4_keep c_steps c_counts c_held c_o1_steps c_o1_stepCount = some (n_steps, n_counts, n_held)) : Met l yX4_keep v_f_X4_keep (({ frames := 1, cells := 0, slots := 0, locals := 60 } : Room)) (va_Pc [.ref a_, .ref a_o1] (pW E sz (w_X4_keep E a_ a_steps a_counts a_o1 a_o1_tape a_o1_rules a_o1_places a_o1_steps c_held c_steps c_counts c_o1_siteCount c_o1_stepCount c_o1_seenRules c_o1_at c_o1_wordStart c_o1_number c_o1_failed c_o1_steps))) (va_Qv (fun (_u : Unit) => True) (fun (_u : Unit) tt => va_P E.1 vwCl (w_X4_keep E a_ a_steps a_counts a_o1 a_o1_tape a_o1_rules a_o1_places a_o1_steps n_held n_steps n_counts c_o1_siteCount c_o1_stepCount c_o1_seenRules c_o1_at c_o1_wordStart c_o1_number c_o1_failed c_o1_steps) tt.heap ∧ va_D (va_A (w_X4_keep E a_ a_steps a_counts a_o1 a_o1_tape a_o1_rules a_o1_places a_o1_steps c_held c_steps c_counts c_o1_siteCount c_o1_stepCount c_o1_seenRules c_o1_at c_o1_wordStart c_o1_number c_o1_failed c_o1_steps) sz) (w_X4_keep E a_ a_steps a_counts a_o1 a_o1_tape a_o1_rules a_o1_places a_o1_steps n_held n_steps n_counts c_o1_siteCount c_o1_stepCount c_o1_seenRules c_o1_at c_o1_wordStart c_o1_number c_o1_failed c_o1_steps)) (va_A (w_X4_keep E a_ a_steps a_counts a_o1 a_o1_tape a_o1_rules a_o1_places a_o1_steps c_held c_steps c_counts c_o1_siteCount c_o1_stepCount c_o1_seenRules c_o1_at c_o1_wordStart c_o1_number c_o1_failed c_o1_steps) sz)) 0 0 (va_A (w_X4_keep E a_ a_steps a_counts a_o1 a_o1_tape a_o1_rules a_o1_places a_o1_steps c_held c_steps c_counts c_o1_siteCount c_o1_stepCount c_o1_seenRules c_o1_at c_o1_wordStart c_o1_number c_o1_failed c_o1_steps) sz) := by
  refine Met.ofW (cc := cX4_keep) (maxL := 2) (ret := none) (by decide) rfl ?_
  intro p e s m args below meth c s₁ B hml hv
  obtain ⟨rfl, hsz, ⟨hK, hN⟩, hP, hD0⟩ := hv
  have hx := B.exec
  have hb := B.bytes
  have hr := B.returns
  have hts := atoms_spec (ws := v_f_X4_keep) B.pre
  have hown : s.vm.findClass RX4 = some m.cls := own_of hd_X4_keep.1 (findClass_of_methodNamed B.named)
  have hlocks : meth.locks = false := B.notSynchronized
  subst hsz
  have hD := hD0.self (sz := s.heap.size)
  generalize hAe : va_A (w_X4_keep E a_ a_steps a_counts a_o1 a_o1_tape a_o1_rules a_o1_places a_o1_steps c_held c_steps c_counts c_o1_siteCount c_o1_stepCount c_o1_seenRules c_o1_at c_o1_wordStart c_o1_number c_o1_failed c_o1_steps) s.heap.size = A at hD ⊢
  have hA : ∀ q : Nat, s.heap.size ≤ q → A q := fun q h => by rw [← hAe]; exact Or.inr h
  have hS : va_S A s.heap s.heap [] := va_S.rf
  have hl := lv_entry ([.ref a_, .ref a_o1]) (n := 2) (Nat.le_of_ble_eq_true rfl)
  rw [lg_entry_eq]
  generalize (lg_sl ([.ref a_, .ref a_o1]) ++ List.replicate (2 - (lg_sl ([.ref a_, .ref a_o1])).length) Slot.unset).toArray = ls at hl ⊢
  have hl : lv_has ls 2 [(0, .ref a_), (1, .ref a_o1)] := hl
  obtain ⟨Q, hQ⟩ : ∃ Q : State → Prop, Q = MQ below (va_Qv (fun (_u : Unit) => True) (fun (_u : Unit) tt => va_P E.1 vwCl (w_X4_keep E a_ a_steps a_counts a_o1 a_o1_tape a_o1_rules a_o1_places a_o1_steps n_held n_steps n_counts c_o1_siteCount c_o1_stepCount c_o1_seenRules c_o1_at c_o1_wordStart c_o1_number c_o1_failed c_o1_steps) tt.heap ∧ va_D A (w_X4_keep E a_ a_steps a_counts a_o1 a_o1_tape a_o1_rules a_o1_places a_o1_steps n_held n_steps n_counts c_o1_siteCount c_o1_stepCount c_o1_seenRules c_o1_at c_o1_wordStart c_o1_number c_o1_failed c_o1_steps)) A) #[Value.ref a_, Value.ref a_o1] s 0 0 A := ⟨_, rfl⟩
  rw [← hQ]
  change W p l e ({ frames := 1, cells := 0, slots := 0, locals := 60 } : Room) s m #[Value.ref a_, Value.ref a_o1] below meth c s.heap [] 0 0 Q (F0 m 0 ls [])
  suffices hh9 : ∀ (H : Heap) (locs : List Loc), va_P E.1 vwCl (w_X4_keep E a_ a_steps a_counts a_o1 a_o1_tape a_o1_rules a_o1_places a_o1_steps c_held c_steps c_counts c_o1_siteCount c_o1_stepCount c_o1_seenRules c_o1_at c_o1_wordStart c_o1_number c_o1_failed c_o1_steps) H → va_D A (w_X4_keep E a_ a_steps a_counts a_o1 a_o1_tape a_o1_rules a_o1_places a_o1_steps c_held c_steps c_counts c_o1_siteCount c_o1_stepCount c_o1_seenRules c_o1_at c_o1_wordStart c_o1_number c_o1_failed c_o1_steps) → va_S A s.heap H locs → W p l e ({ frames := 1, cells := 0, slots := 0, locals := 60 } : Room) s m #[Value.ref a_, Value.ref a_o1] below meth c H locs 0 0 Q (F0 m 0 ls []) from hh9 s.heap [] hP hD hS
  clear hP hD hS
  intro H locs hP hD hS
  replace hP : va_P E.1 vwCl [(a_, .inr (5, [.ref a_steps, .ref a_counts, .int c_held])), (a_steps, .inl (E.2.1, 192, .inl c_steps)), (a_counts, .inl (E.2.1, 4, .inl c_counts)), (a_o1, .inr (4, [.ref a_o1_tape, .ref a_o1_rules, .ref a_o1_places, .ref a_o1_steps, .int c_o1_siteCount, .int c_o1_stepCount, .int c_o1_seenRules, .int c_o1_at, .int c_o1_wordStart, .int c_o1_number, .int c_o1_failed])), (a_o1_steps, .inl (E.2.1, 48, .inl c_o1_steps))] H := hP
  replace hD : va_D A [(a_, .inr (5, [.ref a_steps, .ref a_counts, .int c_held])), (a_steps, .inl (E.2.1, 192, .inl c_steps)), (a_counts, .inl (E.2.1, 4, .inl c_counts)), (a_o1, .inr (4, [.ref a_o1_tape, .ref a_o1_rules, .ref a_o1_places, .ref a_o1_steps, .int c_o1_siteCount, .int c_o1_stepCount, .int c_o1_seenRules, .int c_o1_at, .int c_o1_wordStart, .int c_o1_number, .int c_o1_failed])), (a_o1_steps, .inl (E.2.1, 48, .inl c_o1_steps))] := hD
  unfold F_X4_keep at hF
  refine lv_aload_n hx hb dX4_keep_0 rfl (lv_at hl 0 rfl) ?_
  replace hF := bd1_s hF
  obtain ⟨r_1, hc_2, hF⟩ := hF
  have hPc : va_P E.1 vwCl (w_X4_areFull E a_ a_steps a_counts c_held) H := hP.sub (ws' := [(a_, .inr (5, [.ref a_steps, .ref a_counts, .int c_held]))]) [0] rfl
  have hrc := va_recv hK hPc (ci := 5) (q0 := 0) rfl rfl
  refine pE_z (va_runV (As := []) (rest := [])  ⟨hx, hb, hml, hown, hts⟩ (f_X4_areFull l E (a_ := a_) (a_steps := a_steps) (a_counts := a_counts) (c_held := c_held) hc_2) (cwV 0 hts g_f_X4_keep_f_X4_areFull_22 rfl rfl rfl hd_X4_areFull ⟨Nat.le_of_ble_eq_true rfl, Nat.le_of_ble_eq_true rfl⟩) ⟨pP.blind, hrc, (pP.pre ⟨hK, hN⟩ hPc)⟩ rfl rfl hl.1 rfl (lv_room (Nat.le_of_ble_eq_true rfl)) dX4_keep_1 ⟨Nat.le_of_ble_eq_true rfl, Nat.le_of_ble_eq_true rfl⟩) (fun hb_3 => ?_)
  refine lv_if_ne (tgt := 51) hx hb dX4_keep_4 (by decide) (fun c_4 => ?_) (fun c_4 => ?_)
  ·
    replace hF := inn c_4 hF
    rw [hQ]
    have h9 := fin9 (P := fun u9 : (Nat → Int32) × (Nat → Int32) × Int32 => va_P E.1 vwCl (w_X4_keep E a_ a_steps a_counts a_o1 a_o1_tape a_o1_rules a_o1_places a_o1_steps u9.2.2 u9.1 u9.2.1 c_o1_siteCount c_o1_stepCount c_o1_seenRules c_o1_at c_o1_wordStart c_o1_number c_o1_failed c_o1_steps) H ∧ va_D A (w_X4_keep E a_ a_steps a_counts a_o1 a_o1_tape a_o1_rules a_o1_places a_o1_steps u9.2.2 u9.1 u9.2.1 c_o1_siteCount c_o1_stepCount c_o1_seenRules c_o1_at c_o1_wordStart c_o1_number c_o1_failed c_o1_steps)) hF ⟨hP, hD⟩
    obtain ⟨hP9, hD9⟩ := h9
    exact W.vret hx hb hr (fun tt ht hW => ⟨⟨(), rfl, trivial, ht ▸ hP9, hD9⟩, hS.F ht⟩) hS.2.2 dX4_keep_51
  ·
    replace hF := ip c_4 hF
    refine lv_aload_n hx hb dX4_keep_7 rfl (lv_at hl 1 rfl) ?_
    refine va_getN (D := E.1) (ci := 4) (v := .ref a_o1_steps) (C := RX3) (T := TX3) (N := 11) hx hb hts i_f_X4_keep_X3 hown hK hP 3 rfl rfl 3 (by decide) (nx hN 5 rfl) (fun _ h9 => h9) rfl dX4_keep_8 ?_
    refine lv_iconst (v := 0) hx hb dX4_keep_11 (by decide) ?_
    refine lv_aload_n hx hb dX4_keep_12 rfl (lv_at hl 0 rfl) ?_
    refine gt_X4_0 (v := .ref a_steps) hx hb hts i_f_X4_keep_X4 hown hK hP 0 rfl (hts (.fieldLink RX4 11 "HushWatch$Scripts" "steps" "[I") (List.mem_of_getElem? (i := 1) rfl)) rfl dX4_keep_13 ?_
    refine lv_aload_n hx hb dX4_keep_16 rfl (lv_at hl 0 rfl) ?_
    refine gt_X4_2 (v := .int c_held) hx hb hts i_f_X4_keep_X4 hown hK hP 0 rfl (hts (.fieldLink RX4 18 "HushWatch$Scripts" "held" "I") (List.mem_of_getElem? (i := 2) rfl)) rfl dX4_keep_17 ?_
    refine lv_bipush (v := 48) hx hb dX4_keep_20 (by decide) ?_
    refine lv_imul hx hb dX4_keep_22 ?_
    refine lv_bipush (v := 48) hx hb dX4_keep_23 (by decide) ?_
    replace hF := cp_s hF
    obtain ⟨hy_5, hF⟩ := hF
    refine va_copyi hx hb (hml.trans hl.1.symm) hown (hts (.methodLink RX4 29 arraycopyName) (List.mem_of_getElem? (i := 3) rfl)) (hts (.native arraycopyName) (List.mem_of_getElem? (i := 4) rfl)) (hts (.static arraycopyName) (List.mem_of_getElem? (i := 5) rfl)) (hts (.initialized "java/lang/System") (List.mem_of_getElem? (i := 6) rfl)) hK hP hD hS 4 1 0 0 rfl rfl rfl rfl rfl hy_5.1 hy_5.2.1 hy_5.2.2.1 hy_5.2.2.2.1 hy_5.2.2.2.2 (fun _ _ => rfl) (Nat.le_of_ble_eq_true rfl) (Nat.le_of_ble_eq_true rfl) dX4_keep_25 (fun H locs hP hD hS => ?_)
    replace hP : va_P E.1 vwCl [(a_, .inr (5, [.ref a_steps, .ref a_counts, .int c_held])), (a_steps, .inl (E.2.1, 192, .inl (va_cpy c_o1_steps c_steps (0 : Int32).toNatClampNeg (c_held * (48 : Int32)).toNatClampNeg (48 : Int32).toNatClampNeg))), (a_counts, .inl (E.2.1, 4, .inl c_counts)), (a_o1, .inr (4, [.ref a_o1_tape, .ref a_o1_rules, .ref a_o1_places, .ref a_o1_steps, .int c_o1_siteCount, .int c_o1_stepCount, .int c_o1_seenRules, .int c_o1_at, .int c_o1_wordStart, .int c_o1_number, .int c_o1_failed])), (a_o1_steps, .inl (E.2.1, 48, .inl c_o1_steps))] H := hP
    replace hD : va_D A [(a_, .inr (5, [.ref a_steps, .ref a_counts, .int c_held])), (a_steps, .inl (E.2.1, 192, .inl (va_cpy c_o1_steps c_steps (0 : Int32).toNatClampNeg (c_held * (48 : Int32)).toNatClampNeg (48 : Int32).toNatClampNeg))), (a_counts, .inl (E.2.1, 4, .inl c_counts)), (a_o1, .inr (4, [.ref a_o1_tape, .ref a_o1_rules, .ref a_o1_places, .ref a_o1_steps, .int c_o1_siteCount, .int c_o1_stepCount, .int c_o1_seenRules, .int c_o1_at, .int c_o1_wordStart, .int c_o1_number, .int c_o1_failed])), (a_o1_steps, .inl (E.2.1, 48, .inl c_o1_steps))] := hD
    replace hF := nm_s hF
    obtain ⟨f_6, hf_6, hF⟩ := hF
    rw [← hf_6] at hP hD
    refine lv_aload_n hx hb dX4_keep_28 rfl (lv_at hl 0 rfl) ?_
    refine gt_X4_1 (v := .ref a_counts) hx hb hts i_f_X4_keep_X4 hown hK hP 0 rfl (hts (.fieldLink RX4 15 "HushWatch$Scripts" "counts" "[I") (List.mem_of_getElem? (i := 7) rfl)) rfl dX4_keep_29 ?_
    refine lv_aload_n hx hb dX4_keep_32 rfl (lv_at hl 0 rfl) ?_
    refine gt_X4_2 (v := .int c_held) hx hb hts i_f_X4_keep_X4 hown hK hP 0 rfl (hts (.fieldLink RX4 18 "HushWatch$Scripts" "held" "I") (List.mem_of_getElem? (i := 2) rfl)) rfl dX4_keep_33 ?_
    refine lv_aload_n hx hb dX4_keep_36 rfl (lv_at hl 1 rfl) ?_
    refine va_getN (D := E.1) (ci := 4) (v := .int c_o1_stepCount) (C := RX3) (T := TX3) (N := 11) hx hb hts i_f_X4_keep_X3 hown hK hP 3 rfl rfl 5 (by decide) (nx hN 7 rfl) (fun _ h9 => h9) rfl dX4_keep_37 ?_
    replace hF := ix_s hF
    obtain ⟨hi_7, hF⟩ := hF
    refine va_iast hx hb hK hP hD hS 2 0 rfl rfl hi_7 dX4_keep_40 (fun H locs hP hD hS => ?_)
    replace hP : va_P E.1 vwCl [(a_, .inr (5, [.ref a_steps, .ref a_counts, .int c_held])), (a_steps, .inl (E.2.1, 192, .inl f_6)), (a_counts, .inl (E.2.1, 4, .inl (upd c_counts c_held.toNatClampNeg c_o1_stepCount))), (a_o1, .inr (4, [.ref a_o1_tape, .ref a_o1_rules, .ref a_o1_places, .ref a_o1_steps, .int c_o1_siteCount, .int c_o1_stepCount, .int c_o1_seenRules, .int c_o1_at, .int c_o1_wordStart, .int c_o1_number, .int c_o1_failed])), (a_o1_steps, .inl (E.2.1, 48, .inl c_o1_steps))] H := hP
    replace hD : va_D A [(a_, .inr (5, [.ref a_steps, .ref a_counts, .int c_held])), (a_steps, .inl (E.2.1, 192, .inl f_6)), (a_counts, .inl (E.2.1, 4, .inl (upd c_counts c_held.toNatClampNeg c_o1_stepCount))), (a_o1, .inr (4, [.ref a_o1_tape, .ref a_o1_rules, .ref a_o1_places, .ref a_o1_steps, .int c_o1_siteCount, .int c_o1_stepCount, .int c_o1_seenRules, .int c_o1_at, .int c_o1_wordStart, .int c_o1_number, .int c_o1_failed])), (a_o1_steps, .inl (E.2.1, 48, .inl c_o1_steps))] := hD
    replace hF := nm_s hF
    obtain ⟨f_8, hf_8, hF⟩ := hF
    rw [← hf_8] at hP hD
    refine lv_aload_n hx hb dX4_keep_41 rfl (lv_at hl 0 rfl) ?_
    refine lv_dup hx hb dX4_keep_42 rfl ?_
    refine gt_X4_2 (v := .int c_held) hx hb hts i_f_X4_keep_X4 hown hK hP 0 rfl (hts (.fieldLink RX4 18 "HushWatch$Scripts" "held" "I") (List.mem_of_getElem? (i := 2) rfl)) rfl dX4_keep_43 ?_
    refine lv_iconst (v := 1) hx hb dX4_keep_46 (by decide) ?_
    refine lv_iadd hx hb dX4_keep_47 ?_
    refine pt_X4_2 (v := .int (c_held + (1 : Int32))) hx hb hts i_f_X4_keep_X4 hown hK hP hD hS 0 rfl (hts (.fieldLink RX4 18 "HushWatch$Scripts" "held" "I") (List.mem_of_getElem? (i := 2) rfl)) rfl rfl (Nat.le_of_ble_eq_true rfl) dX4_keep_48 (fun H locs hP hD hS => ?_)
    replace hP : va_P E.1 vwCl [(a_, .inr (5, [.ref a_steps, .ref a_counts, .int (c_held + (1 : Int32))])), (a_steps, .inl (E.2.1, 192, .inl f_6)), (a_counts, .inl (E.2.1, 4, .inl f_8)), (a_o1, .inr (4, [.ref a_o1_tape, .ref a_o1_rules, .ref a_o1_places, .ref a_o1_steps, .int c_o1_siteCount, .int c_o1_stepCount, .int c_o1_seenRules, .int c_o1_at, .int c_o1_wordStart, .int c_o1_number, .int c_o1_failed])), (a_o1_steps, .inl (E.2.1, 48, .inl c_o1_steps))] H := hP
    replace hD : va_D A [(a_, .inr (5, [.ref a_steps, .ref a_counts, .int (c_held + (1 : Int32))])), (a_steps, .inl (E.2.1, 192, .inl f_6)), (a_counts, .inl (E.2.1, 4, .inl f_8)), (a_o1, .inr (4, [.ref a_o1_tape, .ref a_o1_rules, .ref a_o1_places, .ref a_o1_steps, .int c_o1_siteCount, .int c_o1_stepCount, .int c_o1_seenRules, .int c_o1_at, .int c_o1_wordStart, .int c_o1_number, .int c_o1_failed])), (a_o1_steps, .inl (E.2.1, 48, .inl c_o1_steps))] := hD
    rw [hQ]
    have h9 := fin9 (P := fun u9 : (Nat → Int32) × (Nat → Int32) × Int32 => va_P E.1 vwCl (w_X4_keep E a_ a_steps a_counts a_o1 a_o1_tape a_o1_rules a_o1_places a_o1_steps u9.2.2 u9.1 u9.2.1 c_o1_siteCount c_o1_stepCount c_o1_seenRules c_o1_at c_o1_wordStart c_o1_number c_o1_failed c_o1_steps) H ∧ va_D A (w_X4_keep E a_ a_steps a_counts a_o1 a_o1_tape a_o1_rules a_o1_places a_o1_steps u9.2.2 u9.1 u9.2.1 c_o1_siteCount c_o1_stepCount c_o1_seenRules c_o1_at c_o1_wordStart c_o1_number c_o1_failed c_o1_steps)) hF ⟨hP, hD⟩
    obtain ⟨hP9, hD9⟩ := h9
    exact W.vret hx hb hr (fun tt ht hW => ⟨⟨(), rfl, trivial, ht ▸ hP9, hD9⟩, hS.F ht⟩) hS.2.2 dX4_keep_51

def F_X4_stepsOf (p1 : Int32) (c_counts : Nat → Int32) (c_held : Int32) : Option (Int32) :=
  bd1 (F_X4_has p1 c_held) (fun r_1 => if r_1 = (0 : Int32) then some (0 : Int32) else ixF p1 4 (some (c_counts p1.toNatClampNeg)))
abbrev w_X4_stepsOf (E : EE) (a_ a_steps a_counts : Nat) (c_held : Int32) (c_counts : Nat → Int32) : va_W := [(a_, .inr (5, [.ref a_steps, .ref a_counts, .int c_held])), (a_counts, .inl (E.2.1, 4, .inl c_counts))]
def v_f_X4_stepsOf : List Cond := List.cons (.code yX4_stepsOf cX4_stepsOf 2 (some .int)) (HAppend.hAppend (α := List Cond) (β := List Cond) (γ := List Cond) [.fieldLink RX4 15 "HushWatch$Scripts" "counts" "[I", .methodLink RX4 38 yX4_has, .instanceMethod yX4_has, .selects RX4 yX4_has yX4_has, .initialized RX4] (HAppend.hAppend (α := List Cond) (β := List Cond) (γ := List Cond) v_f_X4_has (HAppend.hAppend (α := List Cond) (β := List Cond) (γ := List Cond) wsX40 [])))
theorem gw_f_X4_stepsOf : v_f_X4_stepsOf.all goodWord = true := by decide +kernel
theorem i_f_X4_stepsOf_X4 : ∀ w ∈ wsX40, w ∈ v_f_X4_stepsOf := fun _ h => List.mem_cons_of_mem _ (List.mem_append_right _ (List.mem_append_right _ (List.mem_append_left _ h)))
theorem g_f_X4_stepsOf_f_X4_has_38 : GoodIn v_f_X4_stepsOf (wsV RX4 38 RX4 yX4_has v_f_X4_has) := goodIn_app (goodIn_of _ (by decide +kernel)) (goodIn_sub (fun _ h => List.mem_cons_of_mem _ (List.mem_append_right _ (List.mem_append_left _ h))) gw_f_X4_has)
theorem hd_X4_stepsOf : yX4_stepsOf.cls = RX4 ∧ yX4_stepsOf.cls ≠ "java/lang/invoke/MethodHandle" ∧ yX4_stepsOf.cls ≠ "java/lang/invoke/VarHandle" ∧ (parseMethodDescriptor yX4_stepsOf.desc).map (fun d => d.parameters.length) = some 1 := by decide +kernel
set_option maxHeartbeats 4000000 in
set_option maxRecDepth 100000 in
theorem f_X4_stepsOf (l : Launch) (E : EE) {a_ a_steps a_counts : Nat} {p1 : Int32} {c_held : Int32} {c_counts : Nat → Int32} {rr : Int32} (hF : F_X4_stepsOf p1 c_counts c_held = some rr) : Met l yX4_stepsOf v_f_X4_stepsOf (({ frames := 1, cells := 0, slots := 0, locals := 21 } : Room)) (va_Pc [.ref a_, .int p1] (pP E (w_X4_stepsOf E a_ a_steps a_counts c_held c_counts))) (vp_Si (fun q : Int32 => q = rr)) 0 0 (fun _ => False) := by
  refine Met.ofW (cc := cX4_stepsOf) (maxL := 2) (ret := (some .int)) (by decide) rfl ?_
  intro p e s m args below meth c s₁ B hml hv
  obtain ⟨rfl, ⟨hK, hN⟩, hP⟩ := hv
  have hx := B.exec
  have hb := B.bytes
  have hr := B.returns
  have hts := atoms_spec (ws := v_f_X4_stepsOf) B.pre
  have hown : s.vm.findClass RX4 = some m.cls := own_of hd_X4_stepsOf.1 (findClass_of_methodNamed B.named)
  have hlocks : meth.locks = false := B.notSynchronized
  replace hP : va_P E.1 vwCl [(a_, .inr (5, [.ref a_steps, .ref a_counts, .int c_held])), (a_counts, .inl (E.2.1, 4, .inl c_counts))] s.heap := hP
  have hl := lv_entry ([.ref a_, .int p1]) (n := 2) (Nat.le_of_ble_eq_true rfl)
  rw [lg_entry_eq]
  generalize (lg_sl ([.ref a_, .int p1]) ++ List.replicate (2 - (lg_sl ([.ref a_, .int p1])).length) Slot.unset).toArray = ls at hl ⊢
  have hl : lv_has ls 2 [(0, .ref a_), (1, .int p1)] := hl
  obtain ⟨Q, hQ⟩ : ∃ Q : State → Prop, Q = MQ below (vp_Si (fun q : Int32 => q = rr)) #[Value.ref a_, Value.int p1] s 0 0 (fun _ => False) := ⟨_, rfl⟩
  rw [← hQ]
  change W p l e ({ frames := 1, cells := 0, slots := 0, locals := 21 } : Room) s m #[Value.ref a_, Value.int p1] below meth c s.heap [] 0 0 Q (F0 m 0 ls [])
  unfold F_X4_stepsOf at hF
  refine lv_aload_n hx hb dX4_stepsOf_0 rfl (lv_at hl 0 rfl) ?_
  refine lv_iload_n hx hb dX4_stepsOf_1 rfl (lv_at hl 1 rfl) ?_
  replace hF := bd1_s hF
  obtain ⟨r_1, hc_2, hF⟩ := hF
  have hPc : va_P E.1 vwCl (w_X4_has E a_ a_steps a_counts c_held) s.heap := hP.sub (ws' := [(a_, .inr (5, [.ref a_steps, .ref a_counts, .int c_held]))]) [0] rfl
  have hrc := va_recv hK hPc (ci := 5) (q0 := 0) rfl rfl
  refine pE_z (va_runV (As := [.int p1]) (rest := [])  ⟨hx, hb, hml, hown, hts⟩ (f_X4_has l E (a_ := a_) (a_steps := a_steps) (a_counts := a_counts) (p1 := p1) (c_held := c_held) hc_2) (cwV 1 hts g_f_X4_stepsOf_f_X4_has_38 rfl rfl rfl hd_X4_has ⟨Nat.le_of_ble_eq_true rfl, Nat.le_of_ble_eq_true rfl⟩) ⟨pP.blind, hrc, (pP.pre ⟨hK, hN⟩ hPc)⟩ rfl rfl hl.1 rfl (lv_room (Nat.le_of_ble_eq_true rfl)) dX4_stepsOf_2 ⟨Nat.le_of_ble_eq_true rfl, Nat.le_of_ble_eq_true rfl⟩) (fun hb_3 => ?_)
  refine lv_if_eq (tgt := 17) hx hb dX4_stepsOf_5 (by decide) (fun c_4 => ?_) (fun c_4 => ?_)
  ·
    replace hF := ip c_4 hF
    refine lv_iconst (v := 0) hx hb dX4_stepsOf_17 (by decide) ?_
    rw [hQ]
    obtain e9_0 := inj1 hF
    exact W.iret (v := (0 : Int32)) hx hb hr (fun tt ht hW => ⟨_, rfl, e9_0, ht⟩) (fun _ h => by cases h) dX4_stepsOf_18
  ·
    replace hF := inn c_4 hF
    refine lv_aload_n hx hb dX4_stepsOf_8 rfl (lv_at hl 0 rfl) ?_
    refine gt_X4_1 (v := .ref a_counts) hx hb hts i_f_X4_stepsOf_X4 hown hK hP 0 rfl (hts (.fieldLink RX4 15 "HushWatch$Scripts" "counts" "[I") (List.mem_of_getElem? (i := 1) rfl)) rfl dX4_stepsOf_9 ?_
    refine lv_iload_n hx hb dX4_stepsOf_12 rfl (lv_at hl 1 rfl) ?_
    replace hF := ix_s hF
    obtain ⟨hi_5, hF⟩ := hF
    refine va_iald hx hb hK hP 1 0 rfl rfl hi_5 dX4_stepsOf_13 ?_
    refine lv_goto (tgt := 18) hx hb dX4_stepsOf_14 (by decide) ?_
    rw [hQ]
    obtain e9_0 := inj1 hF
    exact W.iret (v := c_counts p1.toNatClampNeg) hx hb hr (fun tt ht hW => ⟨_, rfl, e9_0, ht⟩) (fun _ h => by cases h) dX4_stepsOf_18

def F_X4_read (p1 : Int32) (p2 : Int32) (p3 : Int32) (c_steps : Nat → Int32) (c_counts : Nat → Int32) (c_held : Int32) : Option (Int32) :=
  if p2 < (0 : Int32) then some (-100000000 : Int32) else bd1 (F_X4_stepsOf p1 c_counts c_held) (fun r_2 => if r_2 ≤ p2 then some (-100000000 : Int32) else if p3 < (0 : Int32) then some (-100000000 : Int32) else if p3 < (4 : Int32) then ixF (((p1 * (48 : Int32)) + (p2 * (4 : Int32))) + p3) 192 (some (c_steps (((p1 * (48 : Int32)) + (p2 * (4 : Int32))) + p3).toNatClampNeg)) else some (-100000000 : Int32))
abbrev w_X4_read (E : EE) (a_ a_steps a_counts : Nat) (c_held : Int32) (c_steps : Nat → Int32) (c_counts : Nat → Int32) : va_W := [(a_, .inr (5, [.ref a_steps, .ref a_counts, .int c_held])), (a_steps, .inl (E.2.1, 192, .inl c_steps)), (a_counts, .inl (E.2.1, 4, .inl c_counts))]
def v_f_X4_read : List Cond := List.cons (.code yX4_read cX4_read 4 (some .int)) (HAppend.hAppend (α := List Cond) (β := List Cond) (γ := List Cond) [.constant RX4 46 (-100000000), .fieldLink RX4 11 "HushWatch$Scripts" "steps" "[I", .methodLink RX4 42 yX4_stepsOf, .instanceMethod yX4_stepsOf, .selects RX4 yX4_stepsOf yX4_stepsOf, .initialized RX4] (HAppend.hAppend (α := List Cond) (β := List Cond) (γ := List Cond) v_f_X4_stepsOf (HAppend.hAppend (α := List Cond) (β := List Cond) (γ := List Cond) wsX40 [])))
theorem gw_f_X4_read : v_f_X4_read.all goodWord = true := by decide +kernel
theorem i_f_X4_read_X4 : ∀ w ∈ wsX40, w ∈ v_f_X4_read := fun _ h => List.mem_cons_of_mem _ (List.mem_append_right _ (List.mem_append_right _ (List.mem_append_left _ h)))
theorem g_f_X4_read_f_X4_stepsOf_42 : GoodIn v_f_X4_read (wsV RX4 42 RX4 yX4_stepsOf v_f_X4_stepsOf) := goodIn_app (goodIn_of _ (by decide +kernel)) (goodIn_sub (fun _ h => List.mem_cons_of_mem _ (List.mem_append_right _ (List.mem_append_left _ h))) gw_f_X4_stepsOf)
theorem hd_X4_read : yX4_read.cls = RX4 ∧ yX4_read.cls ≠ "java/lang/invoke/MethodHandle" ∧ yX4_read.cls ≠ "java/lang/invoke/VarHandle" ∧ (parseMethodDescriptor yX4_read.desc).map (fun d => d.parameters.length) = some 3 := by decide +kernel
set_option maxHeartbeats 4000000 in
set_option maxRecDepth 100000 in
theorem f_X4_read (l : Launch) (E : EE) {a_ a_steps a_counts : Nat} {p1 : Int32} {p2 : Int32} {p3 : Int32} {c_held : Int32} {c_steps : Nat → Int32} {c_counts : Nat → Int32} {rr : Int32} (hF : F_X4_read p1 p2 p3 c_steps c_counts c_held = some rr) : Met l yX4_read v_f_X4_read (({ frames := 2, cells := 0, slots := 0, locals := 42 } : Room)) (va_Pc [.ref a_, .int p1, .int p2, .int p3] (pP E (w_X4_read E a_ a_steps a_counts c_held c_steps c_counts))) (vp_Si (fun q : Int32 => q = rr)) 0 0 (fun _ => False) := by
  refine Met.ofW (cc := cX4_read) (maxL := 4) (ret := (some .int)) (by decide) rfl ?_
  intro p e s m args below meth c s₁ B hml hv
  obtain ⟨rfl, ⟨hK, hN⟩, hP⟩ := hv
  have hx := B.exec
  have hb := B.bytes
  have hr := B.returns
  have hts := atoms_spec (ws := v_f_X4_read) B.pre
  have hown : s.vm.findClass RX4 = some m.cls := own_of hd_X4_read.1 (findClass_of_methodNamed B.named)
  have hlocks : meth.locks = false := B.notSynchronized
  replace hP : va_P E.1 vwCl [(a_, .inr (5, [.ref a_steps, .ref a_counts, .int c_held])), (a_steps, .inl (E.2.1, 192, .inl c_steps)), (a_counts, .inl (E.2.1, 4, .inl c_counts))] s.heap := hP
  have hl := lv_entry ([.ref a_, .int p1, .int p2, .int p3]) (n := 4) (Nat.le_of_ble_eq_true rfl)
  rw [lg_entry_eq]
  generalize (lg_sl ([.ref a_, .int p1, .int p2, .int p3]) ++ List.replicate (4 - (lg_sl ([.ref a_, .int p1, .int p2, .int p3])).length) Slot.unset).toArray = ls at hl ⊢
  have hl : lv_has ls 4 [(0, .ref a_), (1, .int p1), (2, .int p2), (3, .int p3)] := hl
  obtain ⟨Q, hQ⟩ : ∃ Q : State → Prop, Q = MQ below (vp_Si (fun q : Int32 => q = rr)) #[Value.ref a_, Value.int p1, Value.int p2, Value.int p3] s 0 0 (fun _ => False) := ⟨_, rfl⟩
  rw [← hQ]
  change W p l e ({ frames := 2, cells := 0, slots := 0, locals := 42 } : Room) s m #[Value.ref a_, Value.int p1, Value.int p2, Value.int p3] below meth c s.heap [] 0 0 Q (F0 m 0 ls [])
  unfold F_X4_read at hF
  refine lv_iload_n hx hb dX4_read_0 rfl (lv_at hl 2 rfl) ?_
  refine lv_if_lt (tgt := 22) hx hb dX4_read_1 (by decide) (fun c_1 => ?_) (fun c_1 => ?_)
  ·
    replace hF := ip c_1 hF
    refine lv_ldc (v := -100000000) hx hb hown (hts (.constant RX4 46 (-100000000)) (List.mem_of_getElem? (i := 1) rfl)) dX4_read_22 ?_
    rw [hQ]
    obtain e9_0 := inj1 hF
    exact W.iret (v := (-100000000 : Int32)) hx hb hr (fun tt ht hW => ⟨_, rfl, e9_0, ht⟩) (fun _ h => by cases h) dX4_read_24
  ·
    replace hF := inn c_1 hF
    refine lv_iload_n hx hb dX4_read_4 rfl (lv_at hl 2 rfl) ?_
    refine lv_aload_n hx hb dX4_read_5 rfl (lv_at hl 0 rfl) ?_
    refine lv_iload_n hx hb dX4_read_6 rfl (lv_at hl 1 rfl) ?_
    replace hF := bd1_s hF
    obtain ⟨r_2, hc_3, hF⟩ := hF
    have hPc : va_P E.1 vwCl (w_X4_stepsOf E a_ a_steps a_counts c_held c_counts) s.heap := hP.sub (ws' := [(a_, .inr (5, [.ref a_steps, .ref a_counts, .int c_held])), (a_counts, .inl (E.2.1, 4, .inl c_counts))]) [0, 2] rfl
    have hrc := va_recv hK hPc (ci := 5) (q0 := 0) rfl rfl
    refine pE_i (va_runV (As := [.int p1]) (rest := [.int p2])  ⟨hx, hb, hml, hown, hts⟩ (f_X4_stepsOf l E (a_ := a_) (a_steps := a_steps) (a_counts := a_counts) (p1 := p1) (c_held := c_held) (c_counts := c_counts) hc_3) (cwV 1 hts g_f_X4_read_f_X4_stepsOf_42 rfl rfl rfl hd_X4_stepsOf ⟨Nat.le_of_ble_eq_true rfl, Nat.le_of_ble_eq_true rfl⟩) ⟨pP.blind, hrc, (pP.pre ⟨hK, hN⟩ hPc)⟩ rfl rfl hl.1 rfl (lv_room (Nat.le_of_ble_eq_true rfl)) dX4_read_7 ⟨Nat.le_of_ble_eq_true rfl, Nat.le_of_ble_eq_true rfl⟩) ?_
    refine lv_icmp_ge (tgt := 22) hx hb dX4_read_10 (by decide) (fun c_4 => ?_) (fun c_4 => ?_)
    ·
      replace hF := ip c_4 hF
      refine lv_ldc (v := -100000000) hx hb hown (hts (.constant RX4 46 (-100000000)) (List.mem_of_getElem? (i := 1) rfl)) dX4_read_22 ?_
      rw [hQ]
      obtain e9_0 := inj1 hF
      exact W.iret (v := (-100000000 : Int32)) hx hb hr (fun tt ht hW => ⟨_, rfl, e9_0, ht⟩) (fun _ h => by cases h) dX4_read_24
    ·
      replace hF := inn c_4 hF
      refine lv_iload_n hx hb dX4_read_13 rfl (lv_at hl 3 rfl) ?_
      refine lv_if_lt (tgt := 22) hx hb dX4_read_14 (by decide) (fun c_5 => ?_) (fun c_5 => ?_)
      ·
        replace hF := ip c_5 hF
        refine lv_ldc (v := -100000000) hx hb hown (hts (.constant RX4 46 (-100000000)) (List.mem_of_getElem? (i := 1) rfl)) dX4_read_22 ?_
        rw [hQ]
        obtain e9_0 := inj1 hF
        exact W.iret (v := (-100000000 : Int32)) hx hb hr (fun tt ht hW => ⟨_, rfl, e9_0, ht⟩) (fun _ h => by cases h) dX4_read_24
      ·
        replace hF := inn c_5 hF
        refine lv_iload_n hx hb dX4_read_17 rfl (lv_at hl 3 rfl) ?_
        refine lv_iconst (v := 4) hx hb dX4_read_18 (by decide) ?_
        refine lv_icmp_lt (tgt := 25) hx hb dX4_read_19 (by decide) (fun c_6 => ?_) (fun c_6 => ?_)
        ·
          replace hF := ip c_6 hF
          refine lv_aload_n hx hb dX4_read_25 rfl (lv_at hl 0 rfl) ?_
          refine gt_X4_0 (v := .ref a_steps) hx hb hts i_f_X4_read_X4 hown hK hP 0 rfl (hts (.fieldLink RX4 11 "HushWatch$Scripts" "steps" "[I") (List.mem_of_getElem? (i := 2) rfl)) rfl dX4_read_26 ?_
          refine lv_iload_n hx hb dX4_read_29 rfl (lv_at hl 1 rfl) ?_
          refine lv_bipush (v := 48) hx hb dX4_read_30 (by decide) ?_
          refine lv_imul hx hb dX4_read_32 ?_
          refine lv_iload_n hx hb dX4_read_33 rfl (lv_at hl 2 rfl) ?_
          refine lv_iconst (v := 4) hx hb dX4_read_34 (by decide) ?_
          refine lv_imul hx hb dX4_read_35 ?_
          refine lv_iadd hx hb dX4_read_36 ?_
          refine lv_iload_n hx hb dX4_read_37 rfl (lv_at hl 3 rfl) ?_
          refine lv_iadd hx hb dX4_read_38 ?_
          replace hF := ix_s hF
          obtain ⟨hi_7, hF⟩ := hF
          refine va_iald hx hb hK hP 1 0 rfl rfl hi_7 dX4_read_39 ?_
          rw [hQ]
          obtain e9_0 := inj1 hF
          exact W.iret (v := c_steps (((p1 * (48 : Int32)) + (p2 * (4 : Int32))) + p3).toNatClampNeg) hx hb hr (fun tt ht hW => ⟨_, rfl, e9_0, ht⟩) (fun _ h => by cases h) dX4_read_40
        ·
          replace hF := inn c_6 hF
          refine lv_ldc (v := -100000000) hx hb hown (hts (.constant RX4 46 (-100000000)) (List.mem_of_getElem? (i := 1) rfl)) dX4_read_22 ?_
          rw [hQ]
          obtain e9_0 := inj1 hF
          exact W.iret (v := (-100000000 : Int32)) hx hb hr (fun tt ht hW => ⟨_, rfl, e9_0, ht⟩) (fun _ h => by cases h) dX4_read_24

def F_X4_sortOf (p1 : Int32) (p2 : Int32) (c_steps : Nat → Int32) (c_counts : Nat → Int32) (c_held : Int32) : Option (Int32) :=
  bd1 (F_X4_read p1 p2 (0 : Int32) c_steps c_counts c_held) (fun r_1 => if r_1 < (0 : Int32) then some (-1 : Int32) else if (7 : Int32) ≤ r_1 then some (-1 : Int32) else ixF r_1 7 (some (sosF r_1.toNatClampNeg)))
abbrev w_X4_sortOf (E : EE) (a_ a_steps a_counts : Nat) (c_held : Int32) (c_steps : Nat → Int32) (c_counts : Nat → Int32) : va_W := [(a_, .inr (5, [.ref a_steps, .ref a_counts, .int c_held])), (a_steps, .inl (E.2.1, 192, .inl c_steps)), (a_counts, .inl (E.2.1, 4, .inl c_counts))]
def v_f_X4_sortOf : List Cond := List.cons (.code yX4_sortOf cX4_sortOf 4 (some .int)) (HAppend.hAppend (α := List Cond) (β := List Cond) (γ := List Cond) [.methodLink RX4 47 yX4_read, .instanceMethod yX4_read, .selects RX4 yX4_read yX4_read, .initialized RX4] (HAppend.hAppend (α := List Cond) (β := List Cond) (γ := List Cond) v_f_X4_read []))
theorem gw_f_X4_sortOf : v_f_X4_sortOf.all goodWord = true := by decide +kernel
theorem g_f_X4_sortOf_f_X4_read_47 : GoodIn v_f_X4_sortOf (wsV RX4 47 RX4 yX4_read v_f_X4_read) := goodIn_app (goodIn_of _ (by decide +kernel)) (goodIn_sub (fun _ h => List.mem_cons_of_mem _ (List.mem_append_right _ (List.mem_append_left _ h))) gw_f_X4_read)
theorem hd_X4_sortOf : yX4_sortOf.cls = RX4 ∧ yX4_sortOf.cls ≠ "java/lang/invoke/MethodHandle" ∧ yX4_sortOf.cls ≠ "java/lang/invoke/VarHandle" ∧ (parseMethodDescriptor yX4_sortOf.desc).map (fun d => d.parameters.length) = some 2 := by decide +kernel
set_option maxHeartbeats 4000000 in
set_option maxRecDepth 100000 in
theorem f_X4_sortOf (l : Launch) (E : EE) (z9 : Nat → Nat) {a_ a_steps a_counts : Nat} {p1 : Int32} {p2 : Int32} {c_held : Int32} {c_steps : Nat → Int32} {c_counts : Nat → Int32} {rr : Int32} (hF : F_X4_sortOf p1 p2 c_steps c_counts c_held = some rr) : Met l yX4_sortOf v_f_X4_sortOf (({ frames := 3, cells := 0, slots := 0, locals := 65 } : Room)) (va_Pc [.ref a_, .int p1, .int p2] (qPZ E z9 (w_X4_sortOf E a_ a_steps a_counts c_held c_steps c_counts))) (vp_Si (fun q : Int32 => q = rr)) 0 0 (fun _ => False) := by
  refine Met.ofW (cc := cX4_sortOf) (maxL := 4) (ret := (some .int)) (by decide) rfl ?_
  intro p e s m args below meth c s₁ B hml hv
  obtain ⟨rfl, ⟨hK, hN⟩, hP, hZ⟩ := hv
  have hx := B.exec
  have hb := B.bytes
  have hr := B.returns
  have hts := atoms_spec (ws := v_f_X4_sortOf) B.pre
  have hown : s.vm.findClass RX4 = some m.cls := own_of hd_X4_sortOf.1 (findClass_of_methodNamed B.named)
  have hlocks : meth.locks = false := B.notSynchronized
  replace hP : va_P E.1 vwCl [(a_, .inr (5, [.ref a_steps, .ref a_counts, .int c_held])), (a_steps, .inl (E.2.1, 192, .inl c_steps)), (a_counts, .inl (E.2.1, 4, .inl c_counts))] s.heap := hP
  have hl := lv_entry ([.ref a_, .int p1, .int p2]) (n := 4) (Nat.le_of_ble_eq_true rfl)
  rw [lg_entry_eq]
  generalize (lg_sl ([.ref a_, .int p1, .int p2]) ++ List.replicate (4 - (lg_sl ([.ref a_, .int p1, .int p2])).length) Slot.unset).toArray = ls at hl ⊢
  have hl : lv_has ls 4 [(0, .ref a_), (1, .int p1), (2, .int p2)] := hl
  obtain ⟨Q, hQ⟩ : ∃ Q : State → Prop, Q = MQ below (vp_Si (fun q : Int32 => q = rr)) #[Value.ref a_, Value.int p1, Value.int p2] s 0 0 (fun _ => False) := ⟨_, rfl⟩
  rw [← hQ]
  change W p l e ({ frames := 3, cells := 0, slots := 0, locals := 65 } : Room) s m #[Value.ref a_, Value.int p1, Value.int p2] below meth c s.heap [] 0 0 Q (F0 m 0 ls [])
  unfold F_X4_sortOf at hF
  refine lv_aload_n hx hb dX4_sortOf_0 rfl (lv_at hl 0 rfl) ?_
  refine lv_iload_n hx hb dX4_sortOf_1 rfl (lv_at hl 1 rfl) ?_
  refine lv_iload_n hx hb dX4_sortOf_2 rfl (lv_at hl 2 rfl) ?_
  refine lv_iconst (v := 0) hx hb dX4_sortOf_3 (by decide) ?_
  replace hF := bd1_s hF
  obtain ⟨r_1, hc_2, hF⟩ := hF
  have hPc : va_P E.1 vwCl (w_X4_read E a_ a_steps a_counts c_held c_steps c_counts) s.heap := hP.sub (ws' := [(a_, .inr (5, [.ref a_steps, .ref a_counts, .int c_held])), (a_steps, .inl (E.2.1, 192, .inl c_steps)), (a_counts, .inl (E.2.1, 4, .inl c_counts))]) [0, 1, 2] rfl
  have hrc := va_recv hK hPc (ci := 5) (q0 := 0) rfl rfl
  refine pE_i (va_runV (As := [.int p1, .int p2, .int (0 : Int32)]) (rest := [])  ⟨hx, hb, hml, hown, hts⟩ (f_X4_read l E (a_ := a_) (a_steps := a_steps) (a_counts := a_counts) (p1 := p1) (p2 := p2) (p3 := (0 : Int32)) (c_held := c_held) (c_steps := c_steps) (c_counts := c_counts) hc_2) (cwV 3 hts g_f_X4_sortOf_f_X4_read_47 rfl rfl rfl hd_X4_read ⟨Nat.le_of_ble_eq_true rfl, Nat.le_of_ble_eq_true rfl⟩) ⟨pP.blind, hrc, (pP.pre ⟨hK, hN⟩ hPc)⟩ rfl rfl hl.1 rfl (lv_room (Nat.le_of_ble_eq_true rfl)) dX4_sortOf_4 ⟨Nat.le_of_ble_eq_true rfl, Nat.le_of_ble_eq_true rfl⟩) ?_
  refine lv_istore_n (lv' := [(3, .int r_1), (0, .ref a_), (1, .int p1), (2, .int p2)]) hx hb dX4_sortOf_7 rfl hl (by decide) rfl (fun ls hl => ?_)
  refine lv_iload_n hx hb dX4_sortOf_8 rfl (lv_at hl 0 rfl) ?_
  refine lv_if_lt (tgt := 28) hx hb dX4_sortOf_9 (by decide) (fun c_3 => ?_) (fun c_3 => ?_)
  ·
    replace hF := ip c_3 hF
    refine lv_iconst (v := -1) hx hb dX4_sortOf_28 (by decide) ?_
    rw [hQ]
    obtain e9_0 := inj1 hF
    exact W.iret (v := (-1 : Int32)) hx hb hr (fun tt ht hW => ⟨_, rfl, e9_0, ht⟩) (fun _ h => by cases h) dX4_sortOf_29
  ·
    replace hF := inn c_3 hF
    refine lv_iload_n hx hb dX4_sortOf_12 rfl (lv_at hl 0 rfl) ?_
    refine va_getsN hx hb hZ.2.1.2.2.1 (va_S.rf) hown (nx hN 27 rfl) (fun _ h9 => h9) dX4_sortOf_13 ?_
    refine va_tlen (v := 7) hx hb (hZ.2.1.2.2.2) (va_S.rf) (by decide) dX4_sortOf_16 ?_
    refine lv_icmp_ge (tgt := 28) hx hb dX4_sortOf_17 (by decide) (fun c_4 => ?_) (fun c_4 => ?_)
    ·
      replace hF := ip c_4 hF
      refine lv_iconst (v := -1) hx hb dX4_sortOf_28 (by decide) ?_
      rw [hQ]
      obtain e9_0 := inj1 hF
      exact W.iret (v := (-1 : Int32)) hx hb hr (fun tt ht hW => ⟨_, rfl, e9_0, ht⟩) (fun _ h => by cases h) dX4_sortOf_29
    ·
      replace hF := inn c_4 hF
      refine va_getsN hx hb hZ.2.1.2.2.1 (va_S.rf) hown (nx hN 27 rfl) (fun _ h9 => h9) dX4_sortOf_20 ?_
      refine lv_iload_n hx hb dX4_sortOf_23 rfl (lv_at hl 0 rfl) ?_
      replace hF := ix_s hF
      obtain ⟨hi_5, hF⟩ := hF
      refine va_ti (v := .int (sosF r_1.toNatClampNeg)) hx hb (hZ.2.1.2.2.2) (va_S.rf) hi_5 rfl dX4_sortOf_24 ?_
      refine lv_goto (tgt := 29) hx hb dX4_sortOf_25 (by decide) ?_
      rw [hQ]
      obtain e9_0 := inj1 hF
      exact W.iret (v := (sosF r_1.toNatClampNeg)) hx hb hr (fun tt ht hW => ⟨_, rfl, e9_0, ht⟩) (fun _ h => by cases h) dX4_sortOf_29
