-- 26.cl00
section
def dl_X0_copyFrom_26_cl00_0 : List (Nat × Instr × Nat) := [(0, .aload_n 1, 1), (1, .getfield 11, 3), (4, .iconst 0, 1), (5, .aload_n 0, 1), (6, .getfield 11, 3), (9, .iconst 0, 1), (10, .sipush 300, 3), (13, .invokestatic 22, 3), (16, .return_, 1)]
set_option maxRecDepth 100000 in
theorem dall_X0_copyFrom_26_cl00_0 : dchk cX0_copyFrom dl_X0_copyFrom_26_cl00_0 = true := by decide +kernel
theorem dX0_copyFrom_0 : decode cX0_copyFrom 0 = .ok (.aload_n 1, 1) := dchk_at dall_X0_copyFrom_26_cl00_0 (k := 0) rfl
theorem dX0_copyFrom_1 : decode cX0_copyFrom 1 = .ok (.getfield 11, 3) := dchk_at dall_X0_copyFrom_26_cl00_0 (k := 1) rfl
theorem dX0_copyFrom_4 : decode cX0_copyFrom 4 = .ok (.iconst 0, 1) := dchk_at dall_X0_copyFrom_26_cl00_0 (k := 2) rfl
theorem dX0_copyFrom_5 : decode cX0_copyFrom 5 = .ok (.aload_n 0, 1) := dchk_at dall_X0_copyFrom_26_cl00_0 (k := 3) rfl
theorem dX0_copyFrom_6 : decode cX0_copyFrom 6 = .ok (.getfield 11, 3) := dchk_at dall_X0_copyFrom_26_cl00_0 (k := 4) rfl
theorem dX0_copyFrom_9 : decode cX0_copyFrom 9 = .ok (.iconst 0, 1) := dchk_at dall_X0_copyFrom_26_cl00_0 (k := 5) rfl
theorem dX0_copyFrom_10 : decode cX0_copyFrom 10 = .ok (.sipush 300, 3) := dchk_at dall_X0_copyFrom_26_cl00_0 (k := 6) rfl
theorem dX0_copyFrom_13 : decode cX0_copyFrom 13 = .ok (.invokestatic 22, 3) := dchk_at dall_X0_copyFrom_26_cl00_0 (k := 7) rfl
theorem dX0_copyFrom_16 : decode cX0_copyFrom 16 = .ok (.return_, 1) := dchk_at dall_X0_copyFrom_26_cl00_0 (k := 8) rfl
def dl_X0_read_26_cl00_0 : List (Nat × Instr × Nat) := [(0, .iload_n 2, 1), (1, .ifCond .lt 26, 3), (27, .ldc 21, 2), (29, .ireturn, 1), (4, .iload_n 2, 1), (5, .iconst 3, 1), (6, .if_icmp .ge 21, 3), (9, .aload_n 0, 1), (10, .getfield 11, 3), (13, .iload_n 1, 1), (14, .bipush 100, 2), (16, .invokestatic 15, 3), (19, .iconst 3, 1), (20, .imul, 1), (21, .iload_n 2, 1), (22, .iadd, 1), (23, .iaload, 1), (24, .goto 5, 3)]
set_option maxRecDepth 100000 in
theorem dall_X0_read_26_cl00_0 : dchk cX0_read dl_X0_read_26_cl00_0 = true := by decide +kernel
theorem dX0_read_0 : decode cX0_read 0 = .ok (.iload_n 2, 1) := dchk_at dall_X0_read_26_cl00_0 (k := 0) rfl
theorem dX0_read_1 : decode cX0_read 1 = .ok (.ifCond .lt 26, 3) := dchk_at dall_X0_read_26_cl00_0 (k := 1) rfl
theorem dX0_read_27 : decode cX0_read 27 = .ok (.ldc 21, 2) := dchk_at dall_X0_read_26_cl00_0 (k := 2) rfl
theorem dX0_read_29 : decode cX0_read 29 = .ok (.ireturn, 1) := dchk_at dall_X0_read_26_cl00_0 (k := 3) rfl
theorem dX0_read_4 : decode cX0_read 4 = .ok (.iload_n 2, 1) := dchk_at dall_X0_read_26_cl00_0 (k := 4) rfl
theorem dX0_read_5 : decode cX0_read 5 = .ok (.iconst 3, 1) := dchk_at dall_X0_read_26_cl00_0 (k := 5) rfl
theorem dX0_read_6 : decode cX0_read 6 = .ok (.if_icmp .ge 21, 3) := dchk_at dall_X0_read_26_cl00_0 (k := 6) rfl
theorem dX0_read_9 : decode cX0_read 9 = .ok (.aload_n 0, 1) := dchk_at dall_X0_read_26_cl00_0 (k := 7) rfl
theorem dX0_read_10 : decode cX0_read 10 = .ok (.getfield 11, 3) := dchk_at dall_X0_read_26_cl00_0 (k := 8) rfl
theorem dX0_read_13 : decode cX0_read 13 = .ok (.iload_n 1, 1) := dchk_at dall_X0_read_26_cl00_0 (k := 9) rfl
theorem dX0_read_14 : decode cX0_read 14 = .ok (.bipush 100, 2) := dchk_at dall_X0_read_26_cl00_0 (k := 10) rfl
theorem dX0_read_16 : decode cX0_read 16 = .ok (.invokestatic 15, 3) := dchk_at dall_X0_read_26_cl00_0 (k := 11) rfl
theorem dX0_read_19 : decode cX0_read 19 = .ok (.iconst 3, 1) := dchk_at dall_X0_read_26_cl00_0 (k := 12) rfl
theorem dX0_read_20 : decode cX0_read 20 = .ok (.imul, 1) := dchk_at dall_X0_read_26_cl00_0 (k := 13) rfl
theorem dX0_read_21 : decode cX0_read 21 = .ok (.iload_n 2, 1) := dchk_at dall_X0_read_26_cl00_0 (k := 14) rfl
theorem dX0_read_22 : decode cX0_read 22 = .ok (.iadd, 1) := dchk_at dall_X0_read_26_cl00_0 (k := 15) rfl
theorem dX0_read_23 : decode cX0_read 23 = .ok (.iaload, 1) := dchk_at dall_X0_read_26_cl00_0 (k := 16) rfl
theorem dX0_read_24 : decode cX0_read 24 = .ok (.goto 5, 3) := dchk_at dall_X0_read_26_cl00_0 (k := 17) rfl
def dl_X0_write_26_cl00_0 : List (Nat × Instr × Nat) := [(0, .iload_n 1, 1), (1, .bipush 100, 2), (3, .invokestatic 15, 3), (6, .iconst 3, 1), (7, .imul, 1), (8, .istore 5, 2), (10, .aload_n 0, 1), (11, .getfield 11, 3), (14, .iload 5, 2), (16, .iload_n 2, 1), (17, .iastore, 1), (18, .aload_n 0, 1), (19, .getfield 11, 3), (22, .iload 5, 2), (24, .iconst 1, 1), (25, .iadd, 1), (26, .iload_n 3, 1), (27, .iastore, 1), (28, .aload_n 0, 1), (29, .getfield 11, 3), (32, .iload 5, 2), (34, .iconst 2, 1), (35, .iadd, 1), (36, .iload 4, 2), (38, .iastore, 1), (39, .return_, 1)]
set_option maxRecDepth 100000 in
theorem dall_X0_write_26_cl00_0 : dchk cX0_write dl_X0_write_26_cl00_0 = true := by decide +kernel
theorem dX0_write_0 : decode cX0_write 0 = .ok (.iload_n 1, 1) := dchk_at dall_X0_write_26_cl00_0 (k := 0) rfl
theorem dX0_write_1 : decode cX0_write 1 = .ok (.bipush 100, 2) := dchk_at dall_X0_write_26_cl00_0 (k := 1) rfl
theorem dX0_write_3 : decode cX0_write 3 = .ok (.invokestatic 15, 3) := dchk_at dall_X0_write_26_cl00_0 (k := 2) rfl
theorem dX0_write_6 : decode cX0_write 6 = .ok (.iconst 3, 1) := dchk_at dall_X0_write_26_cl00_0 (k := 3) rfl
theorem dX0_write_7 : decode cX0_write 7 = .ok (.imul, 1) := dchk_at dall_X0_write_26_cl00_0 (k := 4) rfl
theorem dX0_write_8 : decode cX0_write 8 = .ok (.istore 5, 2) := dchk_at dall_X0_write_26_cl00_0 (k := 5) rfl
theorem dX0_write_10 : decode cX0_write 10 = .ok (.aload_n 0, 1) := dchk_at dall_X0_write_26_cl00_0 (k := 6) rfl
theorem dX0_write_11 : decode cX0_write 11 = .ok (.getfield 11, 3) := dchk_at dall_X0_write_26_cl00_0 (k := 7) rfl
theorem dX0_write_14 : decode cX0_write 14 = .ok (.iload 5, 2) := dchk_at dall_X0_write_26_cl00_0 (k := 8) rfl
theorem dX0_write_16 : decode cX0_write 16 = .ok (.iload_n 2, 1) := dchk_at dall_X0_write_26_cl00_0 (k := 9) rfl
theorem dX0_write_17 : decode cX0_write 17 = .ok (.iastore, 1) := dchk_at dall_X0_write_26_cl00_0 (k := 10) rfl
theorem dX0_write_18 : decode cX0_write 18 = .ok (.aload_n 0, 1) := dchk_at dall_X0_write_26_cl00_0 (k := 11) rfl
theorem dX0_write_19 : decode cX0_write 19 = .ok (.getfield 11, 3) := dchk_at dall_X0_write_26_cl00_0 (k := 12) rfl
theorem dX0_write_22 : decode cX0_write 22 = .ok (.iload 5, 2) := dchk_at dall_X0_write_26_cl00_0 (k := 13) rfl
theorem dX0_write_24 : decode cX0_write 24 = .ok (.iconst 1, 1) := dchk_at dall_X0_write_26_cl00_0 (k := 14) rfl
theorem dX0_write_25 : decode cX0_write 25 = .ok (.iadd, 1) := dchk_at dall_X0_write_26_cl00_0 (k := 15) rfl
theorem dX0_write_26 : decode cX0_write 26 = .ok (.iload_n 3, 1) := dchk_at dall_X0_write_26_cl00_0 (k := 16) rfl
theorem dX0_write_27 : decode cX0_write 27 = .ok (.iastore, 1) := dchk_at dall_X0_write_26_cl00_0 (k := 17) rfl
theorem dX0_write_28 : decode cX0_write 28 = .ok (.aload_n 0, 1) := dchk_at dall_X0_write_26_cl00_0 (k := 18) rfl
theorem dX0_write_29 : decode cX0_write 29 = .ok (.getfield 11, 3) := dchk_at dall_X0_write_26_cl00_0 (k := 19) rfl
theorem dX0_write_32 : decode cX0_write 32 = .ok (.iload 5, 2) := dchk_at dall_X0_write_26_cl00_0 (k := 20) rfl
theorem dX0_write_34 : decode cX0_write 34 = .ok (.iconst 2, 1) := dchk_at dall_X0_write_26_cl00_0 (k := 21) rfl
theorem dX0_write_35 : decode cX0_write 35 = .ok (.iadd, 1) := dchk_at dall_X0_write_26_cl00_0 (k := 22) rfl
theorem dX0_write_36 : decode cX0_write 36 = .ok (.iload 4, 2) := dchk_at dall_X0_write_26_cl00_0 (k := 23) rfl
theorem dX0_write_38 : decode cX0_write 38 = .ok (.iastore, 1) := dchk_at dall_X0_write_26_cl00_0 (k := 24) rfl
theorem dX0_write_39 : decode cX0_write 39 = .ok (.return_, 1) := dchk_at dall_X0_write_26_cl00_0 (k := 25) rfl
def dl_X1_next_26_cl00_0 : List (Nat × Instr × Nat) := [(0, .aload_n 0, 1), (1, .aload_n 0, 1), (2, .getfield 9, 3), (5, .ldc2_w 32, 3), (8, .lmul, 1), (9, .ldc2_w 34, 3), (12, .ladd, 1), (13, .putfield 9, 3), (16, .iload_n 1, 1), (17, .ifCond .le 17, 3), (34, .iconst 0, 1), (35, .ireturn, 1), (20, .aload_n 0, 1), (21, .getfield 9, 3), (24, .bipush 33, 2), (26, .lushr, 1), (27, .iload_n 1, 1), (28, .i2l, 1), (29, .lrem, 1), (30, .l2i, 1), (31, .goto 4, 3)]
set_option maxRecDepth 100000 in
theorem dall_X1_next_26_cl00_0 : dchk cX1_next dl_X1_next_26_cl00_0 = true := by decide +kernel
theorem dX1_next_0 : decode cX1_next 0 = .ok (.aload_n 0, 1) := dchk_at dall_X1_next_26_cl00_0 (k := 0) rfl
theorem dX1_next_1 : decode cX1_next 1 = .ok (.aload_n 0, 1) := dchk_at dall_X1_next_26_cl00_0 (k := 1) rfl
theorem dX1_next_2 : decode cX1_next 2 = .ok (.getfield 9, 3) := dchk_at dall_X1_next_26_cl00_0 (k := 2) rfl
theorem dX1_next_5 : decode cX1_next 5 = .ok (.ldc2_w 32, 3) := dchk_at dall_X1_next_26_cl00_0 (k := 3) rfl
theorem dX1_next_8 : decode cX1_next 8 = .ok (.lmul, 1) := dchk_at dall_X1_next_26_cl00_0 (k := 4) rfl
theorem dX1_next_9 : decode cX1_next 9 = .ok (.ldc2_w 34, 3) := dchk_at dall_X1_next_26_cl00_0 (k := 5) rfl
theorem dX1_next_12 : decode cX1_next 12 = .ok (.ladd, 1) := dchk_at dall_X1_next_26_cl00_0 (k := 6) rfl
theorem dX1_next_13 : decode cX1_next 13 = .ok (.putfield 9, 3) := dchk_at dall_X1_next_26_cl00_0 (k := 7) rfl
theorem dX1_next_16 : decode cX1_next 16 = .ok (.iload_n 1, 1) := dchk_at dall_X1_next_26_cl00_0 (k := 8) rfl
theorem dX1_next_17 : decode cX1_next 17 = .ok (.ifCond .le 17, 3) := dchk_at dall_X1_next_26_cl00_0 (k := 9) rfl
theorem dX1_next_34 : decode cX1_next 34 = .ok (.iconst 0, 1) := dchk_at dall_X1_next_26_cl00_0 (k := 10) rfl
theorem dX1_next_35 : decode cX1_next 35 = .ok (.ireturn, 1) := dchk_at dall_X1_next_26_cl00_0 (k := 11) rfl
theorem dX1_next_20 : decode cX1_next 20 = .ok (.aload_n 0, 1) := dchk_at dall_X1_next_26_cl00_0 (k := 12) rfl
theorem dX1_next_21 : decode cX1_next 21 = .ok (.getfield 9, 3) := dchk_at dall_X1_next_26_cl00_0 (k := 13) rfl
theorem dX1_next_24 : decode cX1_next 24 = .ok (.bipush 33, 2) := dchk_at dall_X1_next_26_cl00_0 (k := 14) rfl
theorem dX1_next_26 : decode cX1_next 26 = .ok (.lushr, 1) := dchk_at dall_X1_next_26_cl00_0 (k := 15) rfl
theorem dX1_next_27 : decode cX1_next 27 = .ok (.iload_n 1, 1) := dchk_at dall_X1_next_26_cl00_0 (k := 16) rfl
theorem dX1_next_28 : decode cX1_next 28 = .ok (.i2l, 1) := dchk_at dall_X1_next_26_cl00_0 (k := 17) rfl
theorem dX1_next_29 : decode cX1_next 29 = .ok (.lrem, 1) := dchk_at dall_X1_next_26_cl00_0 (k := 18) rfl
theorem dX1_next_30 : decode cX1_next 30 = .ok (.l2i, 1) := dchk_at dall_X1_next_26_cl00_0 (k := 19) rfl
theorem dX1_next_31 : decode cX1_next 31 = .ok (.goto 4, 3) := dchk_at dall_X1_next_26_cl00_0 (k := 20) rfl
def dl_X1_pickAct_26_cl00_0 : List (Nat × Instr × Nat) := [(0, .aload_n 0, 1), (1, .bipush 8, 2), (3, .invokevirtual 28, 3), (6, .istore_n 2, 1), (7, .iload_n 2, 1), (8, .bipush 7, 2), (10, .if_icmp .ne 14, 3), (24, .aload_n 0, 1), (25, .aload_n 0, 1), (26, .iload_n 1, 1), (27, .invokevirtual 28, 3), (30, .putfield 19, 3), (33, .iload_n 2, 1), (34, .bipush 6, 2), (36, .if_icmp .ne 21, 3), (57, .aload_n 0, 1), (58, .iconst 0, 1), (59, .putfield 15, 3), (62, .aload_n 0, 1), (63, .aload_n 0, 1), (64, .bipush 21, 2), (66, .invokevirtual 28, 3), (69, .bipush 10, 2), (71, .isub, 1), (72, .putfield 22, 3), (75, .aload_n 0, 1), (76, .aload_n 0, 1), (77, .bipush 21, 2), (79, .invokevirtual 28, 3), (82, .bipush 10, 2), (84, .isub, 1), (85, .putfield 25, 3), (88, .return_, 1), (39, .aload_n 0, 1), (40, .iconst 4, 1), (41, .putfield 15, 3), (44, .aload_n 0, 1), (45, .aload_n 0, 1), (46, .bipush 9, 2), (48, .invokevirtual 28, 3), (51, .iconst 1, 1), (52, .iadd, 1), (53, .putfield 22, 3), (56, .return_, 1), (13, .aload_n 0, 1), (14, .iconst 1, 1), (15, .putfield 15, 3), (18, .aload_n 0, 1), (19, .iconst (-1), 1), (20, .putfield 19, 3)]
set_option maxRecDepth 100000 in
theorem dall_X1_pickAct_26_cl00_0 : dchk cX1_pickAct dl_X1_pickAct_26_cl00_0 = true := by decide +kernel
theorem dX1_pickAct_0 : decode cX1_pickAct 0 = .ok (.aload_n 0, 1) := dchk_at dall_X1_pickAct_26_cl00_0 (k := 0) rfl
theorem dX1_pickAct_1 : decode cX1_pickAct 1 = .ok (.bipush 8, 2) := dchk_at dall_X1_pickAct_26_cl00_0 (k := 1) rfl
theorem dX1_pickAct_3 : decode cX1_pickAct 3 = .ok (.invokevirtual 28, 3) := dchk_at dall_X1_pickAct_26_cl00_0 (k := 2) rfl
theorem dX1_pickAct_6 : decode cX1_pickAct 6 = .ok (.istore_n 2, 1) := dchk_at dall_X1_pickAct_26_cl00_0 (k := 3) rfl
theorem dX1_pickAct_7 : decode cX1_pickAct 7 = .ok (.iload_n 2, 1) := dchk_at dall_X1_pickAct_26_cl00_0 (k := 4) rfl
theorem dX1_pickAct_8 : decode cX1_pickAct 8 = .ok (.bipush 7, 2) := dchk_at dall_X1_pickAct_26_cl00_0 (k := 5) rfl
theorem dX1_pickAct_10 : decode cX1_pickAct 10 = .ok (.if_icmp .ne 14, 3) := dchk_at dall_X1_pickAct_26_cl00_0 (k := 6) rfl
theorem dX1_pickAct_24 : decode cX1_pickAct 24 = .ok (.aload_n 0, 1) := dchk_at dall_X1_pickAct_26_cl00_0 (k := 7) rfl
theorem dX1_pickAct_25 : decode cX1_pickAct 25 = .ok (.aload_n 0, 1) := dchk_at dall_X1_pickAct_26_cl00_0 (k := 8) rfl
theorem dX1_pickAct_26 : decode cX1_pickAct 26 = .ok (.iload_n 1, 1) := dchk_at dall_X1_pickAct_26_cl00_0 (k := 9) rfl
theorem dX1_pickAct_27 : decode cX1_pickAct 27 = .ok (.invokevirtual 28, 3) := dchk_at dall_X1_pickAct_26_cl00_0 (k := 10) rfl
theorem dX1_pickAct_30 : decode cX1_pickAct 30 = .ok (.putfield 19, 3) := dchk_at dall_X1_pickAct_26_cl00_0 (k := 11) rfl
theorem dX1_pickAct_33 : decode cX1_pickAct 33 = .ok (.iload_n 2, 1) := dchk_at dall_X1_pickAct_26_cl00_0 (k := 12) rfl
theorem dX1_pickAct_34 : decode cX1_pickAct 34 = .ok (.bipush 6, 2) := dchk_at dall_X1_pickAct_26_cl00_0 (k := 13) rfl
theorem dX1_pickAct_36 : decode cX1_pickAct 36 = .ok (.if_icmp .ne 21, 3) := dchk_at dall_X1_pickAct_26_cl00_0 (k := 14) rfl
theorem dX1_pickAct_57 : decode cX1_pickAct 57 = .ok (.aload_n 0, 1) := dchk_at dall_X1_pickAct_26_cl00_0 (k := 15) rfl
theorem dX1_pickAct_58 : decode cX1_pickAct 58 = .ok (.iconst 0, 1) := dchk_at dall_X1_pickAct_26_cl00_0 (k := 16) rfl
theorem dX1_pickAct_59 : decode cX1_pickAct 59 = .ok (.putfield 15, 3) := dchk_at dall_X1_pickAct_26_cl00_0 (k := 17) rfl
theorem dX1_pickAct_62 : decode cX1_pickAct 62 = .ok (.aload_n 0, 1) := dchk_at dall_X1_pickAct_26_cl00_0 (k := 18) rfl
theorem dX1_pickAct_63 : decode cX1_pickAct 63 = .ok (.aload_n 0, 1) := dchk_at dall_X1_pickAct_26_cl00_0 (k := 19) rfl
theorem dX1_pickAct_64 : decode cX1_pickAct 64 = .ok (.bipush 21, 2) := dchk_at dall_X1_pickAct_26_cl00_0 (k := 20) rfl
theorem dX1_pickAct_66 : decode cX1_pickAct 66 = .ok (.invokevirtual 28, 3) := dchk_at dall_X1_pickAct_26_cl00_0 (k := 21) rfl
theorem dX1_pickAct_69 : decode cX1_pickAct 69 = .ok (.bipush 10, 2) := dchk_at dall_X1_pickAct_26_cl00_0 (k := 22) rfl
theorem dX1_pickAct_71 : decode cX1_pickAct 71 = .ok (.isub, 1) := dchk_at dall_X1_pickAct_26_cl00_0 (k := 23) rfl
theorem dX1_pickAct_72 : decode cX1_pickAct 72 = .ok (.putfield 22, 3) := dchk_at dall_X1_pickAct_26_cl00_0 (k := 24) rfl
theorem dX1_pickAct_75 : decode cX1_pickAct 75 = .ok (.aload_n 0, 1) := dchk_at dall_X1_pickAct_26_cl00_0 (k := 25) rfl
theorem dX1_pickAct_76 : decode cX1_pickAct 76 = .ok (.aload_n 0, 1) := dchk_at dall_X1_pickAct_26_cl00_0 (k := 26) rfl
theorem dX1_pickAct_77 : decode cX1_pickAct 77 = .ok (.bipush 21, 2) := dchk_at dall_X1_pickAct_26_cl00_0 (k := 27) rfl
theorem dX1_pickAct_79 : decode cX1_pickAct 79 = .ok (.invokevirtual 28, 3) := dchk_at dall_X1_pickAct_26_cl00_0 (k := 28) rfl
theorem dX1_pickAct_82 : decode cX1_pickAct 82 = .ok (.bipush 10, 2) := dchk_at dall_X1_pickAct_26_cl00_0 (k := 29) rfl
theorem dX1_pickAct_84 : decode cX1_pickAct 84 = .ok (.isub, 1) := dchk_at dall_X1_pickAct_26_cl00_0 (k := 30) rfl
theorem dX1_pickAct_85 : decode cX1_pickAct 85 = .ok (.putfield 25, 3) := dchk_at dall_X1_pickAct_26_cl00_0 (k := 31) rfl
theorem dX1_pickAct_88 : decode cX1_pickAct 88 = .ok (.return_, 1) := dchk_at dall_X1_pickAct_26_cl00_0 (k := 32) rfl
theorem dX1_pickAct_39 : decode cX1_pickAct 39 = .ok (.aload_n 0, 1) := dchk_at dall_X1_pickAct_26_cl00_0 (k := 33) rfl
theorem dX1_pickAct_40 : decode cX1_pickAct 40 = .ok (.iconst 4, 1) := dchk_at dall_X1_pickAct_26_cl00_0 (k := 34) rfl
theorem dX1_pickAct_41 : decode cX1_pickAct 41 = .ok (.putfield 15, 3) := dchk_at dall_X1_pickAct_26_cl00_0 (k := 35) rfl
theorem dX1_pickAct_44 : decode cX1_pickAct 44 = .ok (.aload_n 0, 1) := dchk_at dall_X1_pickAct_26_cl00_0 (k := 36) rfl
theorem dX1_pickAct_45 : decode cX1_pickAct 45 = .ok (.aload_n 0, 1) := dchk_at dall_X1_pickAct_26_cl00_0 (k := 37) rfl
theorem dX1_pickAct_46 : decode cX1_pickAct 46 = .ok (.bipush 9, 2) := dchk_at dall_X1_pickAct_26_cl00_0 (k := 38) rfl
theorem dX1_pickAct_48 : decode cX1_pickAct 48 = .ok (.invokevirtual 28, 3) := dchk_at dall_X1_pickAct_26_cl00_0 (k := 39) rfl
theorem dX1_pickAct_51 : decode cX1_pickAct 51 = .ok (.iconst 1, 1) := dchk_at dall_X1_pickAct_26_cl00_0 (k := 40) rfl
theorem dX1_pickAct_52 : decode cX1_pickAct 52 = .ok (.iadd, 1) := dchk_at dall_X1_pickAct_26_cl00_0 (k := 41) rfl
theorem dX1_pickAct_53 : decode cX1_pickAct 53 = .ok (.putfield 22, 3) := dchk_at dall_X1_pickAct_26_cl00_0 (k := 42) rfl
theorem dX1_pickAct_56 : decode cX1_pickAct 56 = .ok (.return_, 1) := dchk_at dall_X1_pickAct_26_cl00_0 (k := 43) rfl
theorem dX1_pickAct_13 : decode cX1_pickAct 13 = .ok (.aload_n 0, 1) := dchk_at dall_X1_pickAct_26_cl00_0 (k := 44) rfl
theorem dX1_pickAct_14 : decode cX1_pickAct 14 = .ok (.iconst 1, 1) := dchk_at dall_X1_pickAct_26_cl00_0 (k := 45) rfl
theorem dX1_pickAct_15 : decode cX1_pickAct 15 = .ok (.putfield 15, 3) := dchk_at dall_X1_pickAct_26_cl00_0 (k := 46) rfl
theorem dX1_pickAct_18 : decode cX1_pickAct 18 = .ok (.aload_n 0, 1) := dchk_at dall_X1_pickAct_26_cl00_0 (k := 47) rfl
theorem dX1_pickAct_19 : decode cX1_pickAct 19 = .ok (.iconst (-1), 1) := dchk_at dall_X1_pickAct_26_cl00_0 (k := 48) rfl
theorem dX1_pickAct_20 : decode cX1_pickAct 20 = .ok (.putfield 19, 3) := dchk_at dall_X1_pickAct_26_cl00_0 (k := 49) rfl
def dl_X1_pickAct_26_cl00_1 : List (Nat × Instr × Nat) := [(23, .return_, 1)]
set_option maxRecDepth 100000 in
theorem dall_X1_pickAct_26_cl00_1 : dchk cX1_pickAct dl_X1_pickAct_26_cl00_1 = true := by decide +kernel
theorem dX1_pickAct_23 : decode cX1_pickAct 23 = .ok (.return_, 1) := dchk_at dall_X1_pickAct_26_cl00_1 (k := 0) rfl
def dl_X2_bringBack_26_cl00_0 : List (Nat × Instr × Nat) := [(28, .putfield 17, 3), (31, .aload_n 0, 1), (32, .dup, 1), (33, .getfield 21, 3), (36, .iconst 1, 1), (37, .isub, 1), (38, .putfield 21, 3), (41, .aload_n 0, 1), (42, .getfield 11, 3), (45, .aload_n 0, 1), (46, .getfield 17, 3), (49, .bipush 81, 2), (51, .imul, 1), (52, .aload_n 1, 1), (53, .getfield 24, 3), (56, .iconst 0, 1), (57, .bipush 81, 2), (59, .invokestatic 27, 3), (62, .iconst 1, 1), (63, .ireturn, 1), (0, .aload_n 0, 1), (1, .getfield 21, 3), (4, .ifCond .ne 5, 3), (9, .aload_n 0, 1), (10, .aload_n 0, 1), (11, .getfield 17, 3), (14, .ifCond .le 12, 3), (26, .bipush 39, 2), (17, .aload_n 0, 1), (18, .getfield 17, 3), (21, .iconst 1, 1), (22, .isub, 1), (23, .goto 5, 3), (7, .iconst 0, 1), (8, .ireturn, 1)]
set_option maxRecDepth 100000 in
theorem dall_X2_bringBack_26_cl00_0 : dchk cX2_bringBack dl_X2_bringBack_26_cl00_0 = true := by decide +kernel
theorem dX2_bringBack_28 : decode cX2_bringBack 28 = .ok (.putfield 17, 3) := dchk_at dall_X2_bringBack_26_cl00_0 (k := 0) rfl
theorem dX2_bringBack_31 : decode cX2_bringBack 31 = .ok (.aload_n 0, 1) := dchk_at dall_X2_bringBack_26_cl00_0 (k := 1) rfl
theorem dX2_bringBack_32 : decode cX2_bringBack 32 = .ok (.dup, 1) := dchk_at dall_X2_bringBack_26_cl00_0 (k := 2) rfl
theorem dX2_bringBack_33 : decode cX2_bringBack 33 = .ok (.getfield 21, 3) := dchk_at dall_X2_bringBack_26_cl00_0 (k := 3) rfl
theorem dX2_bringBack_36 : decode cX2_bringBack 36 = .ok (.iconst 1, 1) := dchk_at dall_X2_bringBack_26_cl00_0 (k := 4) rfl
theorem dX2_bringBack_37 : decode cX2_bringBack 37 = .ok (.isub, 1) := dchk_at dall_X2_bringBack_26_cl00_0 (k := 5) rfl
theorem dX2_bringBack_38 : decode cX2_bringBack 38 = .ok (.putfield 21, 3) := dchk_at dall_X2_bringBack_26_cl00_0 (k := 6) rfl
theorem dX2_bringBack_41 : decode cX2_bringBack 41 = .ok (.aload_n 0, 1) := dchk_at dall_X2_bringBack_26_cl00_0 (k := 7) rfl
theorem dX2_bringBack_42 : decode cX2_bringBack 42 = .ok (.getfield 11, 3) := dchk_at dall_X2_bringBack_26_cl00_0 (k := 8) rfl
theorem dX2_bringBack_45 : decode cX2_bringBack 45 = .ok (.aload_n 0, 1) := dchk_at dall_X2_bringBack_26_cl00_0 (k := 9) rfl
theorem dX2_bringBack_46 : decode cX2_bringBack 46 = .ok (.getfield 17, 3) := dchk_at dall_X2_bringBack_26_cl00_0 (k := 10) rfl
theorem dX2_bringBack_49 : decode cX2_bringBack 49 = .ok (.bipush 81, 2) := dchk_at dall_X2_bringBack_26_cl00_0 (k := 11) rfl
theorem dX2_bringBack_51 : decode cX2_bringBack 51 = .ok (.imul, 1) := dchk_at dall_X2_bringBack_26_cl00_0 (k := 12) rfl
theorem dX2_bringBack_52 : decode cX2_bringBack 52 = .ok (.aload_n 1, 1) := dchk_at dall_X2_bringBack_26_cl00_0 (k := 13) rfl
theorem dX2_bringBack_53 : decode cX2_bringBack 53 = .ok (.getfield 24, 3) := dchk_at dall_X2_bringBack_26_cl00_0 (k := 14) rfl
theorem dX2_bringBack_56 : decode cX2_bringBack 56 = .ok (.iconst 0, 1) := dchk_at dall_X2_bringBack_26_cl00_0 (k := 15) rfl
theorem dX2_bringBack_57 : decode cX2_bringBack 57 = .ok (.bipush 81, 2) := dchk_at dall_X2_bringBack_26_cl00_0 (k := 16) rfl
theorem dX2_bringBack_59 : decode cX2_bringBack 59 = .ok (.invokestatic 27, 3) := dchk_at dall_X2_bringBack_26_cl00_0 (k := 17) rfl
theorem dX2_bringBack_62 : decode cX2_bringBack 62 = .ok (.iconst 1, 1) := dchk_at dall_X2_bringBack_26_cl00_0 (k := 18) rfl
theorem dX2_bringBack_63 : decode cX2_bringBack 63 = .ok (.ireturn, 1) := dchk_at dall_X2_bringBack_26_cl00_0 (k := 19) rfl
theorem dX2_bringBack_0 : decode cX2_bringBack 0 = .ok (.aload_n 0, 1) := dchk_at dall_X2_bringBack_26_cl00_0 (k := 20) rfl
theorem dX2_bringBack_1 : decode cX2_bringBack 1 = .ok (.getfield 21, 3) := dchk_at dall_X2_bringBack_26_cl00_0 (k := 21) rfl
theorem dX2_bringBack_4 : decode cX2_bringBack 4 = .ok (.ifCond .ne 5, 3) := dchk_at dall_X2_bringBack_26_cl00_0 (k := 22) rfl
theorem dX2_bringBack_9 : decode cX2_bringBack 9 = .ok (.aload_n 0, 1) := dchk_at dall_X2_bringBack_26_cl00_0 (k := 23) rfl
theorem dX2_bringBack_10 : decode cX2_bringBack 10 = .ok (.aload_n 0, 1) := dchk_at dall_X2_bringBack_26_cl00_0 (k := 24) rfl
theorem dX2_bringBack_11 : decode cX2_bringBack 11 = .ok (.getfield 17, 3) := dchk_at dall_X2_bringBack_26_cl00_0 (k := 25) rfl
theorem dX2_bringBack_14 : decode cX2_bringBack 14 = .ok (.ifCond .le 12, 3) := dchk_at dall_X2_bringBack_26_cl00_0 (k := 26) rfl
theorem dX2_bringBack_26 : decode cX2_bringBack 26 = .ok (.bipush 39, 2) := dchk_at dall_X2_bringBack_26_cl00_0 (k := 27) rfl
theorem dX2_bringBack_17 : decode cX2_bringBack 17 = .ok (.aload_n 0, 1) := dchk_at dall_X2_bringBack_26_cl00_0 (k := 28) rfl
theorem dX2_bringBack_18 : decode cX2_bringBack 18 = .ok (.getfield 17, 3) := dchk_at dall_X2_bringBack_26_cl00_0 (k := 29) rfl
theorem dX2_bringBack_21 : decode cX2_bringBack 21 = .ok (.iconst 1, 1) := dchk_at dall_X2_bringBack_26_cl00_0 (k := 30) rfl
theorem dX2_bringBack_22 : decode cX2_bringBack 22 = .ok (.isub, 1) := dchk_at dall_X2_bringBack_26_cl00_0 (k := 31) rfl
theorem dX2_bringBack_23 : decode cX2_bringBack 23 = .ok (.goto 5, 3) := dchk_at dall_X2_bringBack_26_cl00_0 (k := 32) rfl
theorem dX2_bringBack_7 : decode cX2_bringBack 7 = .ok (.iconst 0, 1) := dchk_at dall_X2_bringBack_26_cl00_0 (k := 33) rfl
theorem dX2_bringBack_8 : decode cX2_bringBack 8 = .ok (.ireturn, 1) := dchk_at dall_X2_bringBack_26_cl00_0 (k := 34) rfl
def dl_X2_forget_26_cl00_0 : List (Nat × Instr × Nat) := [(0, .aload_n 0, 1), (1, .iconst 0, 1), (2, .putfield 21, 3), (5, .return_, 1)]
set_option maxRecDepth 100000 in
theorem dall_X2_forget_26_cl00_0 : dchk cX2_forget dl_X2_forget_26_cl00_0 = true := by decide +kernel
theorem dX2_forget_0 : decode cX2_forget 0 = .ok (.aload_n 0, 1) := dchk_at dall_X2_forget_26_cl00_0 (k := 0) rfl
theorem dX2_forget_1 : decode cX2_forget 1 = .ok (.iconst 0, 1) := dchk_at dall_X2_forget_26_cl00_0 (k := 1) rfl
theorem dX2_forget_2 : decode cX2_forget 2 = .ok (.putfield 21, 3) := dchk_at dall_X2_forget_26_cl00_0 (k := 2) rfl
theorem dX2_forget_5 : decode cX2_forget 5 = .ok (.return_, 1) := dchk_at dall_X2_forget_26_cl00_0 (k := 3) rfl
def dl_X2_keep_26_cl00_0 : List (Nat × Instr × Nat) := [(0, .aload_n 1, 1), (1, .getfield 24, 3), (4, .iconst 0, 1), (5, .aload_n 0, 1), (6, .getfield 11, 3), (9, .aload_n 0, 1), (10, .getfield 17, 3), (13, .bipush 81, 2), (15, .imul, 1), (16, .bipush 81, 2), (18, .invokestatic 27, 3), (21, .aload_n 0, 1), (22, .aload_n 0, 1), (23, .getfield 17, 3), (26, .iconst 1, 1), (27, .iadd, 1), (28, .bipush 40, 2), (30, .if_icmp .ge 12, 3), (42, .iconst 0, 1), (43, .putfield 17, 3), (46, .aload_n 0, 1), (47, .aload_n 0, 1), (48, .getfield 21, 3), (51, .iconst 1, 1), (52, .iadd, 1), (53, .bipush 40, 2), (55, .invokestatic 33, 3), (58, .putfield 21, 3), (61, .return_, 1), (33, .aload_n 0, 1), (34, .getfield 17, 3), (37, .iconst 1, 1), (38, .iadd, 1), (39, .goto 4, 3)]
set_option maxRecDepth 100000 in
theorem dall_X2_keep_26_cl00_0 : dchk cX2_keep dl_X2_keep_26_cl00_0 = true := by decide +kernel
theorem dX2_keep_0 : decode cX2_keep 0 = .ok (.aload_n 1, 1) := dchk_at dall_X2_keep_26_cl00_0 (k := 0) rfl
theorem dX2_keep_1 : decode cX2_keep 1 = .ok (.getfield 24, 3) := dchk_at dall_X2_keep_26_cl00_0 (k := 1) rfl
theorem dX2_keep_4 : decode cX2_keep 4 = .ok (.iconst 0, 1) := dchk_at dall_X2_keep_26_cl00_0 (k := 2) rfl
theorem dX2_keep_5 : decode cX2_keep 5 = .ok (.aload_n 0, 1) := dchk_at dall_X2_keep_26_cl00_0 (k := 3) rfl
theorem dX2_keep_6 : decode cX2_keep 6 = .ok (.getfield 11, 3) := dchk_at dall_X2_keep_26_cl00_0 (k := 4) rfl
theorem dX2_keep_9 : decode cX2_keep 9 = .ok (.aload_n 0, 1) := dchk_at dall_X2_keep_26_cl00_0 (k := 5) rfl
theorem dX2_keep_10 : decode cX2_keep 10 = .ok (.getfield 17, 3) := dchk_at dall_X2_keep_26_cl00_0 (k := 6) rfl
theorem dX2_keep_13 : decode cX2_keep 13 = .ok (.bipush 81, 2) := dchk_at dall_X2_keep_26_cl00_0 (k := 7) rfl
theorem dX2_keep_15 : decode cX2_keep 15 = .ok (.imul, 1) := dchk_at dall_X2_keep_26_cl00_0 (k := 8) rfl
theorem dX2_keep_16 : decode cX2_keep 16 = .ok (.bipush 81, 2) := dchk_at dall_X2_keep_26_cl00_0 (k := 9) rfl
theorem dX2_keep_18 : decode cX2_keep 18 = .ok (.invokestatic 27, 3) := dchk_at dall_X2_keep_26_cl00_0 (k := 10) rfl
theorem dX2_keep_21 : decode cX2_keep 21 = .ok (.aload_n 0, 1) := dchk_at dall_X2_keep_26_cl00_0 (k := 11) rfl
theorem dX2_keep_22 : decode cX2_keep 22 = .ok (.aload_n 0, 1) := dchk_at dall_X2_keep_26_cl00_0 (k := 12) rfl
theorem dX2_keep_23 : decode cX2_keep 23 = .ok (.getfield 17, 3) := dchk_at dall_X2_keep_26_cl00_0 (k := 13) rfl
theorem dX2_keep_26 : decode cX2_keep 26 = .ok (.iconst 1, 1) := dchk_at dall_X2_keep_26_cl00_0 (k := 14) rfl
theorem dX2_keep_27 : decode cX2_keep 27 = .ok (.iadd, 1) := dchk_at dall_X2_keep_26_cl00_0 (k := 15) rfl
theorem dX2_keep_28 : decode cX2_keep 28 = .ok (.bipush 40, 2) := dchk_at dall_X2_keep_26_cl00_0 (k := 16) rfl
theorem dX2_keep_30 : decode cX2_keep 30 = .ok (.if_icmp .ge 12, 3) := dchk_at dall_X2_keep_26_cl00_0 (k := 17) rfl
theorem dX2_keep_42 : decode cX2_keep 42 = .ok (.iconst 0, 1) := dchk_at dall_X2_keep_26_cl00_0 (k := 18) rfl
theorem dX2_keep_43 : decode cX2_keep 43 = .ok (.putfield 17, 3) := dchk_at dall_X2_keep_26_cl00_0 (k := 19) rfl
theorem dX2_keep_46 : decode cX2_keep 46 = .ok (.aload_n 0, 1) := dchk_at dall_X2_keep_26_cl00_0 (k := 20) rfl
theorem dX2_keep_47 : decode cX2_keep 47 = .ok (.aload_n 0, 1) := dchk_at dall_X2_keep_26_cl00_0 (k := 21) rfl
theorem dX2_keep_48 : decode cX2_keep 48 = .ok (.getfield 21, 3) := dchk_at dall_X2_keep_26_cl00_0 (k := 22) rfl
theorem dX2_keep_51 : decode cX2_keep 51 = .ok (.iconst 1, 1) := dchk_at dall_X2_keep_26_cl00_0 (k := 23) rfl
theorem dX2_keep_52 : decode cX2_keep 52 = .ok (.iadd, 1) := dchk_at dall_X2_keep_26_cl00_0 (k := 24) rfl
theorem dX2_keep_53 : decode cX2_keep 53 = .ok (.bipush 40, 2) := dchk_at dall_X2_keep_26_cl00_0 (k := 25) rfl
theorem dX2_keep_55 : decode cX2_keep 55 = .ok (.invokestatic 33, 3) := dchk_at dall_X2_keep_26_cl00_0 (k := 26) rfl
theorem dX2_keep_58 : decode cX2_keep 58 = .ok (.putfield 21, 3) := dchk_at dall_X2_keep_26_cl00_0 (k := 27) rfl
theorem dX2_keep_61 : decode cX2_keep 61 = .ok (.return_, 1) := dchk_at dall_X2_keep_26_cl00_0 (k := 28) rfl
theorem dX2_keep_33 : decode cX2_keep 33 = .ok (.aload_n 0, 1) := dchk_at dall_X2_keep_26_cl00_0 (k := 29) rfl
theorem dX2_keep_34 : decode cX2_keep 34 = .ok (.getfield 17, 3) := dchk_at dall_X2_keep_26_cl00_0 (k := 30) rfl
theorem dX2_keep_37 : decode cX2_keep 37 = .ok (.iconst 1, 1) := dchk_at dall_X2_keep_26_cl00_0 (k := 31) rfl
theorem dX2_keep_38 : decode cX2_keep 38 = .ok (.iadd, 1) := dchk_at dall_X2_keep_26_cl00_0 (k := 32) rfl
theorem dX2_keep_39 : decode cX2_keep 39 = .ok (.goto 4, 3) := dchk_at dall_X2_keep_26_cl00_0 (k := 33) rfl
def dl_X4_areFull_26_cl00_0 : List (Nat × Instr × Nat) := [(0, .aload_n 0, 1), (1, .getfield 18, 3), (4, .iconst 4, 1), (5, .if_icmp .lt 7, 3), (12, .iconst 0, 1), (13, .ireturn, 1), (8, .iconst 1, 1), (9, .goto 4, 3)]
set_option maxRecDepth 100000 in
theorem dall_X4_areFull_26_cl00_0 : dchk cX4_areFull dl_X4_areFull_26_cl00_0 = true := by decide +kernel
theorem dX4_areFull_0 : decode cX4_areFull 0 = .ok (.aload_n 0, 1) := dchk_at dall_X4_areFull_26_cl00_0 (k := 0) rfl
theorem dX4_areFull_1 : decode cX4_areFull 1 = .ok (.getfield 18, 3) := dchk_at dall_X4_areFull_26_cl00_0 (k := 1) rfl
theorem dX4_areFull_4 : decode cX4_areFull 4 = .ok (.iconst 4, 1) := dchk_at dall_X4_areFull_26_cl00_0 (k := 2) rfl
theorem dX4_areFull_5 : decode cX4_areFull 5 = .ok (.if_icmp .lt 7, 3) := dchk_at dall_X4_areFull_26_cl00_0 (k := 3) rfl
theorem dX4_areFull_12 : decode cX4_areFull 12 = .ok (.iconst 0, 1) := dchk_at dall_X4_areFull_26_cl00_0 (k := 4) rfl
theorem dX4_areFull_13 : decode cX4_areFull 13 = .ok (.ireturn, 1) := dchk_at dall_X4_areFull_26_cl00_0 (k := 5) rfl
theorem dX4_areFull_8 : decode cX4_areFull 8 = .ok (.iconst 1, 1) := dchk_at dall_X4_areFull_26_cl00_0 (k := 6) rfl
theorem dX4_areFull_9 : decode cX4_areFull 9 = .ok (.goto 4, 3) := dchk_at dall_X4_areFull_26_cl00_0 (k := 7) rfl
def dl_X4_has_26_cl00_0 : List (Nat × Instr × Nat) := [(0, .iload_n 1, 1), (1, .ifCond .lt 20, 3), (21, .iconst 0, 1), (22, .ireturn, 1), (4, .iload_n 1, 1), (5, .aload_n 0, 1), (6, .getfield 18, 3), (9, .if_icmp .ge 12, 3), (12, .iload_n 1, 1), (13, .iconst 4, 1), (14, .if_icmp .ge 7, 3), (17, .iconst 1, 1), (18, .goto 4, 3)]
set_option maxRecDepth 100000 in
theorem dall_X4_has_26_cl00_0 : dchk cX4_has dl_X4_has_26_cl00_0 = true := by decide +kernel
theorem dX4_has_0 : decode cX4_has 0 = .ok (.iload_n 1, 1) := dchk_at dall_X4_has_26_cl00_0 (k := 0) rfl
theorem dX4_has_1 : decode cX4_has 1 = .ok (.ifCond .lt 20, 3) := dchk_at dall_X4_has_26_cl00_0 (k := 1) rfl
theorem dX4_has_21 : decode cX4_has 21 = .ok (.iconst 0, 1) := dchk_at dall_X4_has_26_cl00_0 (k := 2) rfl
theorem dX4_has_22 : decode cX4_has 22 = .ok (.ireturn, 1) := dchk_at dall_X4_has_26_cl00_0 (k := 3) rfl
theorem dX4_has_4 : decode cX4_has 4 = .ok (.iload_n 1, 1) := dchk_at dall_X4_has_26_cl00_0 (k := 4) rfl
theorem dX4_has_5 : decode cX4_has 5 = .ok (.aload_n 0, 1) := dchk_at dall_X4_has_26_cl00_0 (k := 5) rfl
theorem dX4_has_6 : decode cX4_has 6 = .ok (.getfield 18, 3) := dchk_at dall_X4_has_26_cl00_0 (k := 6) rfl
theorem dX4_has_9 : decode cX4_has 9 = .ok (.if_icmp .ge 12, 3) := dchk_at dall_X4_has_26_cl00_0 (k := 7) rfl
theorem dX4_has_12 : decode cX4_has 12 = .ok (.iload_n 1, 1) := dchk_at dall_X4_has_26_cl00_0 (k := 8) rfl
theorem dX4_has_13 : decode cX4_has 13 = .ok (.iconst 4, 1) := dchk_at dall_X4_has_26_cl00_0 (k := 9) rfl
theorem dX4_has_14 : decode cX4_has 14 = .ok (.if_icmp .ge 7, 3) := dchk_at dall_X4_has_26_cl00_0 (k := 10) rfl
theorem dX4_has_17 : decode cX4_has 17 = .ok (.iconst 1, 1) := dchk_at dall_X4_has_26_cl00_0 (k := 11) rfl
theorem dX4_has_18 : decode cX4_has 18 = .ok (.goto 4, 3) := dchk_at dall_X4_has_26_cl00_0 (k := 12) rfl
def dl_X4_keep_26_cl00_0 : List (Nat × Instr × Nat) := [(0, .aload_n 0, 1), (1, .invokevirtual 22, 3), (4, .ifCond .ne 47, 3), (51, .return_, 1), (7, .aload_n 1, 1), (8, .getfield 26, 3), (11, .iconst 0, 1), (12, .aload_n 0, 1), (13, .getfield 11, 3), (16, .aload_n 0, 1), (17, .getfield 18, 3), (20, .bipush 48, 2), (22, .imul, 1), (23, .bipush 48, 2), (25, .invokestatic 29, 3), (28, .aload_n 0, 1), (29, .getfield 15, 3), (32, .aload_n 0, 1), (33, .getfield 18, 3), (36, .aload_n 1, 1), (37, .getfield 35, 3), (40, .iastore, 1), (41, .aload_n 0, 1), (42, .dup, 1), (43, .getfield 18, 3), (46, .iconst 1, 1), (47, .iadd, 1), (48, .putfield 18, 3)]
set_option maxRecDepth 100000 in
theorem dall_X4_keep_26_cl00_0 : dchk cX4_keep dl_X4_keep_26_cl00_0 = true := by decide +kernel
theorem dX4_keep_0 : decode cX4_keep 0 = .ok (.aload_n 0, 1) := dchk_at dall_X4_keep_26_cl00_0 (k := 0) rfl
theorem dX4_keep_1 : decode cX4_keep 1 = .ok (.invokevirtual 22, 3) := dchk_at dall_X4_keep_26_cl00_0 (k := 1) rfl
theorem dX4_keep_4 : decode cX4_keep 4 = .ok (.ifCond .ne 47, 3) := dchk_at dall_X4_keep_26_cl00_0 (k := 2) rfl
theorem dX4_keep_51 : decode cX4_keep 51 = .ok (.return_, 1) := dchk_at dall_X4_keep_26_cl00_0 (k := 3) rfl
theorem dX4_keep_7 : decode cX4_keep 7 = .ok (.aload_n 1, 1) := dchk_at dall_X4_keep_26_cl00_0 (k := 4) rfl
theorem dX4_keep_8 : decode cX4_keep 8 = .ok (.getfield 26, 3) := dchk_at dall_X4_keep_26_cl00_0 (k := 5) rfl
theorem dX4_keep_11 : decode cX4_keep 11 = .ok (.iconst 0, 1) := dchk_at dall_X4_keep_26_cl00_0 (k := 6) rfl
theorem dX4_keep_12 : decode cX4_keep 12 = .ok (.aload_n 0, 1) := dchk_at dall_X4_keep_26_cl00_0 (k := 7) rfl
theorem dX4_keep_13 : decode cX4_keep 13 = .ok (.getfield 11, 3) := dchk_at dall_X4_keep_26_cl00_0 (k := 8) rfl
theorem dX4_keep_16 : decode cX4_keep 16 = .ok (.aload_n 0, 1) := dchk_at dall_X4_keep_26_cl00_0 (k := 9) rfl
theorem dX4_keep_17 : decode cX4_keep 17 = .ok (.getfield 18, 3) := dchk_at dall_X4_keep_26_cl00_0 (k := 10) rfl
theorem dX4_keep_20 : decode cX4_keep 20 = .ok (.bipush 48, 2) := dchk_at dall_X4_keep_26_cl00_0 (k := 11) rfl
theorem dX4_keep_22 : decode cX4_keep 22 = .ok (.imul, 1) := dchk_at dall_X4_keep_26_cl00_0 (k := 12) rfl
theorem dX4_keep_23 : decode cX4_keep 23 = .ok (.bipush 48, 2) := dchk_at dall_X4_keep_26_cl00_0 (k := 13) rfl
theorem dX4_keep_25 : decode cX4_keep 25 = .ok (.invokestatic 29, 3) := dchk_at dall_X4_keep_26_cl00_0 (k := 14) rfl
theorem dX4_keep_28 : decode cX4_keep 28 = .ok (.aload_n 0, 1) := dchk_at dall_X4_keep_26_cl00_0 (k := 15) rfl
theorem dX4_keep_29 : decode cX4_keep 29 = .ok (.getfield 15, 3) := dchk_at dall_X4_keep_26_cl00_0 (k := 16) rfl
theorem dX4_keep_32 : decode cX4_keep 32 = .ok (.aload_n 0, 1) := dchk_at dall_X4_keep_26_cl00_0 (k := 17) rfl
theorem dX4_keep_33 : decode cX4_keep 33 = .ok (.getfield 18, 3) := dchk_at dall_X4_keep_26_cl00_0 (k := 18) rfl
theorem dX4_keep_36 : decode cX4_keep 36 = .ok (.aload_n 1, 1) := dchk_at dall_X4_keep_26_cl00_0 (k := 19) rfl
theorem dX4_keep_37 : decode cX4_keep 37 = .ok (.getfield 35, 3) := dchk_at dall_X4_keep_26_cl00_0 (k := 20) rfl
theorem dX4_keep_40 : decode cX4_keep 40 = .ok (.iastore, 1) := dchk_at dall_X4_keep_26_cl00_0 (k := 21) rfl
theorem dX4_keep_41 : decode cX4_keep 41 = .ok (.aload_n 0, 1) := dchk_at dall_X4_keep_26_cl00_0 (k := 22) rfl
theorem dX4_keep_42 : decode cX4_keep 42 = .ok (.dup, 1) := dchk_at dall_X4_keep_26_cl00_0 (k := 23) rfl
theorem dX4_keep_43 : decode cX4_keep 43 = .ok (.getfield 18, 3) := dchk_at dall_X4_keep_26_cl00_0 (k := 24) rfl
theorem dX4_keep_46 : decode cX4_keep 46 = .ok (.iconst 1, 1) := dchk_at dall_X4_keep_26_cl00_0 (k := 25) rfl
theorem dX4_keep_47 : decode cX4_keep 47 = .ok (.iadd, 1) := dchk_at dall_X4_keep_26_cl00_0 (k := 26) rfl
theorem dX4_keep_48 : decode cX4_keep 48 = .ok (.putfield 18, 3) := dchk_at dall_X4_keep_26_cl00_0 (k := 27) rfl
def dl_X4_stepsOf_26_cl00_0 : List (Nat × Instr × Nat) := [(0, .aload_n 0, 1), (1, .iload_n 1, 1), (2, .invokevirtual 38, 3), (5, .ifCond .eq 12, 3), (17, .iconst 0, 1), (18, .ireturn, 1), (8, .aload_n 0, 1), (9, .getfield 15, 3), (12, .iload_n 1, 1), (13, .iaload, 1), (14, .goto 4, 3)]
set_option maxRecDepth 100000 in
theorem dall_X4_stepsOf_26_cl00_0 : dchk cX4_stepsOf dl_X4_stepsOf_26_cl00_0 = true := by decide +kernel
theorem dX4_stepsOf_0 : decode cX4_stepsOf 0 = .ok (.aload_n 0, 1) := dchk_at dall_X4_stepsOf_26_cl00_0 (k := 0) rfl
theorem dX4_stepsOf_1 : decode cX4_stepsOf 1 = .ok (.iload_n 1, 1) := dchk_at dall_X4_stepsOf_26_cl00_0 (k := 1) rfl
theorem dX4_stepsOf_2 : decode cX4_stepsOf 2 = .ok (.invokevirtual 38, 3) := dchk_at dall_X4_stepsOf_26_cl00_0 (k := 2) rfl
theorem dX4_stepsOf_5 : decode cX4_stepsOf 5 = .ok (.ifCond .eq 12, 3) := dchk_at dall_X4_stepsOf_26_cl00_0 (k := 3) rfl
theorem dX4_stepsOf_17 : decode cX4_stepsOf 17 = .ok (.iconst 0, 1) := dchk_at dall_X4_stepsOf_26_cl00_0 (k := 4) rfl
theorem dX4_stepsOf_18 : decode cX4_stepsOf 18 = .ok (.ireturn, 1) := dchk_at dall_X4_stepsOf_26_cl00_0 (k := 5) rfl
theorem dX4_stepsOf_8 : decode cX4_stepsOf 8 = .ok (.aload_n 0, 1) := dchk_at dall_X4_stepsOf_26_cl00_0 (k := 6) rfl
theorem dX4_stepsOf_9 : decode cX4_stepsOf 9 = .ok (.getfield 15, 3) := dchk_at dall_X4_stepsOf_26_cl00_0 (k := 7) rfl
theorem dX4_stepsOf_12 : decode cX4_stepsOf 12 = .ok (.iload_n 1, 1) := dchk_at dall_X4_stepsOf_26_cl00_0 (k := 8) rfl
theorem dX4_stepsOf_13 : decode cX4_stepsOf 13 = .ok (.iaload, 1) := dchk_at dall_X4_stepsOf_26_cl00_0 (k := 9) rfl
theorem dX4_stepsOf_14 : decode cX4_stepsOf 14 = .ok (.goto 4, 3) := dchk_at dall_X4_stepsOf_26_cl00_0 (k := 10) rfl
def dl_X4_read_26_cl00_0 : List (Nat × Instr × Nat) := [(0, .iload_n 2, 1), (1, .ifCond .lt 21, 3), (22, .ldc 46, 2), (24, .ireturn, 1), (4, .iload_n 2, 1), (5, .aload_n 0, 1), (6, .iload_n 1, 1), (7, .invokevirtual 42, 3), (10, .if_icmp .ge 12, 3), (13, .iload_n 3, 1), (14, .ifCond .lt 8, 3), (17, .iload_n 3, 1), (18, .iconst 4, 1), (19, .if_icmp .lt 6, 3), (25, .aload_n 0, 1), (26, .getfield 11, 3), (29, .iload_n 1, 1), (30, .bipush 48, 2), (32, .imul, 1), (33, .iload_n 2, 1), (34, .iconst 4, 1), (35, .imul, 1), (36, .iadd, 1), (37, .iload_n 3, 1), (38, .iadd, 1), (39, .iaload, 1), (40, .ireturn, 1)]
set_option maxRecDepth 100000 in
theorem dall_X4_read_26_cl00_0 : dchk cX4_read dl_X4_read_26_cl00_0 = true := by decide +kernel
theorem dX4_read_0 : decode cX4_read 0 = .ok (.iload_n 2, 1) := dchk_at dall_X4_read_26_cl00_0 (k := 0) rfl
theorem dX4_read_1 : decode cX4_read 1 = .ok (.ifCond .lt 21, 3) := dchk_at dall_X4_read_26_cl00_0 (k := 1) rfl
theorem dX4_read_22 : decode cX4_read 22 = .ok (.ldc 46, 2) := dchk_at dall_X4_read_26_cl00_0 (k := 2) rfl
theorem dX4_read_24 : decode cX4_read 24 = .ok (.ireturn, 1) := dchk_at dall_X4_read_26_cl00_0 (k := 3) rfl
theorem dX4_read_4 : decode cX4_read 4 = .ok (.iload_n 2, 1) := dchk_at dall_X4_read_26_cl00_0 (k := 4) rfl
theorem dX4_read_5 : decode cX4_read 5 = .ok (.aload_n 0, 1) := dchk_at dall_X4_read_26_cl00_0 (k := 5) rfl
theorem dX4_read_6 : decode cX4_read 6 = .ok (.iload_n 1, 1) := dchk_at dall_X4_read_26_cl00_0 (k := 6) rfl
theorem dX4_read_7 : decode cX4_read 7 = .ok (.invokevirtual 42, 3) := dchk_at dall_X4_read_26_cl00_0 (k := 7) rfl
theorem dX4_read_10 : decode cX4_read 10 = .ok (.if_icmp .ge 12, 3) := dchk_at dall_X4_read_26_cl00_0 (k := 8) rfl
theorem dX4_read_13 : decode cX4_read 13 = .ok (.iload_n 3, 1) := dchk_at dall_X4_read_26_cl00_0 (k := 9) rfl
theorem dX4_read_14 : decode cX4_read 14 = .ok (.ifCond .lt 8, 3) := dchk_at dall_X4_read_26_cl00_0 (k := 10) rfl
theorem dX4_read_17 : decode cX4_read 17 = .ok (.iload_n 3, 1) := dchk_at dall_X4_read_26_cl00_0 (k := 11) rfl
theorem dX4_read_18 : decode cX4_read 18 = .ok (.iconst 4, 1) := dchk_at dall_X4_read_26_cl00_0 (k := 12) rfl
theorem dX4_read_19 : decode cX4_read 19 = .ok (.if_icmp .lt 6, 3) := dchk_at dall_X4_read_26_cl00_0 (k := 13) rfl
theorem dX4_read_25 : decode cX4_read 25 = .ok (.aload_n 0, 1) := dchk_at dall_X4_read_26_cl00_0 (k := 14) rfl
theorem dX4_read_26 : decode cX4_read 26 = .ok (.getfield 11, 3) := dchk_at dall_X4_read_26_cl00_0 (k := 15) rfl
theorem dX4_read_29 : decode cX4_read 29 = .ok (.iload_n 1, 1) := dchk_at dall_X4_read_26_cl00_0 (k := 16) rfl
theorem dX4_read_30 : decode cX4_read 30 = .ok (.bipush 48, 2) := dchk_at dall_X4_read_26_cl00_0 (k := 17) rfl
theorem dX4_read_32 : decode cX4_read 32 = .ok (.imul, 1) := dchk_at dall_X4_read_26_cl00_0 (k := 18) rfl
theorem dX4_read_33 : decode cX4_read 33 = .ok (.iload_n 2, 1) := dchk_at dall_X4_read_26_cl00_0 (k := 19) rfl
theorem dX4_read_34 : decode cX4_read 34 = .ok (.iconst 4, 1) := dchk_at dall_X4_read_26_cl00_0 (k := 20) rfl
theorem dX4_read_35 : decode cX4_read 35 = .ok (.imul, 1) := dchk_at dall_X4_read_26_cl00_0 (k := 21) rfl
theorem dX4_read_36 : decode cX4_read 36 = .ok (.iadd, 1) := dchk_at dall_X4_read_26_cl00_0 (k := 22) rfl
theorem dX4_read_37 : decode cX4_read 37 = .ok (.iload_n 3, 1) := dchk_at dall_X4_read_26_cl00_0 (k := 23) rfl
theorem dX4_read_38 : decode cX4_read 38 = .ok (.iadd, 1) := dchk_at dall_X4_read_26_cl00_0 (k := 24) rfl
theorem dX4_read_39 : decode cX4_read 39 = .ok (.iaload, 1) := dchk_at dall_X4_read_26_cl00_0 (k := 25) rfl
theorem dX4_read_40 : decode cX4_read 40 = .ok (.ireturn, 1) := dchk_at dall_X4_read_26_cl00_0 (k := 26) rfl
def dl_X4_sortOf_26_cl00_0 : List (Nat × Instr × Nat) := [(0, .aload_n 0, 1), (1, .iload_n 1, 1), (2, .iload_n 2, 1), (3, .iconst 0, 1), (4, .invokevirtual 47, 3), (7, .istore_n 3, 1), (8, .iload_n 3, 1), (9, .ifCond .lt 19, 3), (28, .iconst (-1), 1), (29, .ireturn, 1), (12, .iload_n 3, 1), (13, .getstatic 51, 3), (16, .arraylength, 1), (17, .if_icmp .ge 11, 3), (20, .getstatic 51, 3), (23, .iload_n 3, 1), (24, .iaload, 1), (25, .goto 4, 3)]
set_option maxRecDepth 100000 in
theorem dall_X4_sortOf_26_cl00_0 : dchk cX4_sortOf dl_X4_sortOf_26_cl00_0 = true := by decide +kernel
theorem dX4_sortOf_0 : decode cX4_sortOf 0 = .ok (.aload_n 0, 1) := dchk_at dall_X4_sortOf_26_cl00_0 (k := 0) rfl
theorem dX4_sortOf_1 : decode cX4_sortOf 1 = .ok (.iload_n 1, 1) := dchk_at dall_X4_sortOf_26_cl00_0 (k := 1) rfl
theorem dX4_sortOf_2 : decode cX4_sortOf 2 = .ok (.iload_n 2, 1) := dchk_at dall_X4_sortOf_26_cl00_0 (k := 2) rfl
theorem dX4_sortOf_3 : decode cX4_sortOf 3 = .ok (.iconst 0, 1) := dchk_at dall_X4_sortOf_26_cl00_0 (k := 3) rfl
theorem dX4_sortOf_4 : decode cX4_sortOf 4 = .ok (.invokevirtual 47, 3) := dchk_at dall_X4_sortOf_26_cl00_0 (k := 4) rfl
theorem dX4_sortOf_7 : decode cX4_sortOf 7 = .ok (.istore_n 3, 1) := dchk_at dall_X4_sortOf_26_cl00_0 (k := 5) rfl
theorem dX4_sortOf_8 : decode cX4_sortOf 8 = .ok (.iload_n 3, 1) := dchk_at dall_X4_sortOf_26_cl00_0 (k := 6) rfl
theorem dX4_sortOf_9 : decode cX4_sortOf 9 = .ok (.ifCond .lt 19, 3) := dchk_at dall_X4_sortOf_26_cl00_0 (k := 7) rfl
theorem dX4_sortOf_28 : decode cX4_sortOf 28 = .ok (.iconst (-1), 1) := dchk_at dall_X4_sortOf_26_cl00_0 (k := 8) rfl
theorem dX4_sortOf_29 : decode cX4_sortOf 29 = .ok (.ireturn, 1) := dchk_at dall_X4_sortOf_26_cl00_0 (k := 9) rfl
theorem dX4_sortOf_12 : decode cX4_sortOf 12 = .ok (.iload_n 3, 1) := dchk_at dall_X4_sortOf_26_cl00_0 (k := 10) rfl
theorem dX4_sortOf_13 : decode cX4_sortOf 13 = .ok (.getstatic 51, 3) := dchk_at dall_X4_sortOf_26_cl00_0 (k := 11) rfl
theorem dX4_sortOf_16 : decode cX4_sortOf 16 = .ok (.arraylength, 1) := dchk_at dall_X4_sortOf_26_cl00_0 (k := 12) rfl
theorem dX4_sortOf_17 : decode cX4_sortOf 17 = .ok (.if_icmp .ge 11, 3) := dchk_at dall_X4_sortOf_26_cl00_0 (k := 13) rfl
theorem dX4_sortOf_20 : decode cX4_sortOf 20 = .ok (.getstatic 51, 3) := dchk_at dall_X4_sortOf_26_cl00_0 (k := 14) rfl
theorem dX4_sortOf_23 : decode cX4_sortOf 23 = .ok (.iload_n 3, 1) := dchk_at dall_X4_sortOf_26_cl00_0 (k := 15) rfl
theorem dX4_sortOf_24 : decode cX4_sortOf 24 = .ok (.iaload, 1) := dchk_at dall_X4_sortOf_26_cl00_0 (k := 16) rfl
theorem dX4_sortOf_25 : decode cX4_sortOf 25 = .ok (.goto 4, 3) := dchk_at dall_X4_sortOf_26_cl00_0 (k := 17) rfl
def F_X0_copyFrom (c_lines : Nat → Int32) (c_o1_lines : Nat → Int32) : Option ((Nat → Int32)) :=
  cpF (0 : Int32) (0 : Int32) (300 : Int32) 300 300 (nmF (va_cpy c_o1_lines c_lines (0 : Int32).toNatClampNeg (0 : Int32).toNatClampNeg (300 : Int32).toNatClampNeg) (fun f_2 => some f_2))
abbrev w_X0_copyFrom (E : EE) (a_ a_lines a_o1 a_o1_lines : Nat) (c_lines : Nat → Int32) (c_o1_lines : Nat → Int32) : va_W := [(a_, .inr (1, [.ref a_lines])), (a_lines, .inl (E.2.1, 300, .inl c_lines)), (a_o1, .inr (1, [.ref a_o1_lines])), (a_o1_lines, .inl (E.2.1, 300, .inl c_o1_lines))]
def v_f_X0_copyFrom : List Cond := .code yX0_copyFrom cX0_copyFrom 2 none :: ([.fieldLink RX0 11 "HushWatch$Book" "lines" "[I", .methodLink RX0 22 arraycopyName, .native arraycopyName, .static arraycopyName, .initialized "java/lang/System"] ++ (wsX00 ++ ([])))
theorem gw_f_X0_copyFrom : v_f_X0_copyFrom.all goodWord = true := by decide +kernel
theorem i_f_X0_copyFrom_X0 : ∀ w ∈ wsX00, w ∈ v_f_X0_copyFrom := fun _ h => List.mem_cons_of_mem _ (List.mem_append_right _ (List.mem_append_left _ h))
theorem hd_X0_copyFrom : yX0_copyFrom.cls = RX0 ∧ yX0_copyFrom.cls ≠ "java/lang/invoke/MethodHandle" ∧ yX0_copyFrom.cls ≠ "java/lang/invoke/VarHandle" ∧ (parseMethodDescriptor yX0_copyFrom.desc).map (fun d => d.parameters.length) = some 1 := by decide +kernel
set_option maxHeartbeats 4000000 in
set_option maxRecDepth 100000 in
theorem f_X0_copyFrom (l : Launch) (E : EE) (sz : Nat) {a_ a_lines a_o1 a_o1_lines : Nat} {c_lines : Nat → Int32} {c_o1_lines : Nat → Int32} {n_lines : Nat → Int32} (hF : F_X0_copyFrom c_lines c_o1_lines = some n_lines) : Met l yX0_copyFrom v_f_X0_copyFrom (({ frames := 1, cells := 0, slots := 0, locals := 60 } : Room)) (va_Pc [.ref a_, .ref a_o1] (pW E sz (w_X0_copyFrom E a_ a_lines a_o1 a_o1_lines c_lines c_o1_lines))) (va_Qv (fun (_u : Unit) => True) (fun (_u : Unit) tt => va_P E.1 vwCl (w_X0_copyFrom E a_ a_lines a_o1 a_o1_lines n_lines c_o1_lines) tt.heap ∧ va_D (va_A (w_X0_copyFrom E a_ a_lines a_o1 a_o1_lines c_lines c_o1_lines) sz) (w_X0_copyFrom E a_ a_lines a_o1 a_o1_lines n_lines c_o1_lines)) (va_A (w_X0_copyFrom E a_ a_lines a_o1 a_o1_lines c_lines c_o1_lines) sz)) 0 0 (va_A (w_X0_copyFrom E a_ a_lines a_o1 a_o1_lines c_lines c_o1_lines) sz) := by
  refine Met.ofW (cc := cX0_copyFrom) (maxL := 2) (ret := none) (by decide) rfl ?_
  intro p e s m args below meth c s₁ B hml hv
  obtain ⟨rfl, hsz, ⟨hK, hN⟩, hP, hD0⟩ := hv
  have hx := B.exec
  have hb := B.bytes
  have hr := B.returns
  have hts := atoms_spec (ws := v_f_X0_copyFrom) B.pre
  have hown : s.vm.findClass RX0 = some m.cls := own_of hd_X0_copyFrom.1 (findClass_of_methodNamed B.named)
  have hlocks : meth.locks = false := B.notSynchronized
  subst hsz
  have hD := hD0.self (sz := s.heap.size)
  generalize hAe : va_A (w_X0_copyFrom E a_ a_lines a_o1 a_o1_lines c_lines c_o1_lines) s.heap.size = A at hD ⊢
  have hA : ∀ q : Nat, s.heap.size ≤ q → A q := fun q h => by rw [← hAe]; exact Or.inr h
  have hS : va_S A s.heap s.heap [] := va_S.rf
  have hl := lv_entry ([.ref a_, .ref a_o1]) (n := 2) (Nat.le_of_ble_eq_true rfl)
  rw [lg_entry_eq]
  generalize (lg_sl ([.ref a_, .ref a_o1]) ++ List.replicate (2 - (lg_sl ([.ref a_, .ref a_o1])).length) Slot.unset).toArray = ls at hl ⊢
  have hl : lv_has ls 2 [(0, .ref a_), (1, .ref a_o1)] := hl
  obtain ⟨Q, hQ⟩ : ∃ Q : State → Prop, Q = MQ below (va_Qv (fun (_u : Unit) => True) (fun (_u : Unit) tt => va_P E.1 vwCl (w_X0_copyFrom E a_ a_lines a_o1 a_o1_lines n_lines c_o1_lines) tt.heap ∧ va_D A (w_X0_copyFrom E a_ a_lines a_o1 a_o1_lines n_lines c_o1_lines)) A) #[Value.ref a_, Value.ref a_o1] s 0 0 A := ⟨_, rfl⟩
  rw [← hQ]
  change W p l e ({ frames := 1, cells := 0, slots := 0, locals := 60 } : Room) s m #[Value.ref a_, Value.ref a_o1] below meth c s.heap [] 0 0 Q (F0 m 0 ls [])
  suffices hh9 : ∀ (H : Heap) (locs : List Loc), va_P E.1 vwCl (w_X0_copyFrom E a_ a_lines a_o1 a_o1_lines c_lines c_o1_lines) H → va_D A (w_X0_copyFrom E a_ a_lines a_o1 a_o1_lines c_lines c_o1_lines) → va_S A s.heap H locs → W p l e ({ frames := 1, cells := 0, slots := 0, locals := 60 } : Room) s m #[Value.ref a_, Value.ref a_o1] below meth c H locs 0 0 Q (F0 m 0 ls []) from hh9 s.heap [] hP hD hS
  clear hP hD hS
  intro H locs hP hD hS
  replace hP : va_P E.1 vwCl [(a_, .inr (1, [.ref a_lines])), (a_lines, .inl (E.2.1, 300, .inl c_lines)), (a_o1, .inr (1, [.ref a_o1_lines])), (a_o1_lines, .inl (E.2.1, 300, .inl c_o1_lines))] H := hP
  replace hD : va_D A [(a_, .inr (1, [.ref a_lines])), (a_lines, .inl (E.2.1, 300, .inl c_lines)), (a_o1, .inr (1, [.ref a_o1_lines])), (a_o1_lines, .inl (E.2.1, 300, .inl c_o1_lines))] := hD
  unfold F_X0_copyFrom at hF
  refine lv_aload_n hx hb dX0_copyFrom_0 rfl (lv_at hl 1 rfl) ?_
  refine gt_X0_0 (v := .ref a_o1_lines) hx hb hts i_f_X0_copyFrom_X0 hown hK hP 2 rfl (hts (.fieldLink RX0 11 "HushWatch$Book" "lines" "[I") (List.mem_of_getElem? (i := 1) rfl)) rfl dX0_copyFrom_1 ?_
  refine lv_iconst (v := 0) hx hb dX0_copyFrom_4 (by decide) ?_
  refine lv_aload_n hx hb dX0_copyFrom_5 rfl (lv_at hl 0 rfl) ?_
  refine gt_X0_0 (v := .ref a_lines) hx hb hts i_f_X0_copyFrom_X0 hown hK hP 0 rfl (hts (.fieldLink RX0 11 "HushWatch$Book" "lines" "[I") (List.mem_of_getElem? (i := 1) rfl)) rfl dX0_copyFrom_6 ?_
  refine lv_iconst (v := 0) hx hb dX0_copyFrom_9 (by decide) ?_
  refine lv_sipush (v := 300) hx hb dX0_copyFrom_10 (by decide) ?_
  replace hF := cp_s hF
  obtain ⟨hy_1, hF⟩ := hF
  refine va_copyi hx hb (hml.trans hl.1.symm) hown (hts (.methodLink RX0 22 arraycopyName) (List.mem_of_getElem? (i := 2) rfl)) (hts (.native arraycopyName) (List.mem_of_getElem? (i := 3) rfl)) (hts (.static arraycopyName) (List.mem_of_getElem? (i := 4) rfl)) (hts (.initialized "java/lang/System") (List.mem_of_getElem? (i := 5) rfl)) hK hP hD hS 3 1 0 0 rfl rfl rfl rfl rfl hy_1.1 hy_1.2.1 hy_1.2.2.1 hy_1.2.2.2.1 hy_1.2.2.2.2 (fun _ _ => rfl) (Nat.le_of_ble_eq_true rfl) (Nat.le_of_ble_eq_true rfl) dX0_copyFrom_13 (fun H locs hP hD hS => ?_)
  replace hP : va_P E.1 vwCl [(a_, .inr (1, [.ref a_lines])), (a_lines, .inl (E.2.1, 300, .inl (va_cpy c_o1_lines c_lines (0 : Int32).toNatClampNeg (0 : Int32).toNatClampNeg (300 : Int32).toNatClampNeg))), (a_o1, .inr (1, [.ref a_o1_lines])), (a_o1_lines, .inl (E.2.1, 300, .inl c_o1_lines))] H := hP
  replace hD : va_D A [(a_, .inr (1, [.ref a_lines])), (a_lines, .inl (E.2.1, 300, .inl (va_cpy c_o1_lines c_lines (0 : Int32).toNatClampNeg (0 : Int32).toNatClampNeg (300 : Int32).toNatClampNeg))), (a_o1, .inr (1, [.ref a_o1_lines])), (a_o1_lines, .inl (E.2.1, 300, .inl c_o1_lines))] := hD
  replace hF := nm_s hF
  obtain ⟨f_2, hf_2, hF⟩ := hF
  rw [← hf_2] at hP hD
  rw [hQ]
  have h9 := fin9 (P := fun u9 : (Nat → Int32) => va_P E.1 vwCl (w_X0_copyFrom E a_ a_lines a_o1 a_o1_lines u9 c_o1_lines) H ∧ va_D A (w_X0_copyFrom E a_ a_lines a_o1 a_o1_lines u9 c_o1_lines)) hF ⟨hP, hD⟩
  obtain ⟨hP9, hD9⟩ := h9
  exact W.vret hx hb hr (fun tt ht hW => ⟨⟨(), rfl, trivial, ht ▸ hP9, hD9⟩, hS.F ht⟩) hS.2.2 dX0_copyFrom_16

def F_X0_read (p1 : Int32) (p2 : Int32) (c_lines : Nat → Int32) : Option (Int32) :=
  if p2 < (0 : Int32) then some (-100000000 : Int32) else if (3 : Int32) ≤ p2 then some (-100000000 : Int32) else bd1 (F_J9_floorMod_7cf53 p1 (100 : Int32)) (fun r_3 => ixF ((r_3 * (3 : Int32)) + p2) 300 (some (c_lines ((r_3 * (3 : Int32)) + p2).toNatClampNeg)))
abbrev w_X0_read (E : EE) (a_ a_lines : Nat) (c_lines : Nat → Int32) : va_W := [(a_, .inr (1, [.ref a_lines])), (a_lines, .inl (E.2.1, 300, .inl c_lines))]
def v_f_X0_read : List Cond := .code yX0_read cX0_read 3 (some .int) :: ([.constant RX0 21 (-100000000), .fieldLink RX0 11 "HushWatch$Book" "lines" "[I", .methodLink RX0 15 yJ9_floorMod_7cf53, .static yJ9_floorMod_7cf53, .initialized RJ9] ++ (wsX00 ++ (v_f_J9_floorMod_7cf53 ++ ([]))))
theorem gw_f_X0_read : v_f_X0_read.all goodWord = true := by decide +kernel
theorem i_f_X0_read_X0 : ∀ w ∈ wsX00, w ∈ v_f_X0_read := fun _ h => List.mem_cons_of_mem _ (List.mem_append_right _ (List.mem_append_left _ h))
theorem g_f_X0_read_f_J9_floorMod_7cf53_15 : GoodIn v_f_X0_read (va_wsS RX0 15 yJ9_floorMod_7cf53 v_f_J9_floorMod_7cf53) := goodIn_app (goodIn_of _ (by decide +kernel)) (goodIn_sub (fun _ h => List.mem_cons_of_mem _ (List.mem_append_right _ (List.mem_append_right _ (List.mem_append_left _ h)))) gw_f_J9_floorMod_7cf53)
theorem hd_X0_read : yX0_read.cls = RX0 ∧ yX0_read.cls ≠ "java/lang/invoke/MethodHandle" ∧ yX0_read.cls ≠ "java/lang/invoke/VarHandle" ∧ (parseMethodDescriptor yX0_read.desc).map (fun d => d.parameters.length) = some 2 := by decide +kernel
set_option maxHeartbeats 4000000 in
set_option maxRecDepth 100000 in
theorem f_X0_read (l : Launch) (E : EE) {a_ a_lines : Nat} {p1 : Int32} {p2 : Int32} {c_lines : Nat → Int32} {rr : Int32} (hF : F_X0_read p1 p2 c_lines = some rr) : Met l yX0_read v_f_X0_read (({ frames := 1, cells := 0, slots := 0, locals := 22 } : Room)) (va_Pc [.ref a_, .int p1, .int p2] (pP E (w_X0_read E a_ a_lines c_lines))) (vp_Si (fun q : Int32 => q = rr)) 0 0 (fun _ => False) := by
  refine Met.ofW (cc := cX0_read) (maxL := 3) (ret := (some .int)) (by decide) rfl ?_
  intro p e s m args below meth c s₁ B hml hv
  obtain ⟨rfl, ⟨hK, hN⟩, hP⟩ := hv
  have hx := B.exec
  have hb := B.bytes
  have hr := B.returns
  have hts := atoms_spec (ws := v_f_X0_read) B.pre
  have hown : s.vm.findClass RX0 = some m.cls := own_of hd_X0_read.1 (findClass_of_methodNamed B.named)
  have hlocks : meth.locks = false := B.notSynchronized
  replace hP : va_P E.1 vwCl [(a_, .inr (1, [.ref a_lines])), (a_lines, .inl (E.2.1, 300, .inl c_lines))] s.heap := hP
  have hl := lv_entry ([.ref a_, .int p1, .int p2]) (n := 3) (Nat.le_of_ble_eq_true rfl)
  rw [lg_entry_eq]
  generalize (lg_sl ([.ref a_, .int p1, .int p2]) ++ List.replicate (3 - (lg_sl ([.ref a_, .int p1, .int p2])).length) Slot.unset).toArray = ls at hl ⊢
  have hl : lv_has ls 3 [(0, .ref a_), (1, .int p1), (2, .int p2)] := hl
  obtain ⟨Q, hQ⟩ : ∃ Q : State → Prop, Q = MQ below (vp_Si (fun q : Int32 => q = rr)) #[Value.ref a_, Value.int p1, Value.int p2] s 0 0 (fun _ => False) := ⟨_, rfl⟩
  rw [← hQ]
  change W p l e ({ frames := 1, cells := 0, slots := 0, locals := 22 } : Room) s m #[Value.ref a_, Value.int p1, Value.int p2] below meth c s.heap [] 0 0 Q (F0 m 0 ls [])
  unfold F_X0_read at hF
  refine lv_iload_n hx hb dX0_read_0 rfl (lv_at hl 2 rfl) ?_
  refine lv_if_lt (tgt := 27) hx hb dX0_read_1 (by decide) (fun c_1 => ?_) (fun c_1 => ?_)
  ·
    replace hF := ip c_1 hF
    refine lv_ldc (v := -100000000) hx hb hown (hts (.constant RX0 21 (-100000000)) (List.mem_of_getElem? (i := 1) rfl)) dX0_read_27 ?_
    rw [hQ]
    obtain e9_0 := inj1 hF
    exact W.iret (v := (-100000000 : Int32)) hx hb hr (fun tt ht hW => ⟨_, rfl, e9_0, ht⟩) (fun _ h => by cases h) dX0_read_29
  ·
    replace hF := inn c_1 hF
    refine lv_iload_n hx hb dX0_read_4 rfl (lv_at hl 2 rfl) ?_
    refine lv_iconst (v := 3) hx hb dX0_read_5 (by decide) ?_
    refine lv_icmp_ge (tgt := 27) hx hb dX0_read_6 (by decide) (fun c_2 => ?_) (fun c_2 => ?_)
    ·
      replace hF := ip c_2 hF
      refine lv_ldc (v := -100000000) hx hb hown (hts (.constant RX0 21 (-100000000)) (List.mem_of_getElem? (i := 1) rfl)) dX0_read_27 ?_
      rw [hQ]
      obtain e9_0 := inj1 hF
      exact W.iret (v := (-100000000 : Int32)) hx hb hr (fun tt ht hW => ⟨_, rfl, e9_0, ht⟩) (fun _ h => by cases h) dX0_read_29
    ·
      replace hF := inn c_2 hF
      refine lv_aload_n hx hb dX0_read_9 rfl (lv_at hl 0 rfl) ?_
      refine gt_X0_0 (v := .ref a_lines) hx hb hts i_f_X0_read_X0 hown hK hP 0 rfl (hts (.fieldLink RX0 11 "HushWatch$Book" "lines" "[I") (List.mem_of_getElem? (i := 2) rfl)) rfl dX0_read_10 ?_
      refine lv_iload_n hx hb dX0_read_13 rfl (lv_at hl 1 rfl) ?_
      refine lv_bipush (v := 100) hx hb dX0_read_14 (by decide) ?_
      replace hF := bd1_s hF
      obtain ⟨r_3, hc_4, hF⟩ := hF
      have hPc : va_P E.1 vwCl [] s.heap := fun k q h => by simp at h
      refine pE_i (va_runS (As := [.int p1, .int (100 : Int32)]) (rest := [.ref a_lines])  ⟨hx, hb, hml, hown, hts⟩ (f_J9_floorMod_7cf53 l E (p0 := p1) (p1 := (100 : Int32)) hc_4) (va_cwS 2 hts g_f_X0_read_f_J9_floorMod_7cf53_15 rfl rfl rfl hd_J9_floorMod_7cf53.2 ⟨Nat.le_of_ble_eq_true rfl, Nat.le_of_ble_eq_true rfl⟩) ⟨pP.blind, (pP.pre ⟨hK, hN⟩ hPc)⟩ rfl rfl hl.1 rfl (lv_room (Nat.le_of_ble_eq_true rfl)) dX0_read_16 ⟨Nat.le_of_ble_eq_true rfl, Nat.le_of_ble_eq_true rfl⟩) ?_
      refine lv_iconst (v := 3) hx hb dX0_read_19 (by decide) ?_
      refine lv_imul hx hb dX0_read_20 ?_
      refine lv_iload_n hx hb dX0_read_21 rfl (lv_at hl 2 rfl) ?_
      refine lv_iadd hx hb dX0_read_22 ?_
      replace hF := ix_s hF
      obtain ⟨hi_5, hF⟩ := hF
      refine va_iald hx hb hK hP 1 0 rfl rfl hi_5 dX0_read_23 ?_
      refine lv_goto (tgt := 29) hx hb dX0_read_24 (by decide) ?_
      rw [hQ]
      obtain e9_0 := inj1 hF
      exact W.iret (v := c_lines ((r_3 * (3 : Int32)) + p2).toNatClampNeg) hx hb hr (fun tt ht hW => ⟨_, rfl, e9_0, ht⟩) (fun _ h => by cases h) dX0_read_29

def F_X0_write (p1 : Int32) (p2 : Int32) (p3 : Int32) (p4 : Int32) (c_lines : Nat → Int32) : Option ((Nat → Int32)) :=
  bd1 (F_J9_floorMod_7cf53 p1 (100 : Int32)) (fun r_1 => ixF (r_1 * (3 : Int32)) 300 (nmF (upd c_lines (r_1 * (3 : Int32)).toNatClampNeg p2) (fun f_4 => ixF ((r_1 * (3 : Int32)) + (1 : Int32)) 300 (nmF (upd f_4 ((r_1 * (3 : Int32)) + (1 : Int32)).toNatClampNeg p3) (fun f_6 => ixF ((r_1 * (3 : Int32)) + (2 : Int32)) 300 (nmF (upd f_6 ((r_1 * (3 : Int32)) + (2 : Int32)).toNatClampNeg p4) (fun f_8 => some f_8)))))))
abbrev w_X0_write (E : EE) (a_ a_lines : Nat) (c_lines : Nat → Int32) : va_W := [(a_, .inr (1, [.ref a_lines])), (a_lines, .inl (E.2.1, 300, .inl c_lines))]
def v_f_X0_write : List Cond := .code yX0_write cX0_write 6 none :: ([.fieldLink RX0 11 "HushWatch$Book" "lines" "[I", .methodLink RX0 15 yJ9_floorMod_7cf53, .static yJ9_floorMod_7cf53, .initialized RJ9] ++ (v_f_J9_floorMod_7cf53 ++ (wsX00 ++ ([]))))
theorem gw_f_X0_write : v_f_X0_write.all goodWord = true := by decide +kernel
theorem i_f_X0_write_X0 : ∀ w ∈ wsX00, w ∈ v_f_X0_write := fun _ h => List.mem_cons_of_mem _ (List.mem_append_right _ (List.mem_append_right _ (List.mem_append_left _ h)))
theorem g_f_X0_write_f_J9_floorMod_7cf53_15 : GoodIn v_f_X0_write (va_wsS RX0 15 yJ9_floorMod_7cf53 v_f_J9_floorMod_7cf53) := goodIn_app (goodIn_of _ (by decide +kernel)) (goodIn_sub (fun _ h => List.mem_cons_of_mem _ (List.mem_append_right _ (List.mem_append_left _ h))) gw_f_J9_floorMod_7cf53)
theorem hd_X0_write : yX0_write.cls = RX0 ∧ yX0_write.cls ≠ "java/lang/invoke/MethodHandle" ∧ yX0_write.cls ≠ "java/lang/invoke/VarHandle" ∧ (parseMethodDescriptor yX0_write.desc).map (fun d => d.parameters.length) = some 4 := by decide +kernel
set_option maxHeartbeats 4000000 in
set_option maxRecDepth 100000 in
theorem f_X0_write (l : Launch) (E : EE) (sz : Nat) {a_ a_lines : Nat} {p1 : Int32} {p2 : Int32} {p3 : Int32} {p4 : Int32} {c_lines : Nat → Int32} {n_lines : Nat → Int32} (hF : F_X0_write p1 p2 p3 p4 c_lines = some n_lines) : Met l yX0_write v_f_X0_write (({ frames := 1, cells := 0, slots := 0, locals := 22 } : Room)) (va_Pc [.ref a_, .int p1, .int p2, .int p3, .int p4] (pW E sz (w_X0_write E a_ a_lines c_lines))) (va_Qv (fun (_u : Unit) => True) (fun (_u : Unit) tt => va_P E.1 vwCl (w_X0_write E a_ a_lines n_lines) tt.heap ∧ va_D (va_A (w_X0_write E a_ a_lines c_lines) sz) (w_X0_write E a_ a_lines n_lines)) (va_A (w_X0_write E a_ a_lines c_lines) sz)) 0 0 (va_A (w_X0_write E a_ a_lines c_lines) sz) := by
  refine Met.ofW (cc := cX0_write) (maxL := 6) (ret := none) (by decide) rfl ?_
  intro p e s m args below meth c s₁ B hml hv
  obtain ⟨rfl, hsz, ⟨hK, hN⟩, hP, hD0⟩ := hv
  have hx := B.exec
  have hb := B.bytes
  have hr := B.returns
  have hts := atoms_spec (ws := v_f_X0_write) B.pre
  have hown : s.vm.findClass RX0 = some m.cls := own_of hd_X0_write.1 (findClass_of_methodNamed B.named)
  have hlocks : meth.locks = false := B.notSynchronized
  subst hsz
  have hD := hD0.self (sz := s.heap.size)
  generalize hAe : va_A (w_X0_write E a_ a_lines c_lines) s.heap.size = A at hD ⊢
  have hA : ∀ q : Nat, s.heap.size ≤ q → A q := fun q h => by rw [← hAe]; exact Or.inr h
  have hS : va_S A s.heap s.heap [] := va_S.rf
  have hl := lv_entry ([.ref a_, .int p1, .int p2, .int p3, .int p4]) (n := 6) (Nat.le_of_ble_eq_true rfl)
  rw [lg_entry_eq]
  generalize (lg_sl ([.ref a_, .int p1, .int p2, .int p3, .int p4]) ++ List.replicate (6 - (lg_sl ([.ref a_, .int p1, .int p2, .int p3, .int p4])).length) Slot.unset).toArray = ls at hl ⊢
  have hl : lv_has ls 6 [(0, .ref a_), (1, .int p1), (2, .int p2), (3, .int p3), (4, .int p4)] := hl
  obtain ⟨Q, hQ⟩ : ∃ Q : State → Prop, Q = MQ below (va_Qv (fun (_u : Unit) => True) (fun (_u : Unit) tt => va_P E.1 vwCl (w_X0_write E a_ a_lines n_lines) tt.heap ∧ va_D A (w_X0_write E a_ a_lines n_lines)) A) #[Value.ref a_, Value.int p1, Value.int p2, Value.int p3, Value.int p4] s 0 0 A := ⟨_, rfl⟩
  rw [← hQ]
  change W p l e ({ frames := 1, cells := 0, slots := 0, locals := 22 } : Room) s m #[Value.ref a_, Value.int p1, Value.int p2, Value.int p3, Value.int p4] below meth c s.heap [] 0 0 Q (F0 m 0 ls [])
  suffices hh9 : ∀ (H : Heap) (locs : List Loc), va_P E.1 vwCl (w_X0_write E a_ a_lines c_lines) H → va_D A (w_X0_write E a_ a_lines c_lines) → va_S A s.heap H locs → W p l e ({ frames := 1, cells := 0, slots := 0, locals := 22 } : Room) s m #[Value.ref a_, Value.int p1, Value.int p2, Value.int p3, Value.int p4] below meth c H locs 0 0 Q (F0 m 0 ls []) from hh9 s.heap [] hP hD hS
  clear hP hD hS
  intro H locs hP hD hS
  replace hP : va_P E.1 vwCl [(a_, .inr (1, [.ref a_lines])), (a_lines, .inl (E.2.1, 300, .inl c_lines))] H := hP
  replace hD : va_D A [(a_, .inr (1, [.ref a_lines])), (a_lines, .inl (E.2.1, 300, .inl c_lines))] := hD
  unfold F_X0_write at hF
  refine lv_iload_n hx hb dX0_write_0 rfl (lv_at hl 1 rfl) ?_
  refine lv_bipush (v := 100) hx hb dX0_write_1 (by decide) ?_
  replace hF := bd1_s hF
  obtain ⟨r_1, hc_2, hF⟩ := hF
  have hPc : va_P E.1 vwCl [] H := fun k q h => by simp at h
  refine pE_i (va_runS (As := [.int p1, .int (100 : Int32)]) (rest := [])  ⟨hx, hb, hml, hown, hts⟩ (f_J9_floorMod_7cf53 l E (p0 := p1) (p1 := (100 : Int32)) hc_2) (va_cwS 2 hts g_f_X0_write_f_J9_floorMod_7cf53_15 rfl rfl rfl hd_J9_floorMod_7cf53.2 ⟨Nat.le_of_ble_eq_true rfl, Nat.le_of_ble_eq_true rfl⟩) ⟨pP.blind, (pP.pre ⟨hK, hN⟩ hPc)⟩ rfl rfl hl.1 rfl (lv_room (Nat.le_of_ble_eq_true rfl)) dX0_write_3 ⟨Nat.le_of_ble_eq_true rfl, Nat.le_of_ble_eq_true rfl⟩) ?_
  refine lv_iconst (v := 3) hx hb dX0_write_6 (by decide) ?_
  refine lv_imul hx hb dX0_write_7 ?_
  refine lv_istore (lv' := [(5, .int (r_1 * (3 : Int32))), (0, .ref a_), (1, .int p1), (2, .int p2), (3, .int p3), (4, .int p4)]) hx hb dX0_write_8 hl (by decide) rfl (fun ls hl => ?_)
  refine lv_aload_n hx hb dX0_write_10 rfl (lv_at hl 1 rfl) ?_
  refine gt_X0_0 (v := .ref a_lines) hx hb hts i_f_X0_write_X0 hown hK hP 0 rfl (hts (.fieldLink RX0 11 "HushWatch$Book" "lines" "[I") (List.mem_of_getElem? (i := 1) rfl)) rfl dX0_write_11 ?_
  refine lv_iload hx hb dX0_write_14 (lv_at hl 0 rfl) ?_
  refine lv_iload_n hx hb dX0_write_16 rfl (lv_at hl 3 rfl) ?_
  replace hF := ix_s hF
  obtain ⟨hi_3, hF⟩ := hF
  refine va_iast hx hb hK hP hD hS 1 0 rfl rfl hi_3 dX0_write_17 (fun H locs hP hD hS => ?_)
  replace hP : va_P E.1 vwCl [(a_, .inr (1, [.ref a_lines])), (a_lines, .inl (E.2.1, 300, .inl (upd c_lines (r_1 * (3 : Int32)).toNatClampNeg p2)))] H := hP
  replace hD : va_D A [(a_, .inr (1, [.ref a_lines])), (a_lines, .inl (E.2.1, 300, .inl (upd c_lines (r_1 * (3 : Int32)).toNatClampNeg p2)))] := hD
  replace hF := nm_s hF
  obtain ⟨f_4, hf_4, hF⟩ := hF
  rw [← hf_4] at hP hD
  refine lv_aload_n hx hb dX0_write_18 rfl (lv_at hl 1 rfl) ?_
  refine gt_X0_0 (v := .ref a_lines) hx hb hts i_f_X0_write_X0 hown hK hP 0 rfl (hts (.fieldLink RX0 11 "HushWatch$Book" "lines" "[I") (List.mem_of_getElem? (i := 1) rfl)) rfl dX0_write_19 ?_
  refine lv_iload hx hb dX0_write_22 (lv_at hl 0 rfl) ?_
  refine lv_iconst (v := 1) hx hb dX0_write_24 (by decide) ?_
  refine lv_iadd hx hb dX0_write_25 ?_
  refine lv_iload_n hx hb dX0_write_26 rfl (lv_at hl 4 rfl) ?_
  replace hF := ix_s hF
  obtain ⟨hi_5, hF⟩ := hF
  refine va_iast hx hb hK hP hD hS 1 0 rfl rfl hi_5 dX0_write_27 (fun H locs hP hD hS => ?_)
  replace hP : va_P E.1 vwCl [(a_, .inr (1, [.ref a_lines])), (a_lines, .inl (E.2.1, 300, .inl (upd f_4 ((r_1 * (3 : Int32)) + (1 : Int32)).toNatClampNeg p3)))] H := hP
  replace hD : va_D A [(a_, .inr (1, [.ref a_lines])), (a_lines, .inl (E.2.1, 300, .inl (upd f_4 ((r_1 * (3 : Int32)) + (1 : Int32)).toNatClampNeg p3)))] := hD
  replace hF := nm_s hF
  obtain ⟨f_6, hf_6, hF⟩ := hF
  rw [← hf_6] at hP hD
  refine lv_aload_n hx hb dX0_write_28 rfl (lv_at hl 1 rfl) ?_
  refine gt_X0_0 (v := .ref a_lines) hx hb hts i_f_X0_write_X0 hown hK hP 0 rfl (hts (.fieldLink RX0 11 "HushWatch$Book" "lines" "[I") (List.mem_of_getElem? (i := 1) rfl)) rfl dX0_write_29 ?_
  refine lv_iload hx hb dX0_write_32 (lv_at hl 0 rfl) ?_
  refine lv_iconst (v := 2) hx hb dX0_write_34 (by decide) ?_
  refine lv_iadd hx hb dX0_write_35 ?_
  refine lv_iload hx hb dX0_write_36 (lv_at hl 5 rfl) ?_
  replace hF := ix_s hF
  obtain ⟨hi_7, hF⟩ := hF
  refine va_iast hx hb hK hP hD hS 1 0 rfl rfl hi_7 dX0_write_38 (fun H locs hP hD hS => ?_)
  replace hP : va_P E.1 vwCl [(a_, .inr (1, [.ref a_lines])), (a_lines, .inl (E.2.1, 300, .inl (upd f_6 ((r_1 * (3 : Int32)) + (2 : Int32)).toNatClampNeg p4)))] H := hP
  replace hD : va_D A [(a_, .inr (1, [.ref a_lines])), (a_lines, .inl (E.2.1, 300, .inl (upd f_6 ((r_1 * (3 : Int32)) + (2 : Int32)).toNatClampNeg p4)))] := hD
  replace hF := nm_s hF
  obtain ⟨f_8, hf_8, hF⟩ := hF
  rw [← hf_8] at hP hD
  rw [hQ]
  have h9 := fin9 (P := fun u9 : (Nat → Int32) => va_P E.1 vwCl (w_X0_write E a_ a_lines u9) H ∧ va_D A (w_X0_write E a_ a_lines u9)) hF ⟨hP, hD⟩
  obtain ⟨hP9, hD9⟩ := h9
  exact W.vret hx hb hr (fun tt ht hW => ⟨⟨(), rfl, trivial, ht ▸ hP9, hD9⟩, hS.F ht⟩) hS.2.2 dX0_write_39

def F_X1_next (p1 : Int32) (c_x : Int64) : Option (Int32 × Int64) :=
  if p1 ≤ (0 : Int32) then some ((0 : Int32), (c_x * (6364136223846793005 : Int64)) + (1442695040888963407 : Int64)) else nzL p1.toInt64 (some (((lushrF ((c_x * (6364136223846793005 : Int64)) + (1442695040888963407 : Int64)) (33 : Int32)) - (lushrF ((c_x * (6364136223846793005 : Int64)) + (1442695040888963407 : Int64)) (33 : Int32)) / p1.toInt64 * p1.toInt64).toInt32, (c_x * (6364136223846793005 : Int64)) + (1442695040888963407 : Int64)))
abbrev w_X1_next (E : EE) (a_ : Nat) (c_x : Int64) (c_sort : Int32) (c_a : Int32) (c_b : Int32) (c_c : Int32) : va_W := [(a_, .inr (2, [.long c_x, .int c_sort, .int c_a, .int c_b, .int c_c]))]
def v_f_X1_next : List Cond := .code yX1_next cX1_next 2 (some .int) :: ([.fieldLink RX1 9 "HushWatch$Draws" "x" "J", .constantLong RX1 32 (6364136223846793005), .constantLong RX1 34 (1442695040888963407)] ++ (wsX10 ++ ([])))
theorem gw_f_X1_next : v_f_X1_next.all goodWord = true := by decide +kernel
theorem i_f_X1_next_X1 : ∀ w ∈ wsX10, w ∈ v_f_X1_next := fun _ h => List.mem_cons_of_mem _ (List.mem_append_right _ (List.mem_append_left _ h))
theorem hd_X1_next : yX1_next.cls = RX1 ∧ yX1_next.cls ≠ "java/lang/invoke/MethodHandle" ∧ yX1_next.cls ≠ "java/lang/invoke/VarHandle" ∧ (parseMethodDescriptor yX1_next.desc).map (fun d => d.parameters.length) = some 1 := by decide +kernel
set_option maxHeartbeats 4000000 in
set_option maxRecDepth 100000 in
theorem f_X1_next (l : Launch) (E : EE) (sz : Nat) {a_ : Nat} {p1 : Int32} {c_x : Int64} {c_sort : Int32} {c_a : Int32} {c_b : Int32} {c_c : Int32} {rr : Int32} {n_x : Int64} (hF : F_X1_next p1 c_x = some (rr, n_x)) : Met l yX1_next v_f_X1_next (({ frames := 0, cells := 0, slots := 0, locals := 0 } : Room)) (va_Pc [.ref a_, .int p1] (pW E sz (w_X1_next E a_ c_x c_sort c_a c_b c_c))) (va_Qi (fun (q : Int32) (_u : Unit) => q = rr) (fun (_u : Unit) tt => va_P E.1 vwCl (w_X1_next E a_ n_x c_sort c_a c_b c_c) tt.heap ∧ va_D (va_A (w_X1_next E a_ c_x c_sort c_a c_b c_c) sz) (w_X1_next E a_ n_x c_sort c_a c_b c_c)) (va_A (w_X1_next E a_ c_x c_sort c_a c_b c_c) sz)) 0 0 (va_A (w_X1_next E a_ c_x c_sort c_a c_b c_c) sz) := by
  refine Met.ofW (cc := cX1_next) (maxL := 2) (ret := (some .int)) (by decide) rfl ?_
  intro p e s m args below meth c s₁ B hml hv
  obtain ⟨rfl, hsz, ⟨hK, hN⟩, hP, hD0⟩ := hv
  have hx := B.exec
  have hb := B.bytes
  have hr := B.returns
  have hts := atoms_spec (ws := v_f_X1_next) B.pre
  have hown : s.vm.findClass RX1 = some m.cls := own_of hd_X1_next.1 (findClass_of_methodNamed B.named)
  have hlocks : meth.locks = false := B.notSynchronized
  subst hsz
  have hD := hD0.self (sz := s.heap.size)
  generalize hAe : va_A (w_X1_next E a_ c_x c_sort c_a c_b c_c) s.heap.size = A at hD ⊢
  have hA : ∀ q : Nat, s.heap.size ≤ q → A q := fun q h => by rw [← hAe]; exact Or.inr h
  have hS : va_S A s.heap s.heap [] := va_S.rf
  have hl := lv_entry ([.ref a_, .int p1]) (n := 2) (Nat.le_of_ble_eq_true rfl)
  rw [lg_entry_eq]
  generalize (lg_sl ([.ref a_, .int p1]) ++ List.replicate (2 - (lg_sl ([.ref a_, .int p1])).length) Slot.unset).toArray = ls at hl ⊢
  have hl : lv_has ls 2 [(0, .ref a_), (1, .int p1)] := hl
  obtain ⟨Q, hQ⟩ : ∃ Q : State → Prop, Q = MQ below (va_Qi (fun (q : Int32) (_u : Unit) => q = rr) (fun (_u : Unit) tt => va_P E.1 vwCl (w_X1_next E a_ n_x c_sort c_a c_b c_c) tt.heap ∧ va_D A (w_X1_next E a_ n_x c_sort c_a c_b c_c)) A) #[Value.ref a_, Value.int p1] s 0 0 A := ⟨_, rfl⟩
  rw [← hQ]
  change W p l e ({ frames := 0, cells := 0, slots := 0, locals := 0 } : Room) s m #[Value.ref a_, Value.int p1] below meth c s.heap [] 0 0 Q (F0 m 0 ls [])
  suffices hh9 : ∀ (H : Heap) (locs : List Loc), va_P E.1 vwCl (w_X1_next E a_ c_x c_sort c_a c_b c_c) H → va_D A (w_X1_next E a_ c_x c_sort c_a c_b c_c) → va_S A s.heap H locs → W p l e ({ frames := 0, cells := 0, slots := 0, locals := 0 } : Room) s m #[Value.ref a_, Value.int p1] below meth c H locs 0 0 Q (F0 m 0 ls []) from hh9 s.heap [] hP hD hS
  clear hP hD hS
  intro H locs hP hD hS
  replace hP : va_P E.1 vwCl [(a_, .inr (2, [.long c_x, .int c_sort, .int c_a, .int c_b, .int c_c]))] H := hP
  replace hD : va_D A [(a_, .inr (2, [.long c_x, .int c_sort, .int c_a, .int c_b, .int c_c]))] := hD
  unfold F_X1_next at hF
  refine lv_aload_n hx hb dX1_next_0 rfl (lv_at hl 0 rfl) ?_
  refine lv_aload_n hx hb dX1_next_1 rfl (lv_at hl 0 rfl) ?_
  refine gt_X1_0 (v := .long c_x) hx hb hts i_f_X1_next_X1 hown hK hP 0 rfl (hts (.fieldLink RX1 9 "HushWatch$Draws" "x" "J") (List.mem_of_getElem? (i := 1) rfl)) rfl dX1_next_2 ?_
  refine lv_ldc2 (v := 6364136223846793005) hx hb hown (hts (.constantLong RX1 32 (6364136223846793005)) (List.mem_of_getElem? (i := 2) rfl)) dX1_next_5 ?_
  refine lv_lmul hx hb dX1_next_8 ?_
  refine lv_ldc2 (v := 1442695040888963407) hx hb hown (hts (.constantLong RX1 34 (1442695040888963407)) (List.mem_of_getElem? (i := 3) rfl)) dX1_next_9 ?_
  refine lv_ladd hx hb dX1_next_12 ?_
  refine pt_X1_0 (v := .long ((c_x * (6364136223846793005 : Int64)) + (1442695040888963407 : Int64))) hx hb hts i_f_X1_next_X1 hown hK hP hD hS 0 rfl (hts (.fieldLink RX1 9 "HushWatch$Draws" "x" "J") (List.mem_of_getElem? (i := 1) rfl)) rfl rfl (Nat.le_of_ble_eq_true rfl) dX1_next_13 (fun H locs hP hD hS => ?_)
  replace hP : va_P E.1 vwCl [(a_, .inr (2, [.long ((c_x * (6364136223846793005 : Int64)) + (1442695040888963407 : Int64)), .int c_sort, .int c_a, .int c_b, .int c_c]))] H := hP
  replace hD : va_D A [(a_, .inr (2, [.long ((c_x * (6364136223846793005 : Int64)) + (1442695040888963407 : Int64)), .int c_sort, .int c_a, .int c_b, .int c_c]))] := hD
  refine lv_iload_n hx hb dX1_next_16 rfl (lv_at hl 1 rfl) ?_
  refine lv_if_le (tgt := 34) hx hb dX1_next_17 (by decide) (fun c_1 => ?_) (fun c_1 => ?_)
  ·
    replace hF := ip c_1 hF
    refine lv_iconst (v := 0) hx hb dX1_next_34 (by decide) ?_
    rw [hQ]
    have h9 := fin9 (P := fun u9 : Int32 × Int64 => (0 : Int32) = u9.1 ∧ va_P E.1 vwCl (w_X1_next E a_ u9.2 c_sort c_a c_b c_c) H ∧ va_D A (w_X1_next E a_ u9.2 c_sort c_a c_b c_c)) hF ⟨rfl, hP, hD⟩
    obtain ⟨e9_0, hP9, hD9⟩ := h9
    exact W.iret (v := (0 : Int32)) hx hb hr (fun tt ht hW => ⟨⟨_, (), rfl, e9_0, ht ▸ hP9, hD9⟩, hS.F ht⟩) hS.2.2 dX1_next_35
  ·
    replace hF := inn c_1 hF
    refine lv_aload_n hx hb dX1_next_20 rfl (lv_at hl 0 rfl) ?_
    refine gt_X1_0 (v := .long ((c_x * (6364136223846793005 : Int64)) + (1442695040888963407 : Int64))) hx hb hts i_f_X1_next_X1 hown hK hP 0 rfl (hts (.fieldLink RX1 9 "HushWatch$Draws" "x" "J") (List.mem_of_getElem? (i := 1) rfl)) rfl dX1_next_21 ?_
    refine lv_bipush (v := 33) hx hb dX1_next_24 (by decide) ?_
    refine lv_lushr (v := (lushrF ((c_x * (6364136223846793005 : Int64)) + (1442695040888963407 : Int64)) (33 : Int32))) hx hb dX1_next_26 rfl ?_
    refine lv_iload_n hx hb dX1_next_27 rfl (lv_at hl 1 rfl) ?_
    refine lv_i2l (v := p1.toInt64) hx hb dX1_next_28 rfl ?_
    replace hF := nzL_s hF
    obtain ⟨hz_2, hF⟩ := hF
    refine lv_lrem hx hb dX1_next_29 (hz_2) ?_
    refine lv_l2i (v := ((lushrF ((c_x * (6364136223846793005 : Int64)) + (1442695040888963407 : Int64)) (33 : Int32)) - (lushrF ((c_x * (6364136223846793005 : Int64)) + (1442695040888963407 : Int64)) (33 : Int32)) / p1.toInt64 * p1.toInt64).toInt32) hx hb dX1_next_30 rfl ?_
    refine lv_goto (tgt := 35) hx hb dX1_next_31 (by decide) ?_
    rw [hQ]
    have h9 := fin9 (P := fun u9 : Int32 × Int64 => (((lushrF ((c_x * (6364136223846793005 : Int64)) + (1442695040888963407 : Int64)) (33 : Int32)) - (lushrF ((c_x * (6364136223846793005 : Int64)) + (1442695040888963407 : Int64)) (33 : Int32)) / p1.toInt64 * p1.toInt64).toInt32) = u9.1 ∧ va_P E.1 vwCl (w_X1_next E a_ u9.2 c_sort c_a c_b c_c) H ∧ va_D A (w_X1_next E a_ u9.2 c_sort c_a c_b c_c)) hF ⟨rfl, hP, hD⟩
    obtain ⟨e9_0, hP9, hD9⟩ := h9
    exact W.iret (v := ((lushrF ((c_x * (6364136223846793005 : Int64)) + (1442695040888963407 : Int64)) (33 : Int32)) - (lushrF ((c_x * (6364136223846793005 : Int64)) + (1442695040888963407 : Int64)) (33 : Int32)) / p1.toInt64 * p1.toInt64).toInt32) hx hb hr (fun tt ht hW => ⟨⟨_, (), rfl, e9_0, ht ▸ hP9, hD9⟩, hS.F ht⟩) hS.2.2 dX1_next_35

def F_X1_pickAct (p1 : Int32) (c_x : Int64) (c_sort : Int32) (c_a : Int32) (c_b : Int32) (c_c : Int32) : Option (Int64 × Int32 × Int32 × Int32 × Int32) :=
  bd2 (F_X1_next (8 : Int32) c_x) (fun r_1 w_2 => if r_1 = (7 : Int32) then some (w_2, (1 : Int32), (-1 : Int32), c_b, c_c) else bd2 (F_X1_next p1 w_2) (fun r_5 w_6 => if r_1 = (6 : Int32) then bd2 (F_X1_next (9 : Int32) w_6) (fun r_15 w_16 => some (w_16, (4 : Int32), r_5, r_15 + (1 : Int32), c_c)) else bd2 (F_X1_next (21 : Int32) w_6) (fun r_9 w_10 => bd2 (F_X1_next (21 : Int32) w_10) (fun r_12 w_13 => some (w_13, (0 : Int32), r_5, r_9 - (10 : Int32), r_12 - (10 : Int32))))))
abbrev w_X1_pickAct (E : EE) (a_ : Nat) (c_x : Int64) (c_sort : Int32) (c_a : Int32) (c_b : Int32) (c_c : Int32) : va_W := [(a_, .inr (2, [.long c_x, .int c_sort, .int c_a, .int c_b, .int c_c]))]
def v_f_X1_pickAct : List Cond := .code yX1_pickAct cX1_pickAct 3 none :: ([.fieldLink RX1 19 "HushWatch$Draws" "a" "I", .fieldLink RX1 15 "HushWatch$Draws" "sort" "I", .fieldLink RX1 22 "HushWatch$Draws" "b" "I", .fieldLink RX1 25 "HushWatch$Draws" "c" "I", .methodLink RX1 28 yX1_next, .instanceMethod yX1_next, .selects RX1 yX1_next yX1_next, .initialized RX1] ++ (v_f_X1_next ++ (wsX10 ++ ([]))))
theorem gw_f_X1_pickAct : v_f_X1_pickAct.all goodWord = true := by decide +kernel
theorem i_f_X1_pickAct_X1 : ∀ w ∈ wsX10, w ∈ v_f_X1_pickAct := fun _ h => List.mem_cons_of_mem _ (List.mem_append_right _ (List.mem_append_right _ (List.mem_append_left _ h)))
theorem g_f_X1_pickAct_f_X1_next_28 : GoodIn v_f_X1_pickAct (wsV RX1 28 RX1 yX1_next v_f_X1_next) := goodIn_app (goodIn_of _ (by decide +kernel)) (goodIn_sub (fun _ h => List.mem_cons_of_mem _ (List.mem_append_right _ (List.mem_append_left _ h))) gw_f_X1_next)
theorem hd_X1_pickAct : yX1_pickAct.cls = RX1 ∧ yX1_pickAct.cls ≠ "java/lang/invoke/MethodHandle" ∧ yX1_pickAct.cls ≠ "java/lang/invoke/VarHandle" ∧ (parseMethodDescriptor yX1_pickAct.desc).map (fun d => d.parameters.length) = some 1 := by decide +kernel
set_option maxHeartbeats 4000000 in
set_option maxRecDepth 100000 in
theorem f_X1_pickAct (l : Launch) (E : EE) (sz : Nat) {a_ : Nat} {p1 : Int32} {c_x : Int64} {c_sort : Int32} {c_a : Int32} {c_b : Int32} {c_c : Int32} {n_x : Int64} {n_sort : Int32} {n_a : Int32} {n_b : Int32} {n_c : Int32} (hF : F_X1_pickAct p1 c_x c_sort c_a c_b c_c = some (n_x, n_sort, n_a, n_b, n_c)) : Met l yX1_pickAct v_f_X1_pickAct (({ frames := 1, cells := 0, slots := 0, locals := 21 } : Room)) (va_Pc [.ref a_, .int p1] (pW E sz (w_X1_pickAct E a_ c_x c_sort c_a c_b c_c))) (va_Qv (fun (_u : Unit) => True) (fun (_u : Unit) tt => va_P E.1 vwCl (w_X1_pickAct E a_ n_x n_sort n_a n_b n_c) tt.heap ∧ va_D (va_A (w_X1_pickAct E a_ c_x c_sort c_a c_b c_c) sz) (w_X1_pickAct E a_ n_x n_sort n_a n_b n_c)) (va_A (w_X1_pickAct E a_ c_x c_sort c_a c_b c_c) sz)) 0 0 (va_A (w_X1_pickAct E a_ c_x c_sort c_a c_b c_c) sz) := by
  refine Met.ofW (cc := cX1_pickAct) (maxL := 3) (ret := none) (by decide) rfl ?_
  intro p e s m args below meth c s₁ B hml hv
  obtain ⟨rfl, hsz, ⟨hK, hN⟩, hP, hD0⟩ := hv
  have hx := B.exec
  have hb := B.bytes
  have hr := B.returns
  have hts := atoms_spec (ws := v_f_X1_pickAct) B.pre
  have hown : s.vm.findClass RX1 = some m.cls := own_of hd_X1_pickAct.1 (findClass_of_methodNamed B.named)
  have hlocks : meth.locks = false := B.notSynchronized
  subst hsz
  have hD := hD0.self (sz := s.heap.size)
  generalize hAe : va_A (w_X1_pickAct E a_ c_x c_sort c_a c_b c_c) s.heap.size = A at hD ⊢
  have hA : ∀ q : Nat, s.heap.size ≤ q → A q := fun q h => by rw [← hAe]; exact Or.inr h
  have hS : va_S A s.heap s.heap [] := va_S.rf
  have hl := lv_entry ([.ref a_, .int p1]) (n := 3) (Nat.le_of_ble_eq_true rfl)
  rw [lg_entry_eq]
  generalize (lg_sl ([.ref a_, .int p1]) ++ List.replicate (3 - (lg_sl ([.ref a_, .int p1])).length) Slot.unset).toArray = ls at hl ⊢
  have hl : lv_has ls 3 [(0, .ref a_), (1, .int p1)] := hl
  obtain ⟨Q, hQ⟩ : ∃ Q : State → Prop, Q = MQ below (va_Qv (fun (_u : Unit) => True) (fun (_u : Unit) tt => va_P E.1 vwCl (w_X1_pickAct E a_ n_x n_sort n_a n_b n_c) tt.heap ∧ va_D A (w_X1_pickAct E a_ n_x n_sort n_a n_b n_c)) A) #[Value.ref a_, Value.int p1] s 0 0 A := ⟨_, rfl⟩
  rw [← hQ]
  change W p l e ({ frames := 1, cells := 0, slots := 0, locals := 21 } : Room) s m #[Value.ref a_, Value.int p1] below meth c s.heap [] 0 0 Q (F0 m 0 ls [])
  suffices hh9 : ∀ (H : Heap) (locs : List Loc), va_P E.1 vwCl (w_X1_pickAct E a_ c_x c_sort c_a c_b c_c) H → va_D A (w_X1_pickAct E a_ c_x c_sort c_a c_b c_c) → va_S A s.heap H locs → W p l e ({ frames := 1, cells := 0, slots := 0, locals := 21 } : Room) s m #[Value.ref a_, Value.int p1] below meth c H locs 0 0 Q (F0 m 0 ls []) from hh9 s.heap [] hP hD hS
  clear hP hD hS
  intro H locs hP hD hS
  replace hP : va_P E.1 vwCl [(a_, .inr (2, [.long c_x, .int c_sort, .int c_a, .int c_b, .int c_c]))] H := hP
  replace hD : va_D A [(a_, .inr (2, [.long c_x, .int c_sort, .int c_a, .int c_b, .int c_c]))] := hD
  unfold F_X1_pickAct at hF
  refine lv_aload_n hx hb dX1_pickAct_0 rfl (lv_at hl 0 rfl) ?_
  refine lv_bipush (v := 8) hx hb dX1_pickAct_1 (by decide) ?_
  replace hF := bd2_s hF
  obtain ⟨r_1, w_2, hc_3, hF⟩ := hF
  obtain ⟨hPc, hDc, hFc⟩ := wcut (wc := (w_X1_next E a_ c_x c_sort c_a c_b c_c)) hP hD hS hA [0] (by decide) rfl
  have hrc := va_recv hK hPc (ci := 2) (q0 := 0) rfl rfl
  refine cE_i (wc := (w_X1_next E a_ c_x c_sort c_a c_b c_c)) (wr := []) (w1 := (w_X1_next E a_ w_2 c_sort c_a c_b c_c)) (va_runV (As := [.int (8 : Int32)]) (rest := [])  ⟨hx, hb, hml, hown, hts⟩ (f_X1_next l E H.size (a_ := a_) (p1 := (8 : Int32)) (c_x := c_x) (c_sort := c_sort) (c_a := c_a) (c_b := c_b) (c_c := c_c) hc_3) (cwV 1 hts g_f_X1_pickAct_f_X1_next_28 rfl rfl rfl hd_X1_next ⟨Nat.le_of_ble_eq_true rfl, Nat.le_of_ble_eq_true rfl⟩) ⟨pW.blind, hrc, (pW.pre ⟨hK, hN⟩ hPc hDc)⟩ rfl rfl hl.1 rfl (lv_room (Nat.le_of_ble_eq_true rfl)) dX1_pickAct_3 ⟨Nat.le_of_ble_eq_true rfl, Nat.le_of_ble_eq_true rfl⟩) hS hFc hP hD [0] [] rfl rfl (by decide) (by decide) (fun H locs hP hD hS => ?_)
  replace hP : va_P E.1 vwCl [(a_, .inr (2, [.long w_2, .int c_sort, .int c_a, .int c_b, .int c_c]))] H := hP
  replace hD : va_D A [(a_, .inr (2, [.long w_2, .int c_sort, .int c_a, .int c_b, .int c_c]))] := hD
  refine lv_istore_n (lv' := [(2, .int r_1), (0, .ref a_), (1, .int p1)]) hx hb dX1_pickAct_6 rfl hl (by decide) rfl (fun ls hl => ?_)
  refine lv_iload_n hx hb dX1_pickAct_7 rfl (lv_at hl 0 rfl) ?_
  refine lv_bipush (v := 7) hx hb dX1_pickAct_8 (by decide) ?_
  refine lv_icmp_ne (tgt := 24) hx hb dX1_pickAct_10 (by decide) (fun c_4 => ?_) (fun c_4 => ?_)
  ·
    replace hF := inn c_4 hF
    refine lv_aload_n hx hb dX1_pickAct_24 rfl (lv_at hl 1 rfl) ?_
    refine lv_aload_n hx hb dX1_pickAct_25 rfl (lv_at hl 1 rfl) ?_
    refine lv_iload_n hx hb dX1_pickAct_26 rfl (lv_at hl 2 rfl) ?_
    replace hF := bd2_s hF
    obtain ⟨r_5, w_6, hc_7, hF⟩ := hF
    obtain ⟨hPc, hDc, hFc⟩ := wcut (wc := (w_X1_next E a_ w_2 c_sort c_a c_b c_c)) hP hD hS hA [0] (by decide) rfl
    have hrc := va_recv hK hPc (ci := 2) (q0 := 0) rfl rfl
    refine cE_i (wc := (w_X1_next E a_ w_2 c_sort c_a c_b c_c)) (wr := []) (w1 := (w_X1_next E a_ w_6 c_sort c_a c_b c_c)) (va_runV (As := [.int p1]) (rest := [.ref a_])  ⟨hx, hb, hml, hown, hts⟩ (f_X1_next l E H.size (a_ := a_) (p1 := p1) (c_x := w_2) (c_sort := c_sort) (c_a := c_a) (c_b := c_b) (c_c := c_c) hc_7) (cwV 1 hts g_f_X1_pickAct_f_X1_next_28 rfl rfl rfl hd_X1_next ⟨Nat.le_of_ble_eq_true rfl, Nat.le_of_ble_eq_true rfl⟩) ⟨pW.blind, hrc, (pW.pre ⟨hK, hN⟩ hPc hDc)⟩ rfl rfl hl.1 rfl (lv_room (Nat.le_of_ble_eq_true rfl)) dX1_pickAct_27 ⟨Nat.le_of_ble_eq_true rfl, Nat.le_of_ble_eq_true rfl⟩) hS hFc hP hD [0] [] rfl rfl (by decide) (by decide) (fun H locs hP hD hS => ?_)
    replace hP : va_P E.1 vwCl [(a_, .inr (2, [.long w_6, .int c_sort, .int c_a, .int c_b, .int c_c]))] H := hP
    replace hD : va_D A [(a_, .inr (2, [.long w_6, .int c_sort, .int c_a, .int c_b, .int c_c]))] := hD
    refine pt_X1_2 (v := .int r_5) hx hb hts i_f_X1_pickAct_X1 hown hK hP hD hS 0 rfl (hts (.fieldLink RX1 19 "HushWatch$Draws" "a" "I") (List.mem_of_getElem? (i := 1) rfl)) rfl rfl (Nat.le_of_ble_eq_true rfl) dX1_pickAct_30 (fun H locs hP hD hS => ?_)
    replace hP : va_P E.1 vwCl [(a_, .inr (2, [.long w_6, .int c_sort, .int r_5, .int c_b, .int c_c]))] H := hP
    replace hD : va_D A [(a_, .inr (2, [.long w_6, .int c_sort, .int r_5, .int c_b, .int c_c]))] := hD
    refine lv_iload_n hx hb dX1_pickAct_33 rfl (lv_at hl 0 rfl) ?_
    refine lv_bipush (v := 6) hx hb dX1_pickAct_34 (by decide) ?_
    refine lv_icmp_ne (tgt := 57) hx hb dX1_pickAct_36 (by decide) (fun c_8 => ?_) (fun c_8 => ?_)
    ·
      replace hF := inn c_8 hF
      refine lv_aload_n hx hb dX1_pickAct_57 rfl (lv_at hl 1 rfl) ?_
      refine lv_iconst (v := 0) hx hb dX1_pickAct_58 (by decide) ?_
      refine pt_X1_1 (v := .int (0 : Int32)) hx hb hts i_f_X1_pickAct_X1 hown hK hP hD hS 0 rfl (hts (.fieldLink RX1 15 "HushWatch$Draws" "sort" "I") (List.mem_of_getElem? (i := 2) rfl)) rfl rfl (Nat.le_of_ble_eq_true rfl) dX1_pickAct_59 (fun H locs hP hD hS => ?_)
      replace hP : va_P E.1 vwCl [(a_, .inr (2, [.long w_6, .int (0 : Int32), .int r_5, .int c_b, .int c_c]))] H := hP
      replace hD : va_D A [(a_, .inr (2, [.long w_6, .int (0 : Int32), .int r_5, .int c_b, .int c_c]))] := hD
      refine lv_aload_n hx hb dX1_pickAct_62 rfl (lv_at hl 1 rfl) ?_
      refine lv_aload_n hx hb dX1_pickAct_63 rfl (lv_at hl 1 rfl) ?_
      refine lv_bipush (v := 21) hx hb dX1_pickAct_64 (by decide) ?_
      replace hF := bd2_s hF
      obtain ⟨r_9, w_10, hc_11, hF⟩ := hF
      obtain ⟨hPc, hDc, hFc⟩ := wcut (wc := (w_X1_next E a_ w_6 (0 : Int32) r_5 c_b c_c)) hP hD hS hA [0] (by decide) rfl
      have hrc := va_recv hK hPc (ci := 2) (q0 := 0) rfl rfl
      refine cE_i (wc := (w_X1_next E a_ w_6 (0 : Int32) r_5 c_b c_c)) (wr := []) (w1 := (w_X1_next E a_ w_10 (0 : Int32) r_5 c_b c_c)) (va_runV (As := [.int (21 : Int32)]) (rest := [.ref a_])  ⟨hx, hb, hml, hown, hts⟩ (f_X1_next l E H.size (a_ := a_) (p1 := (21 : Int32)) (c_x := w_6) (c_sort := (0 : Int32)) (c_a := r_5) (c_b := c_b) (c_c := c_c) hc_11) (cwV 1 hts g_f_X1_pickAct_f_X1_next_28 rfl rfl rfl hd_X1_next ⟨Nat.le_of_ble_eq_true rfl, Nat.le_of_ble_eq_true rfl⟩) ⟨pW.blind, hrc, (pW.pre ⟨hK, hN⟩ hPc hDc)⟩ rfl rfl hl.1 rfl (lv_room (Nat.le_of_ble_eq_true rfl)) dX1_pickAct_66 ⟨Nat.le_of_ble_eq_true rfl, Nat.le_of_ble_eq_true rfl⟩) hS hFc hP hD [0] [] rfl rfl (by decide) (by decide) (fun H locs hP hD hS => ?_)
      replace hP : va_P E.1 vwCl [(a_, .inr (2, [.long w_10, .int (0 : Int32), .int r_5, .int c_b, .int c_c]))] H := hP
      replace hD : va_D A [(a_, .inr (2, [.long w_10, .int (0 : Int32), .int r_5, .int c_b, .int c_c]))] := hD
      refine lv_bipush (v := 10) hx hb dX1_pickAct_69 (by decide) ?_
      refine lv_isub hx hb dX1_pickAct_71 ?_
      refine pt_X1_3 (v := .int (r_9 - (10 : Int32))) hx hb hts i_f_X1_pickAct_X1 hown hK hP hD hS 0 rfl (hts (.fieldLink RX1 22 "HushWatch$Draws" "b" "I") (List.mem_of_getElem? (i := 3) rfl)) rfl rfl (Nat.le_of_ble_eq_true rfl) dX1_pickAct_72 (fun H locs hP hD hS => ?_)
      replace hP : va_P E.1 vwCl [(a_, .inr (2, [.long w_10, .int (0 : Int32), .int r_5, .int (r_9 - (10 : Int32)), .int c_c]))] H := hP
      replace hD : va_D A [(a_, .inr (2, [.long w_10, .int (0 : Int32), .int r_5, .int (r_9 - (10 : Int32)), .int c_c]))] := hD
      refine lv_aload_n hx hb dX1_pickAct_75 rfl (lv_at hl 1 rfl) ?_
      refine lv_aload_n hx hb dX1_pickAct_76 rfl (lv_at hl 1 rfl) ?_
      refine lv_bipush (v := 21) hx hb dX1_pickAct_77 (by decide) ?_
      replace hF := bd2_s hF
      obtain ⟨r_12, w_13, hc_14, hF⟩ := hF
      obtain ⟨hPc, hDc, hFc⟩ := wcut (wc := (w_X1_next E a_ w_10 (0 : Int32) r_5 (r_9 - (10 : Int32)) c_c)) hP hD hS hA [0] (by decide) rfl
      have hrc := va_recv hK hPc (ci := 2) (q0 := 0) rfl rfl
      refine cE_i (wc := (w_X1_next E a_ w_10 (0 : Int32) r_5 (r_9 - (10 : Int32)) c_c)) (wr := []) (w1 := (w_X1_next E a_ w_13 (0 : Int32) r_5 (r_9 - (10 : Int32)) c_c)) (va_runV (As := [.int (21 : Int32)]) (rest := [.ref a_])  ⟨hx, hb, hml, hown, hts⟩ (f_X1_next l E H.size (a_ := a_) (p1 := (21 : Int32)) (c_x := w_10) (c_sort := (0 : Int32)) (c_a := r_5) (c_b := r_9 - (10 : Int32)) (c_c := c_c) hc_14) (cwV 1 hts g_f_X1_pickAct_f_X1_next_28 rfl rfl rfl hd_X1_next ⟨Nat.le_of_ble_eq_true rfl, Nat.le_of_ble_eq_true rfl⟩) ⟨pW.blind, hrc, (pW.pre ⟨hK, hN⟩ hPc hDc)⟩ rfl rfl hl.1 rfl (lv_room (Nat.le_of_ble_eq_true rfl)) dX1_pickAct_79 ⟨Nat.le_of_ble_eq_true rfl, Nat.le_of_ble_eq_true rfl⟩) hS hFc hP hD [0] [] rfl rfl (by decide) (by decide) (fun H locs hP hD hS => ?_)
      replace hP : va_P E.1 vwCl [(a_, .inr (2, [.long w_13, .int (0 : Int32), .int r_5, .int (r_9 - (10 : Int32)), .int c_c]))] H := hP
      replace hD : va_D A [(a_, .inr (2, [.long w_13, .int (0 : Int32), .int r_5, .int (r_9 - (10 : Int32)), .int c_c]))] := hD
      refine lv_bipush (v := 10) hx hb dX1_pickAct_82 (by decide) ?_
      refine lv_isub hx hb dX1_pickAct_84 ?_
      refine pt_X1_4 (v := .int (r_12 - (10 : Int32))) hx hb hts i_f_X1_pickAct_X1 hown hK hP hD hS 0 rfl (hts (.fieldLink RX1 25 "HushWatch$Draws" "c" "I") (List.mem_of_getElem? (i := 4) rfl)) rfl rfl (Nat.le_of_ble_eq_true rfl) dX1_pickAct_85 (fun H locs hP hD hS => ?_)
      replace hP : va_P E.1 vwCl [(a_, .inr (2, [.long w_13, .int (0 : Int32), .int r_5, .int (r_9 - (10 : Int32)), .int (r_12 - (10 : Int32))]))] H := hP
      replace hD : va_D A [(a_, .inr (2, [.long w_13, .int (0 : Int32), .int r_5, .int (r_9 - (10 : Int32)), .int (r_12 - (10 : Int32))]))] := hD
      rw [hQ]
      have h9 := fin9 (P := fun u9 : Int64 × Int32 × Int32 × Int32 × Int32 => va_P E.1 vwCl (w_X1_pickAct E a_ u9.1 u9.2.1 u9.2.2.1 u9.2.2.2.1 u9.2.2.2.2) H ∧ va_D A (w_X1_pickAct E a_ u9.1 u9.2.1 u9.2.2.1 u9.2.2.2.1 u9.2.2.2.2)) hF ⟨hP, hD⟩
      obtain ⟨hP9, hD9⟩ := h9
      exact W.vret hx hb hr (fun tt ht hW => ⟨⟨(), rfl, trivial, ht ▸ hP9, hD9⟩, hS.F ht⟩) hS.2.2 dX1_pickAct_88
    ·
      replace hF := ip c_8 hF
      refine lv_aload_n hx hb dX1_pickAct_39 rfl (lv_at hl 1 rfl) ?_
      refine lv_iconst (v := 4) hx hb dX1_pickAct_40 (by decide) ?_
      refine pt_X1_1 (v := .int (4 : Int32)) hx hb hts i_f_X1_pickAct_X1 hown hK hP hD hS 0 rfl (hts (.fieldLink RX1 15 "HushWatch$Draws" "sort" "I") (List.mem_of_getElem? (i := 2) rfl)) rfl rfl (Nat.le_of_ble_eq_true rfl) dX1_pickAct_41 (fun H locs hP hD hS => ?_)
      replace hP : va_P E.1 vwCl [(a_, .inr (2, [.long w_6, .int (4 : Int32), .int r_5, .int c_b, .int c_c]))] H := hP
      replace hD : va_D A [(a_, .inr (2, [.long w_6, .int (4 : Int32), .int r_5, .int c_b, .int c_c]))] := hD
      refine lv_aload_n hx hb dX1_pickAct_44 rfl (lv_at hl 1 rfl) ?_
      refine lv_aload_n hx hb dX1_pickAct_45 rfl (lv_at hl 1 rfl) ?_
      refine lv_bipush (v := 9) hx hb dX1_pickAct_46 (by decide) ?_
      replace hF := bd2_s hF
      obtain ⟨r_15, w_16, hc_17, hF⟩ := hF
      obtain ⟨hPc, hDc, hFc⟩ := wcut (wc := (w_X1_next E a_ w_6 (4 : Int32) r_5 c_b c_c)) hP hD hS hA [0] (by decide) rfl
      have hrc := va_recv hK hPc (ci := 2) (q0 := 0) rfl rfl
      refine cE_i (wc := (w_X1_next E a_ w_6 (4 : Int32) r_5 c_b c_c)) (wr := []) (w1 := (w_X1_next E a_ w_16 (4 : Int32) r_5 c_b c_c)) (va_runV (As := [.int (9 : Int32)]) (rest := [.ref a_])  ⟨hx, hb, hml, hown, hts⟩ (f_X1_next l E H.size (a_ := a_) (p1 := (9 : Int32)) (c_x := w_6) (c_sort := (4 : Int32)) (c_a := r_5) (c_b := c_b) (c_c := c_c) hc_17) (cwV 1 hts g_f_X1_pickAct_f_X1_next_28 rfl rfl rfl hd_X1_next ⟨Nat.le_of_ble_eq_true rfl, Nat.le_of_ble_eq_true rfl⟩) ⟨pW.blind, hrc, (pW.pre ⟨hK, hN⟩ hPc hDc)⟩ rfl rfl hl.1 rfl (lv_room (Nat.le_of_ble_eq_true rfl)) dX1_pickAct_48 ⟨Nat.le_of_ble_eq_true rfl, Nat.le_of_ble_eq_true rfl⟩) hS hFc hP hD [0] [] rfl rfl (by decide) (by decide) (fun H locs hP hD hS => ?_)
      replace hP : va_P E.1 vwCl [(a_, .inr (2, [.long w_16, .int (4 : Int32), .int r_5, .int c_b, .int c_c]))] H := hP
      replace hD : va_D A [(a_, .inr (2, [.long w_16, .int (4 : Int32), .int r_5, .int c_b, .int c_c]))] := hD
      refine lv_iconst (v := 1) hx hb dX1_pickAct_51 (by decide) ?_
      refine lv_iadd hx hb dX1_pickAct_52 ?_
      refine pt_X1_3 (v := .int (r_15 + (1 : Int32))) hx hb hts i_f_X1_pickAct_X1 hown hK hP hD hS 0 rfl (hts (.fieldLink RX1 22 "HushWatch$Draws" "b" "I") (List.mem_of_getElem? (i := 3) rfl)) rfl rfl (Nat.le_of_ble_eq_true rfl) dX1_pickAct_53 (fun H locs hP hD hS => ?_)
      replace hP : va_P E.1 vwCl [(a_, .inr (2, [.long w_16, .int (4 : Int32), .int r_5, .int (r_15 + (1 : Int32)), .int c_c]))] H := hP
      replace hD : va_D A [(a_, .inr (2, [.long w_16, .int (4 : Int32), .int r_5, .int (r_15 + (1 : Int32)), .int c_c]))] := hD
      rw [hQ]
      have h9 := fin9 (P := fun u9 : Int64 × Int32 × Int32 × Int32 × Int32 => va_P E.1 vwCl (w_X1_pickAct E a_ u9.1 u9.2.1 u9.2.2.1 u9.2.2.2.1 u9.2.2.2.2) H ∧ va_D A (w_X1_pickAct E a_ u9.1 u9.2.1 u9.2.2.1 u9.2.2.2.1 u9.2.2.2.2)) hF ⟨hP, hD⟩
      obtain ⟨hP9, hD9⟩ := h9
      exact W.vret hx hb hr (fun tt ht hW => ⟨⟨(), rfl, trivial, ht ▸ hP9, hD9⟩, hS.F ht⟩) hS.2.2 dX1_pickAct_56
  ·
    replace hF := ip c_4 hF
    refine lv_aload_n hx hb dX1_pickAct_13 rfl (lv_at hl 1 rfl) ?_
    refine lv_iconst (v := 1) hx hb dX1_pickAct_14 (by decide) ?_
    refine pt_X1_1 (v := .int (1 : Int32)) hx hb hts i_f_X1_pickAct_X1 hown hK hP hD hS 0 rfl (hts (.fieldLink RX1 15 "HushWatch$Draws" "sort" "I") (List.mem_of_getElem? (i := 2) rfl)) rfl rfl (Nat.le_of_ble_eq_true rfl) dX1_pickAct_15 (fun H locs hP hD hS => ?_)
    replace hP : va_P E.1 vwCl [(a_, .inr (2, [.long w_2, .int (1 : Int32), .int c_a, .int c_b, .int c_c]))] H := hP
    replace hD : va_D A [(a_, .inr (2, [.long w_2, .int (1 : Int32), .int c_a, .int c_b, .int c_c]))] := hD
    refine lv_aload_n hx hb dX1_pickAct_18 rfl (lv_at hl 1 rfl) ?_
    refine lv_iconst (v := -1) hx hb dX1_pickAct_19 (by decide) ?_
    refine pt_X1_2 (v := .int (-1 : Int32)) hx hb hts i_f_X1_pickAct_X1 hown hK hP hD hS 0 rfl (hts (.fieldLink RX1 19 "HushWatch$Draws" "a" "I") (List.mem_of_getElem? (i := 1) rfl)) rfl rfl (Nat.le_of_ble_eq_true rfl) dX1_pickAct_20 (fun H locs hP hD hS => ?_)
    replace hP : va_P E.1 vwCl [(a_, .inr (2, [.long w_2, .int (1 : Int32), .int (-1 : Int32), .int c_b, .int c_c]))] H := hP
    replace hD : va_D A [(a_, .inr (2, [.long w_2, .int (1 : Int32), .int (-1 : Int32), .int c_b, .int c_c]))] := hD
    rw [hQ]
    have h9 := fin9 (P := fun u9 : Int64 × Int32 × Int32 × Int32 × Int32 => va_P E.1 vwCl (w_X1_pickAct E a_ u9.1 u9.2.1 u9.2.2.1 u9.2.2.2.1 u9.2.2.2.2) H ∧ va_D A (w_X1_pickAct E a_ u9.1 u9.2.1 u9.2.2.1 u9.2.2.2.1 u9.2.2.2.2)) hF ⟨hP, hD⟩
    obtain ⟨hP9, hD9⟩ := h9
    exact W.vret hx hb hr (fun tt ht hW => ⟨⟨(), rfl, trivial, ht ▸ hP9, hD9⟩, hS.F ht⟩) hS.2.2 dX1_pickAct_23

def J_X2_bringBack_28 (c_rows : Nat → Int32) (k0 : Int32) (c_held : Int32) (c_o1_row : Nat → Int32) : Option (Int32 × Int32 × Int32 × (Nat → Int32)) :=
  cpF (k0 * (81 : Int32)) (0 : Int32) (81 : Int32) 3240 81 (nmF (va_cpy c_rows c_o1_row (k0 * (81 : Int32)).toNatClampNeg (0 : Int32).toNatClampNeg (81 : Int32).toNatClampNeg) (fun f_4 => some ((1 : Int32), k0, c_held - (1 : Int32), f_4)))
def F_X2_bringBack (c_rows : Nat → Int32) (c_next : Int32) (c_held : Int32) (c_o1_row : Nat → Int32) : Option (Int32 × Int32 × Int32 × (Nat → Int32)) :=
  if c_held = (0 : Int32) then some ((0 : Int32), c_next, c_held, c_o1_row) else if c_next ≤ (0 : Int32) then J_X2_bringBack_28 c_rows (39 : Int32) c_held c_o1_row else J_X2_bringBack_28 c_rows (c_next - (1 : Int32)) c_held c_o1_row
abbrev w_X2_bringBack (E : EE) (a_ a_rows a_o1 a_o1_row a_o1_partners a_o1_share a_o1_leftOver : Nat) (c_next : Int32) (c_held : Int32) (c_rows : Nat → Int32) (c_o1_askedCount : Int32) (c_o1_outcome : Int32) (c_o1_row : Nat → Int32) : va_W := [(a_, .inr (3, [.ref a_rows, .int c_next, .int c_held])), (a_rows, .inl (E.2.1, 3240, .inl c_rows)), (a_o1, .inr (6, [.ref a_o1_row, .ref a_o1_partners, .int c_o1_askedCount, .int c_o1_outcome, .ref a_o1_share, .ref a_o1_leftOver])), (a_o1_row, .inl (E.2.1, 81, .inl c_o1_row))]
def v_f_X2_bringBack : List Cond := .code yX2_bringBack cX2_bringBack 2 (some .boolean) :: ([.fieldLink RX2 21 "HushWatch$History" "held" "I", .fieldLink RX2 17 "HushWatch$History" "next" "I", .fieldLink RX2 11 "HushWatch$History" "rows" "[I", .methodLink RX2 27 arraycopyName, .native arraycopyName, .static arraycopyName, .initialized "java/lang/System"] ++ (wsX20 ++ (wsX50 ++ ([]))))
theorem gw_f_X2_bringBack : v_f_X2_bringBack.all goodWord = true := by decide +kernel
theorem i_f_X2_bringBack_X2 : ∀ w ∈ wsX20, w ∈ v_f_X2_bringBack := fun _ h => List.mem_cons_of_mem _ (List.mem_append_right _ (List.mem_append_left _ h))
theorem i_f_X2_bringBack_X5 : ∀ w ∈ wsX50, w ∈ v_f_X2_bringBack := fun _ h => List.mem_cons_of_mem _ (List.mem_append_right _ (List.mem_append_right _ (List.mem_append_left _ h)))
theorem hd_X2_bringBack : yX2_bringBack.cls = RX2 ∧ yX2_bringBack.cls ≠ "java/lang/invoke/MethodHandle" ∧ yX2_bringBack.cls ≠ "java/lang/invoke/VarHandle" ∧ (parseMethodDescriptor yX2_bringBack.desc).map (fun d => d.parameters.length) = some 1 := by decide +kernel
set_option maxHeartbeats 4000000 in
set_option maxRecDepth 100000 in
theorem j_X2_bringBack_28 {p : Program} (l : Launch) {e : Env} {s : State} {m : MethodId} {below : List Frame} {meth : Method} {c : Code} {Q : State → Prop} (E : EE) {a_ a_rows a_o1 a_o1_row a_o1_partners a_o1_share a_o1_leftOver : Nat} {c_rows : Nat → Int32} {c_o1_askedCount : Int32} {c_o1_outcome : Int32} {k0 : Int32} {c_next : Int32} {c_held : Int32} {c_o1_row : Nat → Int32} (hx : p.tables.exec = Jvm.exec) (hb : c.code = cX2_bringBack) (hml : c.maxLocals = 2) (hown : s.vm.findClass RX2 = some m.cls) (hts : ∀ w ∈ v_f_X2_bringBack, w.before #[Value.ref a_, Value.ref a_o1] s = true) (hK : va_K E.1 vwCl (TY E) s) (hN : NX s) {A : Nat → Prop} (hA : ∀ q : Nat, s.heap.size ≤ q → A q) {rr : Int32} {n_next : Int32} {n_held : Int32} {n_o1_row : Nat → Int32} (hr : meth.sig.returnType = (some .boolean)) (hlocks : meth.locks = false) (hQ : Q = MQ below (va_Qi (fun (q : Int32) (_u : Unit) => q = rr ∧ (q = 0 ∨ q = 1)) (fun (_u : Unit) tt => va_P E.1 vwCl (w_X2_bringBack E a_ a_rows a_o1 a_o1_row a_o1_partners a_o1_share a_o1_leftOver n_next n_held c_rows c_o1_askedCount c_o1_outcome n_o1_row) tt.heap ∧ va_D A (w_X2_bringBack E a_ a_rows a_o1 a_o1_row a_o1_partners a_o1_share a_o1_leftOver n_next n_held c_rows c_o1_askedCount c_o1_outcome n_o1_row)) A) #[Value.ref a_, Value.ref a_o1] s 0 0 A) (hF : J_X2_bringBack_28 c_rows k0 c_held c_o1_row = some (rr, n_next, n_held, n_o1_row)) : ∀ (H : Heap) (locs : List Loc) (ls : Array Slot), va_P E.1 vwCl (w_X2_bringBack E a_ a_rows a_o1 a_o1_row a_o1_partners a_o1_share a_o1_leftOver c_next c_held c_rows c_o1_askedCount c_o1_outcome c_o1_row) H → va_D A (w_X2_bringBack E a_ a_rows a_o1 a_o1_row a_o1_partners a_o1_share a_o1_leftOver c_next c_held c_rows c_o1_askedCount c_o1_outcome c_o1_row) → va_S A s.heap H locs → lv_has ls 2 [(0, .ref a_), (1, .ref a_o1)] → W p l e ({ frames := 1, cells := 0, slots := 0, locals := 60 } : Room) s m #[Value.ref a_, Value.ref a_o1] below meth c H locs 0 0 Q (F0 m 28 ls [.int k0, .ref a_]) := by
  unfold J_X2_bringBack_28 at hF
  intro H locs ls hP hD hS hl
  replace hP : va_P E.1 vwCl [(a_, .inr (3, [.ref a_rows, .int c_next, .int c_held])), (a_rows, .inl (E.2.1, 3240, .inl c_rows)), (a_o1, .inr (6, [.ref a_o1_row, .ref a_o1_partners, .int c_o1_askedCount, .int c_o1_outcome, .ref a_o1_share, .ref a_o1_leftOver])), (a_o1_row, .inl (E.2.1, 81, .inl c_o1_row))] H := hP
  replace hD : va_D A [(a_, .inr (3, [.ref a_rows, .int c_next, .int c_held])), (a_rows, .inl (E.2.1, 3240, .inl c_rows)), (a_o1, .inr (6, [.ref a_o1_row, .ref a_o1_partners, .int c_o1_askedCount, .int c_o1_outcome, .ref a_o1_share, .ref a_o1_leftOver])), (a_o1_row, .inl (E.2.1, 81, .inl c_o1_row))] := hD
  refine pt_X2_1 (v := .int k0) hx hb hts i_f_X2_bringBack_X2 hown hK hP hD hS 0 rfl (hts (.fieldLink RX2 17 "HushWatch$History" "next" "I") (List.mem_of_getElem? (i := 2) rfl)) rfl rfl (Nat.le_of_ble_eq_true rfl) dX2_bringBack_28 (fun H locs hP hD hS => ?_)
  replace hP : va_P E.1 vwCl [(a_, .inr (3, [.ref a_rows, .int k0, .int c_held])), (a_rows, .inl (E.2.1, 3240, .inl c_rows)), (a_o1, .inr (6, [.ref a_o1_row, .ref a_o1_partners, .int c_o1_askedCount, .int c_o1_outcome, .ref a_o1_share, .ref a_o1_leftOver])), (a_o1_row, .inl (E.2.1, 81, .inl c_o1_row))] H := hP
  replace hD : va_D A [(a_, .inr (3, [.ref a_rows, .int k0, .int c_held])), (a_rows, .inl (E.2.1, 3240, .inl c_rows)), (a_o1, .inr (6, [.ref a_o1_row, .ref a_o1_partners, .int c_o1_askedCount, .int c_o1_outcome, .ref a_o1_share, .ref a_o1_leftOver])), (a_o1_row, .inl (E.2.1, 81, .inl c_o1_row))] := hD
  refine lv_aload_n hx hb dX2_bringBack_31 rfl (lv_at hl 0 rfl) ?_
  refine lv_dup hx hb dX2_bringBack_32 rfl ?_
  refine gt_X2_2 (v := .int c_held) hx hb hts i_f_X2_bringBack_X2 hown hK hP 0 rfl (hts (.fieldLink RX2 21 "HushWatch$History" "held" "I") (List.mem_of_getElem? (i := 1) rfl)) rfl dX2_bringBack_33 ?_
  refine lv_iconst (v := 1) hx hb dX2_bringBack_36 (by decide) ?_
  refine lv_isub hx hb dX2_bringBack_37 ?_
  refine pt_X2_2 (v := .int (c_held - (1 : Int32))) hx hb hts i_f_X2_bringBack_X2 hown hK hP hD hS 0 rfl (hts (.fieldLink RX2 21 "HushWatch$History" "held" "I") (List.mem_of_getElem? (i := 1) rfl)) rfl rfl (Nat.le_of_ble_eq_true rfl) dX2_bringBack_38 (fun H locs hP hD hS => ?_)
  replace hP : va_P E.1 vwCl [(a_, .inr (3, [.ref a_rows, .int k0, .int (c_held - (1 : Int32))])), (a_rows, .inl (E.2.1, 3240, .inl c_rows)), (a_o1, .inr (6, [.ref a_o1_row, .ref a_o1_partners, .int c_o1_askedCount, .int c_o1_outcome, .ref a_o1_share, .ref a_o1_leftOver])), (a_o1_row, .inl (E.2.1, 81, .inl c_o1_row))] H := hP
  replace hD : va_D A [(a_, .inr (3, [.ref a_rows, .int k0, .int (c_held - (1 : Int32))])), (a_rows, .inl (E.2.1, 3240, .inl c_rows)), (a_o1, .inr (6, [.ref a_o1_row, .ref a_o1_partners, .int c_o1_askedCount, .int c_o1_outcome, .ref a_o1_share, .ref a_o1_leftOver])), (a_o1_row, .inl (E.2.1, 81, .inl c_o1_row))] := hD
  refine lv_aload_n hx hb dX2_bringBack_41 rfl (lv_at hl 0 rfl) ?_
  refine gt_X2_0 (v := .ref a_rows) hx hb hts i_f_X2_bringBack_X2 hown hK hP 0 rfl (hts (.fieldLink RX2 11 "HushWatch$History" "rows" "[I") (List.mem_of_getElem? (i := 3) rfl)) rfl dX2_bringBack_42 ?_
  refine lv_aload_n hx hb dX2_bringBack_45 rfl (lv_at hl 0 rfl) ?_
  refine gt_X2_1 (v := .int k0) hx hb hts i_f_X2_bringBack_X2 hown hK hP 0 rfl (hts (.fieldLink RX2 17 "HushWatch$History" "next" "I") (List.mem_of_getElem? (i := 2) rfl)) rfl dX2_bringBack_46 ?_
  refine lv_bipush (v := 81) hx hb dX2_bringBack_49 (by decide) ?_
  refine lv_imul hx hb dX2_bringBack_51 ?_
  refine lv_aload_n hx hb dX2_bringBack_52 rfl (lv_at hl 1 rfl) ?_
  refine va_getN (D := E.1) (ci := 6) (v := .ref a_o1_row) (C := RX5) (T := TX5) (N := 6) hx hb hts i_f_X2_bringBack_X5 hown hK hP 2 rfl rfl 0 (by decide) (nx hN 11 rfl) (fun _ h9 => h9) rfl dX2_bringBack_53 ?_
  refine lv_iconst (v := 0) hx hb dX2_bringBack_56 (by decide) ?_
  refine lv_bipush (v := 81) hx hb dX2_bringBack_57 (by decide) ?_
  replace hF := cp_s hF
  obtain ⟨hy_3, hF⟩ := hF
  refine va_copyi hx hb (hml.trans hl.1.symm) hown (hts (.methodLink RX2 27 arraycopyName) (List.mem_of_getElem? (i := 4) rfl)) (hts (.native arraycopyName) (List.mem_of_getElem? (i := 5) rfl)) (hts (.static arraycopyName) (List.mem_of_getElem? (i := 6) rfl)) (hts (.initialized "java/lang/System") (List.mem_of_getElem? (i := 7) rfl)) hK hP hD hS 1 3 0 0 rfl rfl rfl rfl rfl hy_3.1 hy_3.2.1 hy_3.2.2.1 hy_3.2.2.2.1 hy_3.2.2.2.2 (fun _ _ => rfl) (Nat.le_of_ble_eq_true rfl) (Nat.le_of_ble_eq_true rfl) dX2_bringBack_59 (fun H locs hP hD hS => ?_)
  replace hP : va_P E.1 vwCl [(a_, .inr (3, [.ref a_rows, .int k0, .int (c_held - (1 : Int32))])), (a_rows, .inl (E.2.1, 3240, .inl c_rows)), (a_o1, .inr (6, [.ref a_o1_row, .ref a_o1_partners, .int c_o1_askedCount, .int c_o1_outcome, .ref a_o1_share, .ref a_o1_leftOver])), (a_o1_row, .inl (E.2.1, 81, .inl (va_cpy c_rows c_o1_row (k0 * (81 : Int32)).toNatClampNeg (0 : Int32).toNatClampNeg (81 : Int32).toNatClampNeg)))] H := hP
  replace hD : va_D A [(a_, .inr (3, [.ref a_rows, .int k0, .int (c_held - (1 : Int32))])), (a_rows, .inl (E.2.1, 3240, .inl c_rows)), (a_o1, .inr (6, [.ref a_o1_row, .ref a_o1_partners, .int c_o1_askedCount, .int c_o1_outcome, .ref a_o1_share, .ref a_o1_leftOver])), (a_o1_row, .inl (E.2.1, 81, .inl (va_cpy c_rows c_o1_row (k0 * (81 : Int32)).toNatClampNeg (0 : Int32).toNatClampNeg (81 : Int32).toNatClampNeg)))] := hD
  replace hF := nm_s hF
  obtain ⟨f_4, hf_4, hF⟩ := hF
  rw [← hf_4] at hP hD
  refine lv_iconst (v := 1) hx hb dX2_bringBack_62 (by decide) ?_
  rw [hQ]
  have h9 := fin9 (P := fun u9 : Int32 × Int32 × Int32 × (Nat → Int32) => (1 : Int32) = u9.1 ∧ va_P E.1 vwCl (w_X2_bringBack E a_ a_rows a_o1 a_o1_row a_o1_partners a_o1_share a_o1_leftOver u9.2.1 u9.2.2.1 c_rows c_o1_askedCount c_o1_outcome u9.2.2.2) H ∧ va_D A (w_X2_bringBack E a_ a_rows a_o1 a_o1_row a_o1_partners a_o1_share a_o1_leftOver u9.2.1 u9.2.2.1 c_rows c_o1_askedCount c_o1_outcome u9.2.2.2)) hF ⟨rfl, hP, hD⟩
  obtain ⟨e9_0, hP9, hD9⟩ := h9
  exact W.zret (v := (1 : Int32)) hx hb hr rfl (fun tt ht hW => ⟨⟨_, (), rfl, ⟨e9_0, Or.inr rfl⟩, ht ▸ hP9, hD9⟩, hS.F ht⟩) hS.2.2 dX2_bringBack_63

set_option maxHeartbeats 4000000 in
set_option maxRecDepth 100000 in
theorem f_X2_bringBack (l : Launch) (E : EE) (sz : Nat) {a_ a_rows a_o1 a_o1_row a_o1_partners a_o1_share a_o1_leftOver : Nat} {c_next : Int32} {c_held : Int32} {c_rows : Nat → Int32} {c_o1_askedCount : Int32} {c_o1_outcome : Int32} {c_o1_row : Nat → Int32} {rr : Int32} {n_next : Int32} {n_held : Int32} {n_o1_row : Nat → Int32} (hF : F_X2_bringBack c_rows c_next c_held c_o1_row = some (rr, n_next, n_held, n_o1_row)) : Met l yX2_bringBack v_f_X2_bringBack (({ frames := 1, cells := 0, slots := 0, locals := 60 } : Room)) (va_Pc [.ref a_, .ref a_o1] (pW E sz (w_X2_bringBack E a_ a_rows a_o1 a_o1_row a_o1_partners a_o1_share a_o1_leftOver c_next c_held c_rows c_o1_askedCount c_o1_outcome c_o1_row))) (va_Qi (fun (q : Int32) (_u : Unit) => q = rr ∧ (q = 0 ∨ q = 1)) (fun (_u : Unit) tt => va_P E.1 vwCl (w_X2_bringBack E a_ a_rows a_o1 a_o1_row a_o1_partners a_o1_share a_o1_leftOver n_next n_held c_rows c_o1_askedCount c_o1_outcome n_o1_row) tt.heap ∧ va_D (va_A (w_X2_bringBack E a_ a_rows a_o1 a_o1_row a_o1_partners a_o1_share a_o1_leftOver c_next c_held c_rows c_o1_askedCount c_o1_outcome c_o1_row) sz) (w_X2_bringBack E a_ a_rows a_o1 a_o1_row a_o1_partners a_o1_share a_o1_leftOver n_next n_held c_rows c_o1_askedCount c_o1_outcome n_o1_row)) (va_A (w_X2_bringBack E a_ a_rows a_o1 a_o1_row a_o1_partners a_o1_share a_o1_leftOver c_next c_held c_rows c_o1_askedCount c_o1_outcome c_o1_row) sz)) 0 0 (va_A (w_X2_bringBack E a_ a_rows a_o1 a_o1_row a_o1_partners a_o1_share a_o1_leftOver c_next c_held c_rows c_o1_askedCount c_o1_outcome c_o1_row) sz) := by
  refine Met.ofW (cc := cX2_bringBack) (maxL := 2) (ret := (some .boolean)) (by decide) rfl ?_
  intro p e s m args below meth c s₁ B hml hv
  obtain ⟨rfl, hsz, ⟨hK, hN⟩, hP, hD0⟩ := hv
  have hx := B.exec
  have hb := B.bytes
  have hr := B.returns
  have hts := atoms_spec (ws := v_f_X2_bringBack) B.pre
  have hown : s.vm.findClass RX2 = some m.cls := own_of hd_X2_bringBack.1 (findClass_of_methodNamed B.named)
  have hlocks : meth.locks = false := B.notSynchronized
  subst hsz
  have hD := hD0.self (sz := s.heap.size)
  generalize hAe : va_A (w_X2_bringBack E a_ a_rows a_o1 a_o1_row a_o1_partners a_o1_share a_o1_leftOver c_next c_held c_rows c_o1_askedCount c_o1_outcome c_o1_row) s.heap.size = A at hD ⊢
  have hA : ∀ q : Nat, s.heap.size ≤ q → A q := fun q h => by rw [← hAe]; exact Or.inr h
  have hS : va_S A s.heap s.heap [] := va_S.rf
  have hl := lv_entry ([.ref a_, .ref a_o1]) (n := 2) (Nat.le_of_ble_eq_true rfl)
  rw [lg_entry_eq]
  generalize (lg_sl ([.ref a_, .ref a_o1]) ++ List.replicate (2 - (lg_sl ([.ref a_, .ref a_o1])).length) Slot.unset).toArray = ls at hl ⊢
  have hl : lv_has ls 2 [(0, .ref a_), (1, .ref a_o1)] := hl
  obtain ⟨Q, hQ⟩ : ∃ Q : State → Prop, Q = MQ below (va_Qi (fun (q : Int32) (_u : Unit) => q = rr ∧ (q = 0 ∨ q = 1)) (fun (_u : Unit) tt => va_P E.1 vwCl (w_X2_bringBack E a_ a_rows a_o1 a_o1_row a_o1_partners a_o1_share a_o1_leftOver n_next n_held c_rows c_o1_askedCount c_o1_outcome n_o1_row) tt.heap ∧ va_D A (w_X2_bringBack E a_ a_rows a_o1 a_o1_row a_o1_partners a_o1_share a_o1_leftOver n_next n_held c_rows c_o1_askedCount c_o1_outcome n_o1_row)) A) #[Value.ref a_, Value.ref a_o1] s 0 0 A := ⟨_, rfl⟩
  rw [← hQ]
  change W p l e ({ frames := 1, cells := 0, slots := 0, locals := 60 } : Room) s m #[Value.ref a_, Value.ref a_o1] below meth c s.heap [] 0 0 Q (F0 m 0 ls [])
  suffices hh9 : ∀ (H : Heap) (locs : List Loc), va_P E.1 vwCl (w_X2_bringBack E a_ a_rows a_o1 a_o1_row a_o1_partners a_o1_share a_o1_leftOver c_next c_held c_rows c_o1_askedCount c_o1_outcome c_o1_row) H → va_D A (w_X2_bringBack E a_ a_rows a_o1 a_o1_row a_o1_partners a_o1_share a_o1_leftOver c_next c_held c_rows c_o1_askedCount c_o1_outcome c_o1_row) → va_S A s.heap H locs → W p l e ({ frames := 1, cells := 0, slots := 0, locals := 60 } : Room) s m #[Value.ref a_, Value.ref a_o1] below meth c H locs 0 0 Q (F0 m 0 ls []) from hh9 s.heap [] hP hD hS
  clear hP hD hS
  intro H locs hP hD hS
  replace hP : va_P E.1 vwCl [(a_, .inr (3, [.ref a_rows, .int c_next, .int c_held])), (a_rows, .inl (E.2.1, 3240, .inl c_rows)), (a_o1, .inr (6, [.ref a_o1_row, .ref a_o1_partners, .int c_o1_askedCount, .int c_o1_outcome, .ref a_o1_share, .ref a_o1_leftOver])), (a_o1_row, .inl (E.2.1, 81, .inl c_o1_row))] H := hP
  replace hD : va_D A [(a_, .inr (3, [.ref a_rows, .int c_next, .int c_held])), (a_rows, .inl (E.2.1, 3240, .inl c_rows)), (a_o1, .inr (6, [.ref a_o1_row, .ref a_o1_partners, .int c_o1_askedCount, .int c_o1_outcome, .ref a_o1_share, .ref a_o1_leftOver])), (a_o1_row, .inl (E.2.1, 81, .inl c_o1_row))] := hD
  unfold F_X2_bringBack at hF
  refine lv_aload_n hx hb dX2_bringBack_0 rfl (lv_at hl 0 rfl) ?_
  refine gt_X2_2 (v := .int c_held) hx hb hts i_f_X2_bringBack_X2 hown hK hP 0 rfl (hts (.fieldLink RX2 21 "HushWatch$History" "held" "I") (List.mem_of_getElem? (i := 1) rfl)) rfl dX2_bringBack_1 ?_
  refine lv_if_ne (tgt := 9) hx hb dX2_bringBack_4 (by decide) (fun c_1 => ?_) (fun c_1 => ?_)
  ·
    replace hF := inn c_1 hF
    refine lv_aload_n hx hb dX2_bringBack_9 rfl (lv_at hl 0 rfl) ?_
    refine lv_aload_n hx hb dX2_bringBack_10 rfl (lv_at hl 0 rfl) ?_
    refine gt_X2_1 (v := .int c_next) hx hb hts i_f_X2_bringBack_X2 hown hK hP 0 rfl (hts (.fieldLink RX2 17 "HushWatch$History" "next" "I") (List.mem_of_getElem? (i := 2) rfl)) rfl dX2_bringBack_11 ?_
    refine lv_if_le (tgt := 26) hx hb dX2_bringBack_14 (by decide) (fun c_2 => ?_) (fun c_2 => ?_)
    ·
      replace hF := ip c_2 hF
      refine lv_bipush (v := 39) hx hb dX2_bringBack_26 (by decide) ?_
      exact j_X2_bringBack_28 l E (c_rows := c_rows) (c_o1_askedCount := c_o1_askedCount) (c_o1_outcome := c_o1_outcome) (k0 := (39 : Int32)) (c_next := c_next) (c_held := c_held) (c_o1_row := c_o1_row) hx hb hml hown hts hK hN hA hr hlocks hQ hF H locs ls (hP.sub [0, 1, 2, 3] rfl) (hD.sub [0, 1, 2, 3] (by decide) rfl) hS (lv_sub hl [0, 1] rfl)
    ·
      replace hF := inn c_2 hF
      refine lv_aload_n hx hb dX2_bringBack_17 rfl (lv_at hl 0 rfl) ?_
      refine gt_X2_1 (v := .int c_next) hx hb hts i_f_X2_bringBack_X2 hown hK hP 0 rfl (hts (.fieldLink RX2 17 "HushWatch$History" "next" "I") (List.mem_of_getElem? (i := 2) rfl)) rfl dX2_bringBack_18 ?_
      refine lv_iconst (v := 1) hx hb dX2_bringBack_21 (by decide) ?_
      refine lv_isub hx hb dX2_bringBack_22 ?_
      refine lv_goto (tgt := 28) hx hb dX2_bringBack_23 (by decide) ?_
      exact j_X2_bringBack_28 l E (c_rows := c_rows) (c_o1_askedCount := c_o1_askedCount) (c_o1_outcome := c_o1_outcome) (k0 := c_next - (1 : Int32)) (c_next := c_next) (c_held := c_held) (c_o1_row := c_o1_row) hx hb hml hown hts hK hN hA hr hlocks hQ hF H locs ls (hP.sub [0, 1, 2, 3] rfl) (hD.sub [0, 1, 2, 3] (by decide) rfl) hS (lv_sub hl [0, 1] rfl)
  ·
    replace hF := ip c_1 hF
    refine lv_iconst (v := 0) hx hb dX2_bringBack_7 (by decide) ?_
    rw [hQ]
    have h9 := fin9 (P := fun u9 : Int32 × Int32 × Int32 × (Nat → Int32) => (0 : Int32) = u9.1 ∧ va_P E.1 vwCl (w_X2_bringBack E a_ a_rows a_o1 a_o1_row a_o1_partners a_o1_share a_o1_leftOver u9.2.1 u9.2.2.1 c_rows c_o1_askedCount c_o1_outcome u9.2.2.2) H ∧ va_D A (w_X2_bringBack E a_ a_rows a_o1 a_o1_row a_o1_partners a_o1_share a_o1_leftOver u9.2.1 u9.2.2.1 c_rows c_o1_askedCount c_o1_outcome u9.2.2.2)) hF ⟨rfl, hP, hD⟩
    obtain ⟨e9_0, hP9, hD9⟩ := h9
    exact W.zret (v := (0 : Int32)) hx hb hr rfl (fun tt ht hW => ⟨⟨_, (), rfl, ⟨e9_0, Or.inl rfl⟩, ht ▸ hP9, hD9⟩, hS.F ht⟩) hS.2.2 dX2_bringBack_8

def F_X2_forget (c_held : Int32) : Option (Int32) :=
  some (0 : Int32)
abbrev w_X2_forget (E : EE) (a_ a_rows : Nat) (c_next : Int32) (c_held : Int32) : va_W := [(a_, .inr (3, [.ref a_rows, .int c_next, .int c_held]))]
def v_f_X2_forget : List Cond := .code yX2_forget cX2_forget 1 none :: ([.fieldLink RX2 21 "HushWatch$History" "held" "I"] ++ (wsX20 ++ ([])))
theorem gw_f_X2_forget : v_f_X2_forget.all goodWord = true := by decide +kernel
theorem i_f_X2_forget_X2 : ∀ w ∈ wsX20, w ∈ v_f_X2_forget := fun _ h => List.mem_cons_of_mem _ (List.mem_append_right _ (List.mem_append_left _ h))
theorem hd_X2_forget : yX2_forget.cls = RX2 ∧ yX2_forget.cls ≠ "java/lang/invoke/MethodHandle" ∧ yX2_forget.cls ≠ "java/lang/invoke/VarHandle" ∧ (parseMethodDescriptor yX2_forget.desc).map (fun d => d.parameters.length) = some 0 := by decide +kernel
set_option maxHeartbeats 4000000 in
set_option maxRecDepth 100000 in
theorem f_X2_forget (l : Launch) (E : EE) (sz : Nat) {a_ a_rows : Nat} {c_next : Int32} {c_held : Int32} {n_held : Int32} (hF : F_X2_forget c_held = some n_held) : Met l yX2_forget v_f_X2_forget (({ frames := 0, cells := 0, slots := 0, locals := 0 } : Room)) (va_Pc [.ref a_] (pW E sz (w_X2_forget E a_ a_rows c_next c_held))) (va_Qv (fun (_u : Unit) => True) (fun (_u : Unit) tt => va_P E.1 vwCl (w_X2_forget E a_ a_rows c_next n_held) tt.heap ∧ va_D (va_A (w_X2_forget E a_ a_rows c_next c_held) sz) (w_X2_forget E a_ a_rows c_next n_held)) (va_A (w_X2_forget E a_ a_rows c_next c_held) sz)) 0 0 (va_A (w_X2_forget E a_ a_rows c_next c_held) sz) := by
  refine Met.ofW (cc := cX2_forget) (maxL := 1) (ret := none) (by decide) rfl ?_
  intro p e s m args below meth c s₁ B hml hv
  obtain ⟨rfl, hsz, ⟨hK, hN⟩, hP, hD0⟩ := hv
  have hx := B.exec
  have hb := B.bytes
  have hr := B.returns
  have hts := atoms_spec (ws := v_f_X2_forget) B.pre
  have hown : s.vm.findClass RX2 = some m.cls := own_of hd_X2_forget.1 (findClass_of_methodNamed B.named)
  have hlocks : meth.locks = false := B.notSynchronized
  subst hsz
  have hD := hD0.self (sz := s.heap.size)
  generalize hAe : va_A (w_X2_forget E a_ a_rows c_next c_held) s.heap.size = A at hD ⊢
  have hA : ∀ q : Nat, s.heap.size ≤ q → A q := fun q h => by rw [← hAe]; exact Or.inr h
  have hS : va_S A s.heap s.heap [] := va_S.rf
  have hl := lv_entry ([.ref a_]) (n := 1) (Nat.le_of_ble_eq_true rfl)
  rw [lg_entry_eq]
  generalize (lg_sl ([.ref a_]) ++ List.replicate (1 - (lg_sl ([.ref a_])).length) Slot.unset).toArray = ls at hl ⊢
  have hl : lv_has ls 1 [(0, .ref a_)] := hl
  obtain ⟨Q, hQ⟩ : ∃ Q : State → Prop, Q = MQ below (va_Qv (fun (_u : Unit) => True) (fun (_u : Unit) tt => va_P E.1 vwCl (w_X2_forget E a_ a_rows c_next n_held) tt.heap ∧ va_D A (w_X2_forget E a_ a_rows c_next n_held)) A) #[Value.ref a_] s 0 0 A := ⟨_, rfl⟩
  rw [← hQ]
  change W p l e ({ frames := 0, cells := 0, slots := 0, locals := 0 } : Room) s m #[Value.ref a_] below meth c s.heap [] 0 0 Q (F0 m 0 ls [])
  suffices hh9 : ∀ (H : Heap) (locs : List Loc), va_P E.1 vwCl (w_X2_forget E a_ a_rows c_next c_held) H → va_D A (w_X2_forget E a_ a_rows c_next c_held) → va_S A s.heap H locs → W p l e ({ frames := 0, cells := 0, slots := 0, locals := 0 } : Room) s m #[Value.ref a_] below meth c H locs 0 0 Q (F0 m 0 ls []) from hh9 s.heap [] hP hD hS
  clear hP hD hS
  intro H locs hP hD hS
  replace hP : va_P E.1 vwCl [(a_, .inr (3, [.ref a_rows, .int c_next, .int c_held]))] H := hP
  replace hD : va_D A [(a_, .inr (3, [.ref a_rows, .int c_next, .int c_held]))] := hD
  unfold F_X2_forget at hF
  refine lv_aload_n hx hb dX2_forget_0 rfl (lv_at hl 0 rfl) ?_
  refine lv_iconst (v := 0) hx hb dX2_forget_1 (by decide) ?_
  refine pt_X2_2 (v := .int (0 : Int32)) hx hb hts i_f_X2_forget_X2 hown hK hP hD hS 0 rfl (hts (.fieldLink RX2 21 "HushWatch$History" "held" "I") (List.mem_of_getElem? (i := 1) rfl)) rfl rfl (Nat.le_of_ble_eq_true rfl) dX2_forget_2 (fun H locs hP hD hS => ?_)
  replace hP : va_P E.1 vwCl [(a_, .inr (3, [.ref a_rows, .int c_next, .int (0 : Int32)]))] H := hP
  replace hD : va_D A [(a_, .inr (3, [.ref a_rows, .int c_next, .int (0 : Int32)]))] := hD
  rw [hQ]
  have h9 := fin9 (P := fun u9 : Int32 => va_P E.1 vwCl (w_X2_forget E a_ a_rows c_next u9) H ∧ va_D A (w_X2_forget E a_ a_rows c_next u9)) hF ⟨hP, hD⟩
  obtain ⟨hP9, hD9⟩ := h9
  exact W.vret hx hb hr (fun tt ht hW => ⟨⟨(), rfl, trivial, ht ▸ hP9, hD9⟩, hS.F ht⟩) hS.2.2 dX2_forget_5

def F_X2_keep (c_rows : Nat → Int32) (c_next : Int32) (c_held : Int32) (c_o1_row : Nat → Int32) : Option ((Nat → Int32) × Int32 × Int32) :=
  cpF (0 : Int32) (c_next * (81 : Int32)) (81 : Int32) 81 3240 (nmF (va_cpy c_o1_row c_rows (0 : Int32).toNatClampNeg (c_next * (81 : Int32)).toNatClampNeg (81 : Int32).toNatClampNeg) (fun f_2 => if (40 : Int32) ≤ c_next + (1 : Int32) then some (f_2, (0 : Int32), (minF (c_held + (1 : Int32)) (40 : Int32))) else some (f_2, c_next + (1 : Int32), (minF (c_held + (1 : Int32)) (40 : Int32)))))
abbrev w_X2_keep (E : EE) (a_ a_rows a_o1 a_o1_row a_o1_partners a_o1_share a_o1_leftOver : Nat) (c_next : Int32) (c_held : Int32) (c_rows : Nat → Int32) (c_o1_askedCount : Int32) (c_o1_outcome : Int32) (c_o1_row : Nat → Int32) : va_W := [(a_, .inr (3, [.ref a_rows, .int c_next, .int c_held])), (a_rows, .inl (E.2.1, 3240, .inl c_rows)), (a_o1, .inr (6, [.ref a_o1_row, .ref a_o1_partners, .int c_o1_askedCount, .int c_o1_outcome, .ref a_o1_share, .ref a_o1_leftOver])), (a_o1_row, .inl (E.2.1, 81, .inl c_o1_row))]
def v_f_X2_keep : List Cond := .code yX2_keep cX2_keep 2 none :: ([.fieldLink RX2 11 "HushWatch$History" "rows" "[I", .fieldLink RX2 17 "HushWatch$History" "next" "I", .methodLink RX2 27 arraycopyName, .native arraycopyName, .static arraycopyName, .initialized "java/lang/System", .fieldLink RX2 21 "HushWatch$History" "held" "I", .methodLink RX2 33 Lib.Math.min.name, .static Lib.Math.min.name, .initialized "java/lang/Math", .code Lib.Math.min.name Lib.Math.min.code 2 (some .int)] ++ (wsX50 ++ (wsX20 ++ ([]))))
theorem gw_f_X2_keep : v_f_X2_keep.all goodWord = true := by decide +kernel
theorem i_f_X2_keep_X5 : ∀ w ∈ wsX50, w ∈ v_f_X2_keep := fun _ h => List.mem_cons_of_mem _ (List.mem_append_right _ (List.mem_append_left _ h))
theorem i_f_X2_keep_X2 : ∀ w ∈ wsX20, w ∈ v_f_X2_keep := fun _ h => List.mem_cons_of_mem _ (List.mem_append_right _ (List.mem_append_right _ (List.mem_append_left _ h)))
theorem hd_X2_keep : yX2_keep.cls = RX2 ∧ yX2_keep.cls ≠ "java/lang/invoke/MethodHandle" ∧ yX2_keep.cls ≠ "java/lang/invoke/VarHandle" ∧ (parseMethodDescriptor yX2_keep.desc).map (fun d => d.parameters.length) = some 1 := by decide +kernel
set_option maxHeartbeats 4000000 in
set_option maxRecDepth 100000 in
theorem f_X2_keep (l : Launch) (E : EE) (sz : Nat) {a_ a_rows a_o1 a_o1_row a_o1_partners a_o1_share a_o1_leftOver : Nat} {c_next : Int32} {c_held : Int32} {c_rows : Nat → Int32} {c_o1_askedCount : Int32} {c_o1_outcome : Int32} {c_o1_row : Nat → Int32} {n_rows : Nat → Int32} {n_next : Int32} {n_held : Int32} (hF : F_X2_keep c_rows c_next c_held c_o1_row = some (n_rows, n_next, n_held)) : Met l yX2_keep v_f_X2_keep (({ frames := 1, cells := 0, slots := 0, locals := 60 } : Room)) (va_Pc [.ref a_, .ref a_o1] (pW E sz (w_X2_keep E a_ a_rows a_o1 a_o1_row a_o1_partners a_o1_share a_o1_leftOver c_next c_held c_rows c_o1_askedCount c_o1_outcome c_o1_row))) (va_Qv (fun (_u : Unit) => True) (fun (_u : Unit) tt => va_P E.1 vwCl (w_X2_keep E a_ a_rows a_o1 a_o1_row a_o1_partners a_o1_share a_o1_leftOver n_next n_held n_rows c_o1_askedCount c_o1_outcome c_o1_row) tt.heap ∧ va_D (va_A (w_X2_keep E a_ a_rows a_o1 a_o1_row a_o1_partners a_o1_share a_o1_leftOver c_next c_held c_rows c_o1_askedCount c_o1_outcome c_o1_row) sz) (w_X2_keep E a_ a_rows a_o1 a_o1_row a_o1_partners a_o1_share a_o1_leftOver n_next n_held n_rows c_o1_askedCount c_o1_outcome c_o1_row)) (va_A (w_X2_keep E a_ a_rows a_o1 a_o1_row a_o1_partners a_o1_share a_o1_leftOver c_next c_held c_rows c_o1_askedCount c_o1_outcome c_o1_row) sz)) 0 0 (va_A (w_X2_keep E a_ a_rows a_o1 a_o1_row a_o1_partners a_o1_share a_o1_leftOver c_next c_held c_rows c_o1_askedCount c_o1_outcome c_o1_row) sz) := by
  refine Met.ofW (cc := cX2_keep) (maxL := 2) (ret := none) (by decide) rfl ?_
  intro p e s m args below meth c s₁ B hml hv
  obtain ⟨rfl, hsz, ⟨hK, hN⟩, hP, hD0⟩ := hv
  have hx := B.exec
  have hb := B.bytes
  have hr := B.returns
  have hts := atoms_spec (ws := v_f_X2_keep) B.pre
  have hown : s.vm.findClass RX2 = some m.cls := own_of hd_X2_keep.1 (findClass_of_methodNamed B.named)
  have hlocks : meth.locks = false := B.notSynchronized
  subst hsz
  have hD := hD0.self (sz := s.heap.size)
  generalize hAe : va_A (w_X2_keep E a_ a_rows a_o1 a_o1_row a_o1_partners a_o1_share a_o1_leftOver c_next c_held c_rows c_o1_askedCount c_o1_outcome c_o1_row) s.heap.size = A at hD ⊢
  have hA : ∀ q : Nat, s.heap.size ≤ q → A q := fun q h => by rw [← hAe]; exact Or.inr h
  have hS : va_S A s.heap s.heap [] := va_S.rf
  have hl := lv_entry ([.ref a_, .ref a_o1]) (n := 2) (Nat.le_of_ble_eq_true rfl)
  rw [lg_entry_eq]
  generalize (lg_sl ([.ref a_, .ref a_o1]) ++ List.replicate (2 - (lg_sl ([.ref a_, .ref a_o1])).length) Slot.unset).toArray = ls at hl ⊢
  have hl : lv_has ls 2 [(0, .ref a_), (1, .ref a_o1)] := hl
  obtain ⟨Q, hQ⟩ : ∃ Q : State → Prop, Q = MQ below (va_Qv (fun (_u : Unit) => True) (fun (_u : Unit) tt => va_P E.1 vwCl (w_X2_keep E a_ a_rows a_o1 a_o1_row a_o1_partners a_o1_share a_o1_leftOver n_next n_held n_rows c_o1_askedCount c_o1_outcome c_o1_row) tt.heap ∧ va_D A (w_X2_keep E a_ a_rows a_o1 a_o1_row a_o1_partners a_o1_share a_o1_leftOver n_next n_held n_rows c_o1_askedCount c_o1_outcome c_o1_row)) A) #[Value.ref a_, Value.ref a_o1] s 0 0 A := ⟨_, rfl⟩
  rw [← hQ]
  change W p l e ({ frames := 1, cells := 0, slots := 0, locals := 60 } : Room) s m #[Value.ref a_, Value.ref a_o1] below meth c s.heap [] 0 0 Q (F0 m 0 ls [])
  suffices hh9 : ∀ (H : Heap) (locs : List Loc), va_P E.1 vwCl (w_X2_keep E a_ a_rows a_o1 a_o1_row a_o1_partners a_o1_share a_o1_leftOver c_next c_held c_rows c_o1_askedCount c_o1_outcome c_o1_row) H → va_D A (w_X2_keep E a_ a_rows a_o1 a_o1_row a_o1_partners a_o1_share a_o1_leftOver c_next c_held c_rows c_o1_askedCount c_o1_outcome c_o1_row) → va_S A s.heap H locs → W p l e ({ frames := 1, cells := 0, slots := 0, locals := 60 } : Room) s m #[Value.ref a_, Value.ref a_o1] below meth c H locs 0 0 Q (F0 m 0 ls []) from hh9 s.heap [] hP hD hS
  clear hP hD hS
  intro H locs hP hD hS
  replace hP : va_P E.1 vwCl [(a_, .inr (3, [.ref a_rows, .int c_next, .int c_held])), (a_rows, .inl (E.2.1, 3240, .inl c_rows)), (a_o1, .inr (6, [.ref a_o1_row, .ref a_o1_partners, .int c_o1_askedCount, .int c_o1_outcome, .ref a_o1_share, .ref a_o1_leftOver])), (a_o1_row, .inl (E.2.1, 81, .inl c_o1_row))] H := hP
  replace hD : va_D A [(a_, .inr (3, [.ref a_rows, .int c_next, .int c_held])), (a_rows, .inl (E.2.1, 3240, .inl c_rows)), (a_o1, .inr (6, [.ref a_o1_row, .ref a_o1_partners, .int c_o1_askedCount, .int c_o1_outcome, .ref a_o1_share, .ref a_o1_leftOver])), (a_o1_row, .inl (E.2.1, 81, .inl c_o1_row))] := hD
  unfold F_X2_keep at hF
  refine lv_aload_n hx hb dX2_keep_0 rfl (lv_at hl 1 rfl) ?_
  refine va_getN (D := E.1) (ci := 6) (v := .ref a_o1_row) (C := RX5) (T := TX5) (N := 6) hx hb hts i_f_X2_keep_X5 hown hK hP 2 rfl rfl 0 (by decide) (nx hN 11 rfl) (fun _ h9 => h9) rfl dX2_keep_1 ?_
  refine lv_iconst (v := 0) hx hb dX2_keep_4 (by decide) ?_
  refine lv_aload_n hx hb dX2_keep_5 rfl (lv_at hl 0 rfl) ?_
  refine gt_X2_0 (v := .ref a_rows) hx hb hts i_f_X2_keep_X2 hown hK hP 0 rfl (hts (.fieldLink RX2 11 "HushWatch$History" "rows" "[I") (List.mem_of_getElem? (i := 1) rfl)) rfl dX2_keep_6 ?_
  refine lv_aload_n hx hb dX2_keep_9 rfl (lv_at hl 0 rfl) ?_
  refine gt_X2_1 (v := .int c_next) hx hb hts i_f_X2_keep_X2 hown hK hP 0 rfl (hts (.fieldLink RX2 17 "HushWatch$History" "next" "I") (List.mem_of_getElem? (i := 2) rfl)) rfl dX2_keep_10 ?_
  refine lv_bipush (v := 81) hx hb dX2_keep_13 (by decide) ?_
  refine lv_imul hx hb dX2_keep_15 ?_
  refine lv_bipush (v := 81) hx hb dX2_keep_16 (by decide) ?_
  replace hF := cp_s hF
  obtain ⟨hy_1, hF⟩ := hF
  refine va_copyi hx hb (hml.trans hl.1.symm) hown (hts (.methodLink RX2 27 arraycopyName) (List.mem_of_getElem? (i := 3) rfl)) (hts (.native arraycopyName) (List.mem_of_getElem? (i := 4) rfl)) (hts (.static arraycopyName) (List.mem_of_getElem? (i := 5) rfl)) (hts (.initialized "java/lang/System") (List.mem_of_getElem? (i := 6) rfl)) hK hP hD hS 3 1 0 0 rfl rfl rfl rfl rfl hy_1.1 hy_1.2.1 hy_1.2.2.1 hy_1.2.2.2.1 hy_1.2.2.2.2 (fun _ _ => rfl) (Nat.le_of_ble_eq_true rfl) (Nat.le_of_ble_eq_true rfl) dX2_keep_18 (fun H locs hP hD hS => ?_)
  replace hP : va_P E.1 vwCl [(a_, .inr (3, [.ref a_rows, .int c_next, .int c_held])), (a_rows, .inl (E.2.1, 3240, .inl (va_cpy c_o1_row c_rows (0 : Int32).toNatClampNeg (c_next * (81 : Int32)).toNatClampNeg (81 : Int32).toNatClampNeg))), (a_o1, .inr (6, [.ref a_o1_row, .ref a_o1_partners, .int c_o1_askedCount, .int c_o1_outcome, .ref a_o1_share, .ref a_o1_leftOver])), (a_o1_row, .inl (E.2.1, 81, .inl c_o1_row))] H := hP
  replace hD : va_D A [(a_, .inr (3, [.ref a_rows, .int c_next, .int c_held])), (a_rows, .inl (E.2.1, 3240, .inl (va_cpy c_o1_row c_rows (0 : Int32).toNatClampNeg (c_next * (81 : Int32)).toNatClampNeg (81 : Int32).toNatClampNeg))), (a_o1, .inr (6, [.ref a_o1_row, .ref a_o1_partners, .int c_o1_askedCount, .int c_o1_outcome, .ref a_o1_share, .ref a_o1_leftOver])), (a_o1_row, .inl (E.2.1, 81, .inl c_o1_row))] := hD
  replace hF := nm_s hF
  obtain ⟨f_2, hf_2, hF⟩ := hF
  rw [← hf_2] at hP hD
  refine lv_aload_n hx hb dX2_keep_21 rfl (lv_at hl 0 rfl) ?_
  refine lv_aload_n hx hb dX2_keep_22 rfl (lv_at hl 0 rfl) ?_
  refine gt_X2_1 (v := .int c_next) hx hb hts i_f_X2_keep_X2 hown hK hP 0 rfl (hts (.fieldLink RX2 17 "HushWatch$History" "next" "I") (List.mem_of_getElem? (i := 2) rfl)) rfl dX2_keep_23 ?_
  refine lv_iconst (v := 1) hx hb dX2_keep_26 (by decide) ?_
  refine lv_iadd hx hb dX2_keep_27 ?_
  refine lv_bipush (v := 40) hx hb dX2_keep_28 (by decide) ?_
  refine lv_icmp_ge (tgt := 42) hx hb dX2_keep_30 (by decide) (fun c_3 => ?_) (fun c_3 => ?_)
  ·
    replace hF := ip c_3 hF
    refine lv_iconst (v := 0) hx hb dX2_keep_42 (by decide) ?_
    refine pt_X2_1 (v := .int (0 : Int32)) hx hb hts i_f_X2_keep_X2 hown hK hP hD hS 0 rfl (hts (.fieldLink RX2 17 "HushWatch$History" "next" "I") (List.mem_of_getElem? (i := 2) rfl)) rfl rfl (Nat.le_of_ble_eq_true rfl) dX2_keep_43 (fun H locs hP hD hS => ?_)
    replace hP : va_P E.1 vwCl [(a_, .inr (3, [.ref a_rows, .int (0 : Int32), .int c_held])), (a_rows, .inl (E.2.1, 3240, .inl f_2)), (a_o1, .inr (6, [.ref a_o1_row, .ref a_o1_partners, .int c_o1_askedCount, .int c_o1_outcome, .ref a_o1_share, .ref a_o1_leftOver])), (a_o1_row, .inl (E.2.1, 81, .inl c_o1_row))] H := hP
    replace hD : va_D A [(a_, .inr (3, [.ref a_rows, .int (0 : Int32), .int c_held])), (a_rows, .inl (E.2.1, 3240, .inl f_2)), (a_o1, .inr (6, [.ref a_o1_row, .ref a_o1_partners, .int c_o1_askedCount, .int c_o1_outcome, .ref a_o1_share, .ref a_o1_leftOver])), (a_o1_row, .inl (E.2.1, 81, .inl c_o1_row))] := hD
    refine lv_aload_n hx hb dX2_keep_46 rfl (lv_at hl 0 rfl) ?_
    refine lv_aload_n hx hb dX2_keep_47 rfl (lv_at hl 0 rfl) ?_
    refine gt_X2_2 (v := .int c_held) hx hb hts i_f_X2_keep_X2 hown hK hP 0 rfl (hts (.fieldLink RX2 21 "HushWatch$History" "held" "I") (List.mem_of_getElem? (i := 7) rfl)) rfl dX2_keep_48 ?_
    refine lv_iconst (v := 1) hx hb dX2_keep_51 (by decide) ?_
    refine lv_iadd hx hb dX2_keep_52 ?_
    refine lv_bipush (v := 40) hx hb dX2_keep_53 (by decide) ?_
    refine va_mmin hx hb (hml.trans hl.1.symm) hown (hts (.methodLink RX2 33 Lib.Math.min.name) (List.mem_of_getElem? (i := 8) rfl)) (hts (.static Lib.Math.min.name) (List.mem_of_getElem? (i := 9) rfl)) (hts (.initialized "java/lang/Math") (List.mem_of_getElem? (i := 10) rfl)) (hts (.code Lib.Math.min.name Lib.Math.min.code 2 (some .int)) (List.mem_of_getElem? (i := 11) rfl)) (Nat.le_of_ble_eq_true rfl) (Nat.le_of_ble_eq_true rfl) (Nat.le_of_ble_eq_true rfl) (Nat.le_of_ble_eq_true rfl) dX2_keep_55 ?_
    refine W.eq (g2 := F0 m 58 ls [.int (minF (c_held + (1 : Int32)) (40 : Int32)), .ref a_]) rfl ?_
    refine pt_X2_2 (v := .int (minF (c_held + (1 : Int32)) (40 : Int32))) hx hb hts i_f_X2_keep_X2 hown hK hP hD hS 0 rfl (hts (.fieldLink RX2 21 "HushWatch$History" "held" "I") (List.mem_of_getElem? (i := 7) rfl)) rfl rfl (Nat.le_of_ble_eq_true rfl) dX2_keep_58 (fun H locs hP hD hS => ?_)
    replace hP : va_P E.1 vwCl [(a_, .inr (3, [.ref a_rows, .int (0 : Int32), .int (minF (c_held + (1 : Int32)) (40 : Int32))])), (a_rows, .inl (E.2.1, 3240, .inl f_2)), (a_o1, .inr (6, [.ref a_o1_row, .ref a_o1_partners, .int c_o1_askedCount, .int c_o1_outcome, .ref a_o1_share, .ref a_o1_leftOver])), (a_o1_row, .inl (E.2.1, 81, .inl c_o1_row))] H := hP
    replace hD : va_D A [(a_, .inr (3, [.ref a_rows, .int (0 : Int32), .int (minF (c_held + (1 : Int32)) (40 : Int32))])), (a_rows, .inl (E.2.1, 3240, .inl f_2)), (a_o1, .inr (6, [.ref a_o1_row, .ref a_o1_partners, .int c_o1_askedCount, .int c_o1_outcome, .ref a_o1_share, .ref a_o1_leftOver])), (a_o1_row, .inl (E.2.1, 81, .inl c_o1_row))] := hD
    rw [hQ]
    have h9 := fin9 (P := fun u9 : (Nat → Int32) × Int32 × Int32 => va_P E.1 vwCl (w_X2_keep E a_ a_rows a_o1 a_o1_row a_o1_partners a_o1_share a_o1_leftOver u9.2.1 u9.2.2 u9.1 c_o1_askedCount c_o1_outcome c_o1_row) H ∧ va_D A (w_X2_keep E a_ a_rows a_o1 a_o1_row a_o1_partners a_o1_share a_o1_leftOver u9.2.1 u9.2.2 u9.1 c_o1_askedCount c_o1_outcome c_o1_row)) hF ⟨hP, hD⟩
    obtain ⟨hP9, hD9⟩ := h9
    exact W.vret hx hb hr (fun tt ht hW => ⟨⟨(), rfl, trivial, ht ▸ hP9, hD9⟩, hS.F ht⟩) hS.2.2 dX2_keep_61
  ·
    replace hF := inn c_3 hF
    refine lv_aload_n hx hb dX2_keep_33 rfl (lv_at hl 0 rfl) ?_
    refine gt_X2_1 (v := .int c_next) hx hb hts i_f_X2_keep_X2 hown hK hP 0 rfl (hts (.fieldLink RX2 17 "HushWatch$History" "next" "I") (List.mem_of_getElem? (i := 2) rfl)) rfl dX2_keep_34 ?_
    refine lv_iconst (v := 1) hx hb dX2_keep_37 (by decide) ?_
    refine lv_iadd hx hb dX2_keep_38 ?_
    refine lv_goto (tgt := 43) hx hb dX2_keep_39 (by decide) ?_
    refine pt_X2_1 (v := .int (c_next + (1 : Int32))) hx hb hts i_f_X2_keep_X2 hown hK hP hD hS 0 rfl (hts (.fieldLink RX2 17 "HushWatch$History" "next" "I") (List.mem_of_getElem? (i := 2) rfl)) rfl rfl (Nat.le_of_ble_eq_true rfl) dX2_keep_43 (fun H locs hP hD hS => ?_)
    replace hP : va_P E.1 vwCl [(a_, .inr (3, [.ref a_rows, .int (c_next + (1 : Int32)), .int c_held])), (a_rows, .inl (E.2.1, 3240, .inl f_2)), (a_o1, .inr (6, [.ref a_o1_row, .ref a_o1_partners, .int c_o1_askedCount, .int c_o1_outcome, .ref a_o1_share, .ref a_o1_leftOver])), (a_o1_row, .inl (E.2.1, 81, .inl c_o1_row))] H := hP
    replace hD : va_D A [(a_, .inr (3, [.ref a_rows, .int (c_next + (1 : Int32)), .int c_held])), (a_rows, .inl (E.2.1, 3240, .inl f_2)), (a_o1, .inr (6, [.ref a_o1_row, .ref a_o1_partners, .int c_o1_askedCount, .int c_o1_outcome, .ref a_o1_share, .ref a_o1_leftOver])), (a_o1_row, .inl (E.2.1, 81, .inl c_o1_row))] := hD
    refine lv_aload_n hx hb dX2_keep_46 rfl (lv_at hl 0 rfl) ?_
    refine lv_aload_n hx hb dX2_keep_47 rfl (lv_at hl 0 rfl) ?_
    refine gt_X2_2 (v := .int c_held) hx hb hts i_f_X2_keep_X2 hown hK hP 0 rfl (hts (.fieldLink RX2 21 "HushWatch$History" "held" "I") (List.mem_of_getElem? (i := 7) rfl)) rfl dX2_keep_48 ?_
    refine lv_iconst (v := 1) hx hb dX2_keep_51 (by decide) ?_
    refine lv_iadd hx hb dX2_keep_52 ?_
    refine lv_bipush (v := 40) hx hb dX2_keep_53 (by decide) ?_
    refine va_mmin hx hb (hml.trans hl.1.symm) hown (hts (.methodLink RX2 33 Lib.Math.min.name) (List.mem_of_getElem? (i := 8) rfl)) (hts (.static Lib.Math.min.name) (List.mem_of_getElem? (i := 9) rfl)) (hts (.initialized "java/lang/Math") (List.mem_of_getElem? (i := 10) rfl)) (hts (.code Lib.Math.min.name Lib.Math.min.code 2 (some .int)) (List.mem_of_getElem? (i := 11) rfl)) (Nat.le_of_ble_eq_true rfl) (Nat.le_of_ble_eq_true rfl) (Nat.le_of_ble_eq_true rfl) (Nat.le_of_ble_eq_true rfl) dX2_keep_55 ?_
    refine W.eq (g2 := F0 m 58 ls [.int (minF (c_held + (1 : Int32)) (40 : Int32)), .ref a_]) rfl ?_
    refine pt_X2_2 (v := .int (minF (c_held + (1 : Int32)) (40 : Int32))) hx hb hts i_f_X2_keep_X2 hown hK hP hD hS 0 rfl (hts (.fieldLink RX2 21 "HushWatch$History" "held" "I") (List.mem_of_getElem? (i := 7) rfl)) rfl rfl (Nat.le_of_ble_eq_true rfl) dX2_keep_58 (fun H locs hP hD hS => ?_)
    replace hP : va_P E.1 vwCl [(a_, .inr (3, [.ref a_rows, .int (c_next + (1 : Int32)), .int (minF (c_held + (1 : Int32)) (40 : Int32))])), (a_rows, .inl (E.2.1, 3240, .inl f_2)), (a_o1, .inr (6, [.ref a_o1_row, .ref a_o1_partners, .int c_o1_askedCount, .int c_o1_outcome, .ref a_o1_share, .ref a_o1_leftOver])), (a_o1_row, .inl (E.2.1, 81, .inl c_o1_row))] H := hP
    replace hD : va_D A [(a_, .inr (3, [.ref a_rows, .int (c_next + (1 : Int32)), .int (minF (c_held + (1 : Int32)) (40 : Int32))])), (a_rows, .inl (E.2.1, 3240, .inl f_2)), (a_o1, .inr (6, [.ref a_o1_row, .ref a_o1_partners, .int c_o1_askedCount, .int c_o1_outcome, .ref a_o1_share, .ref a_o1_leftOver])), (a_o1_row, .inl (E.2.1, 81, .inl c_o1_row))] := hD
    rw [hQ]
    have h9 := fin9 (P := fun u9 : (Nat → Int32) × Int32 × Int32 => va_P E.1 vwCl (w_X2_keep E a_ a_rows a_o1 a_o1_row a_o1_partners a_o1_share a_o1_leftOver u9.2.1 u9.2.2 u9.1 c_o1_askedCount c_o1_outcome c_o1_row) H ∧ va_D A (w_X2_keep E a_ a_rows a_o1 a_o1_row a_o1_partners a_o1_share a_o1_leftOver u9.2.1 u9.2.2 u9.1 c_o1_askedCount c_o1_outcome c_o1_row)) hF ⟨hP, hD⟩
    obtain ⟨hP9, hD9⟩ := h9
    exact W.vret hx hb hr (fun tt ht hW => ⟨⟨(), rfl, trivial, ht ▸ hP9, hD9⟩, hS.F ht⟩) hS.2.2 dX2_keep_61

def F_X4_areFull (c_held : Int32) : Option (Int32) :=
  if c_held < (4 : Int32) then some (0 : Int32) else some (1 : Int32)
abbrev w_X4_areFull (E : EE) (a_ a_steps a_counts : Nat) (c_held : Int32) : va_W := [(a_, .inr (5, [.ref a_steps, .ref a_counts, .int c_held]))]
def v_f_X4_areFull : List Cond := .code yX4_areFull cX4_areFull 1 (some .boolean) :: ([.fieldLink RX4 18 "HushWatch$Scripts" "held" "I"] ++ (wsX40 ++ ([])))
theorem gw_f_X4_areFull : v_f_X4_areFull.all goodWord = true := by decide +kernel
theorem i_f_X4_areFull_X4 : ∀ w ∈ wsX40, w ∈ v_f_X4_areFull := fun _ h => List.mem_cons_of_mem _ (List.mem_append_right _ (List.mem_append_left _ h))
theorem hd_X4_areFull : yX4_areFull.cls = RX4 ∧ yX4_areFull.cls ≠ "java/lang/invoke/MethodHandle" ∧ yX4_areFull.cls ≠ "java/lang/invoke/VarHandle" ∧ (parseMethodDescriptor yX4_areFull.desc).map (fun d => d.parameters.length) = some 0 := by decide +kernel
set_option maxHeartbeats 4000000 in
set_option maxRecDepth 100000 in
theorem f_X4_areFull (l : Launch) (E : EE) {a_ a_steps a_counts : Nat} {c_held : Int32} {rr : Int32} (hF : F_X4_areFull c_held = some rr) : Met l yX4_areFull v_f_X4_areFull (({ frames := 0, cells := 0, slots := 0, locals := 0 } : Room)) (va_Pc [.ref a_] (pP E (w_X4_areFull E a_ a_steps a_counts c_held))) (vp_Si (fun q : Int32 => q = rr ∧ (q = 0 ∨ q = 1))) 0 0 (fun _ => False) := by
  refine Met.ofW (cc := cX4_areFull) (maxL := 1) (ret := (some .boolean)) (by decide) rfl ?_
  intro p e s m args below meth c s₁ B hml hv
  obtain ⟨rfl, ⟨hK, hN⟩, hP⟩ := hv
  have hx := B.exec
  have hb := B.bytes
  have hr := B.returns
  have hts := atoms_spec (ws := v_f_X4_areFull) B.pre
  have hown : s.vm.findClass RX4 = some m.cls := own_of hd_X4_areFull.1 (findClass_of_methodNamed B.named)
  have hlocks : meth.locks = false := B.notSynchronized
  replace hP : va_P E.1 vwCl [(a_, .inr (5, [.ref a_steps, .ref a_counts, .int c_held]))] s.heap := hP
  have hl := lv_entry ([.ref a_]) (n := 1) (Nat.le_of_ble_eq_true rfl)
  rw [lg_entry_eq]
  generalize (lg_sl ([.ref a_]) ++ List.replicate (1 - (lg_sl ([.ref a_])).length) Slot.unset).toArray = ls at hl ⊢
  have hl : lv_has ls 1 [(0, .ref a_)] := hl
  obtain ⟨Q, hQ⟩ : ∃ Q : State → Prop, Q = MQ below (vp_Si (fun q : Int32 => q = rr ∧ (q = 0 ∨ q = 1))) #[Value.ref a_] s 0 0 (fun _ => False) := ⟨_, rfl⟩
  rw [← hQ]
  change W p l e ({ frames := 0, cells := 0, slots := 0, locals := 0 } : Room) s m #[Value.ref a_] below meth c s.heap [] 0 0 Q (F0 m 0 ls [])
  unfold F_X4_areFull at hF
  refine lv_aload_n hx hb dX4_areFull_0 rfl (lv_at hl 0 rfl) ?_
  refine gt_X4_2 (v := .int c_held) hx hb hts i_f_X4_areFull_X4 hown hK hP 0 rfl (hts (.fieldLink RX4 18 "HushWatch$Scripts" "held" "I") (List.mem_of_getElem? (i := 1) rfl)) rfl dX4_areFull_1 ?_
  refine lv_iconst (v := 4) hx hb dX4_areFull_4 (by decide) ?_
  refine lv_icmp_lt (tgt := 12) hx hb dX4_areFull_5 (by decide) (fun c_1 => ?_) (fun c_1 => ?_)
  ·
    replace hF := ip c_1 hF
    refine lv_iconst (v := 0) hx hb dX4_areFull_12 (by decide) ?_
    rw [hQ]
    obtain e9_0 := inj1 hF
    exact W.zret (v := (0 : Int32)) hx hb hr rfl (fun tt ht hW => ⟨_, rfl, ⟨e9_0, Or.inl rfl⟩, ht⟩) (fun _ h => by cases h) dX4_areFull_13
  ·
    replace hF := inn c_1 hF
    refine lv_iconst (v := 1) hx hb dX4_areFull_8 (by decide) ?_
    refine lv_goto (tgt := 13) hx hb dX4_areFull_9 (by decide) ?_
    rw [hQ]
    obtain e9_0 := inj1 hF
    exact W.zret (v := (1 : Int32)) hx hb hr rfl (fun tt ht hW => ⟨_, rfl, ⟨e9_0, Or.inr rfl⟩, ht⟩) (fun _ h => by cases h) dX4_areFull_13

def F_X4_has (p1 : Int32) (c_held : Int32) : Option (Int32) :=
  if p1 < (0 : Int32) then some (0 : Int32) else if c_held ≤ p1 then some (0 : Int32) else if (4 : Int32) ≤ p1 then some (0 : Int32) else some (1 : Int32)
abbrev w_X4_has (E : EE) (a_ a_steps a_counts : Nat) (c_held : Int32) : va_W := [(a_, .inr (5, [.ref a_steps, .ref a_counts, .int c_held]))]
def v_f_X4_has : List Cond := .code yX4_has cX4_has 2 (some .boolean) :: ([.fieldLink RX4 18 "HushWatch$Scripts" "held" "I"] ++ (wsX40 ++ ([])))
theorem gw_f_X4_has : v_f_X4_has.all goodWord = true := by decide +kernel
theorem i_f_X4_has_X4 : ∀ w ∈ wsX40, w ∈ v_f_X4_has := fun _ h => List.mem_cons_of_mem _ (List.mem_append_right _ (List.mem_append_left _ h))
theorem hd_X4_has : yX4_has.cls = RX4 ∧ yX4_has.cls ≠ "java/lang/invoke/MethodHandle" ∧ yX4_has.cls ≠ "java/lang/invoke/VarHandle" ∧ (parseMethodDescriptor yX4_has.desc).map (fun d => d.parameters.length) = some 1 := by decide +kernel
set_option maxHeartbeats 4000000 in
set_option maxRecDepth 100000 in
theorem f_X4_has (l : Launch) (E : EE) {a_ a_steps a_counts : Nat} {p1 : Int32} {c_held : Int32} {rr : Int32} (hF : F_X4_has p1 c_held = some rr) : Met l yX4_has v_f_X4_has (({ frames := 0, cells := 0, slots := 0, locals := 0 } : Room)) (va_Pc [.ref a_, .int p1] (pP E (w_X4_has E a_ a_steps a_counts c_held))) (vp_Si (fun q : Int32 => q = rr ∧ (q = 0 ∨ q = 1))) 0 0 (fun _ => False) := by
  refine Met.ofW (cc := cX4_has) (maxL := 2) (ret := (some .boolean)) (by decide) rfl ?_
  intro p e s m args below meth c s₁ B hml hv
  obtain ⟨rfl, ⟨hK, hN⟩, hP⟩ := hv
  have hx := B.exec
  have hb := B.bytes
  have hr := B.returns
  have hts := atoms_spec (ws := v_f_X4_has) B.pre
  have hown : s.vm.findClass RX4 = some m.cls := own_of hd_X4_has.1 (findClass_of_methodNamed B.named)
  have hlocks : meth.locks = false := B.notSynchronized
  replace hP : va_P E.1 vwCl [(a_, .inr (5, [.ref a_steps, .ref a_counts, .int c_held]))] s.heap := hP
  have hl := lv_entry ([.ref a_, .int p1]) (n := 2) (Nat.le_of_ble_eq_true rfl)
  rw [lg_entry_eq]
  generalize (lg_sl ([.ref a_, .int p1]) ++ List.replicate (2 - (lg_sl ([.ref a_, .int p1])).length) Slot.unset).toArray = ls at hl ⊢
  have hl : lv_has ls 2 [(0, .ref a_), (1, .int p1)] := hl
  obtain ⟨Q, hQ⟩ : ∃ Q : State → Prop, Q = MQ below (vp_Si (fun q : Int32 => q = rr ∧ (q = 0 ∨ q = 1))) #[Value.ref a_, Value.int p1] s 0 0 (fun _ => False) := ⟨_, rfl⟩
  rw [← hQ]
  change W p l e ({ frames := 0, cells := 0, slots := 0, locals := 0 } : Room) s m #[Value.ref a_, Value.int p1] below meth c s.heap [] 0 0 Q (F0 m 0 ls [])
  unfold F_X4_has at hF
  refine lv_iload_n hx hb dX4_has_0 rfl (lv_at hl 1 rfl) ?_
  refine lv_if_lt (tgt := 21) hx hb dX4_has_1 (by decide) (fun c_1 => ?_) (fun c_1 => ?_)
  ·
    replace hF := ip c_1 hF
    refine lv_iconst (v := 0) hx hb dX4_has_21 (by decide) ?_
    rw [hQ]
    obtain e9_0 := inj1 hF
    exact W.zret (v := (0 : Int32)) hx hb hr rfl (fun tt ht hW => ⟨_, rfl, ⟨e9_0, Or.inl rfl⟩, ht⟩) (fun _ h => by cases h) dX4_has_22
  ·
    replace hF := inn c_1 hF
    refine lv_iload_n hx hb dX4_has_4 rfl (lv_at hl 1 rfl) ?_
    refine lv_aload_n hx hb dX4_has_5 rfl (lv_at hl 0 rfl) ?_
    refine gt_X4_2 (v := .int c_held) hx hb hts i_f_X4_has_X4 hown hK hP 0 rfl (hts (.fieldLink RX4 18 "HushWatch$Scripts" "held" "I") (List.mem_of_getElem? (i := 1) rfl)) rfl dX4_has_6 ?_
    refine lv_icmp_ge (tgt := 21) hx hb dX4_has_9 (by decide) (fun c_2 => ?_) (fun c_2 => ?_)
    ·
      replace hF := ip c_2 hF
      refine lv_iconst (v := 0) hx hb dX4_has_21 (by decide) ?_
      rw [hQ]
      obtain e9_0 := inj1 hF
      exact W.zret (v := (0 : Int32)) hx hb hr rfl (fun tt ht hW => ⟨_, rfl, ⟨e9_0, Or.inl rfl⟩, ht⟩) (fun _ h => by cases h) dX4_has_22
    ·
      replace hF := inn c_2 hF
      refine lv_iload_n hx hb dX4_has_12 rfl (lv_at hl 1 rfl) ?_
      refine lv_iconst (v := 4) hx hb dX4_has_13 (by decide) ?_
      refine lv_icmp_ge (tgt := 21) hx hb dX4_has_14 (by decide) (fun c_3 => ?_) (fun c_3 => ?_)
      ·
        replace hF := ip c_3 hF
        refine lv_iconst (v := 0) hx hb dX4_has_21 (by decide) ?_
        rw [hQ]
        obtain e9_0 := inj1 hF
        exact W.zret (v := (0 : Int32)) hx hb hr rfl (fun tt ht hW => ⟨_, rfl, ⟨e9_0, Or.inl rfl⟩, ht⟩) (fun _ h => by cases h) dX4_has_22
      ·
        replace hF := inn c_3 hF
        refine lv_iconst (v := 1) hx hb dX4_has_17 (by decide) ?_
        refine lv_goto (tgt := 22) hx hb dX4_has_18 (by decide) ?_
        rw [hQ]
        obtain e9_0 := inj1 hF
        exact W.zret (v := (1 : Int32)) hx hb hr rfl (fun tt ht hW => ⟨_, rfl, ⟨e9_0, Or.inr rfl⟩, ht⟩) (fun _ h => by cases h) dX4_has_22

def F_X4_keep (c_steps : Nat → Int32) (c_counts : Nat → Int32) (c_held : Int32) (c_o1_steps : Nat → Int32) (c_o1_stepCount : Int32) : Option ((Nat → Int32) × (Nat → Int32) × Int32) :=
  bd1 (F_X4_areFull c_held) (fun r_1 => if r_1 = (0 : Int32) then cpF (0 : Int32) (c_held * (48 : Int32)) (48 : Int32) 48 192 (nmF (va_cpy c_o1_steps c_steps (0 : Int32).toNatClampNeg (c_held * (48 : Int32)).toNatClampNeg (48 : Int32).toNatClampNeg) (fun f_6 => ixF c_held 4 (nmF (upd c_counts c_held.toNatClampNeg c_o1_stepCount) (fun f_8 => some (f_6, f_8, c_held + (1 : Int32)))))) else some (c_steps, c_counts, c_held))
abbrev w_X4_keep (E : EE) (a_ a_steps a_counts a_o1 a_o1_tape a_o1_rules a_o1_places a_o1_steps : Nat) (c_held : Int32) (c_steps : Nat → Int32) (c_counts : Nat → Int32) (c_o1_siteCount : Int32) (c_o1_stepCount : Int32) (c_o1_seenRules : Int32) (c_o1_at : Int32) (c_o1_wordStart : Int32) (c_o1_number : Int32) (c_o1_failed : Int32) (c_o1_steps : Nat → Int32) : va_W := [(a_, .inr (5, [.ref a_steps, .ref a_counts, .int c_held])), (a_steps, .inl (E.2.1, 192, .inl c_steps)), (a_counts, .inl (E.2.1, 4, .inl c_counts)), (a_o1, .inr (4, [.ref a_o1_tape, .ref a_o1_rules, .ref a_o1_places, .ref a_o1_steps, .int c_o1_siteCount, .int c_o1_stepCount, .int c_o1_seenRules, .int c_o1_at, .int c_o1_wordStart, .int c_o1_number, .int c_o1_failed])), (a_o1_steps, .inl (E.2.1, 48, .inl c_o1_steps))]
def v_f_X4_keep : List Cond := .code yX4_keep cX4_keep 2 none :: ([.fieldLink RX4 11 "HushWatch$Scripts" "steps" "[I", .fieldLink RX4 18 "HushWatch$Scripts" "held" "I", .methodLink RX4 29 arraycopyName, .native arraycopyName, .static arraycopyName, .initialized "java/lang/System", .fieldLink RX4 15 "HushWatch$Scripts" "counts" "[I", .methodLink RX4 22 yX4_areFull, .instanceMethod yX4_areFull, .selects RX4 yX4_areFull yX4_areFull, .initialized RX4] ++ (v_f_X4_areFull ++ (wsX30 ++ (wsX40 ++ ([])))))
theorem gw_f_X4_keep : v_f_X4_keep.all goodWord = true := by decide +kernel
theorem i_f_X4_keep_X3 : ∀ w ∈ wsX30, w ∈ v_f_X4_keep := fun _ h => List.mem_cons_of_mem _ (List.mem_append_right _ (List.mem_append_right _ (List.mem_append_left _ h)))
theorem i_f_X4_keep_X4 : ∀ w ∈ wsX40, w ∈ v_f_X4_keep := fun _ h => List.mem_cons_of_mem _ (List.mem_append_right _ (List.mem_append_right _ (List.mem_append_right _ (List.mem_append_left _ h))))
theorem g_f_X4_keep_f_X4_areFull_22 : GoodIn v_f_X4_keep (wsV RX4 22 RX4 yX4_areFull v_f_X4_areFull) := goodIn_app (goodIn_of _ (by decide +kernel)) (goodIn_sub (fun _ h => List.mem_cons_of_mem _ (List.mem_append_right _ (List.mem_append_left _ h))) gw_f_X4_areFull)
theorem hd_X4_keep : yX4_keep.cls = RX4 ∧ yX4_keep.cls ≠ "java/lang/invoke/MethodHandle" ∧ yX4_keep.cls ≠ "java/lang/invoke/VarHandle" ∧ (parseMethodDescriptor yX4_keep.desc).map (fun d => d.parameters.length) = some 1 := by decide +kernel
set_option maxHeartbeats 4000000 in
set_option maxRecDepth 100000 in
theorem f_X4_keep (l : Launch) (E : EE) (sz : Nat) {a_ a_steps a_counts a_o1 a_o1_tape a_o1_rules a_o1_places a_o1_steps : Nat} {c_held : Int32} {c_steps : Nat → Int32} {c_counts : Nat → Int32} {c_o1_siteCount : Int32} {c_o1_stepCount : Int32} {c_o1_seenRules : Int32} {c_o1_at : Int32} {c_o1_wordStart : Int32} {c_o1_number : Int32} {c_o1_failed : Int32} {c_o1_steps : Nat → Int32} {n_steps : Nat → Int32} {n_counts : Nat → Int32} {n_held : Int32} (hF : F_X4_keep c_steps c_counts c_held c_o1_steps c_o1_stepCount = some (n_steps, n_counts, n_held)) : Met l yX4_keep v_f_X4_keep (({ frames := 1, cells := 0, slots := 0, locals := 60 } : Room)) (va_Pc [.ref a_, .ref a_o1] (pW E sz (w_X4_keep E a_ a_steps a_counts a_o1 a_o1_tape a_o1_rules a_o1_places a_o1_steps c_held c_steps c_counts c_o1_siteCount c_o1_stepCount c_o1_seenRules c_o1_at c_o1_wordStart c_o1_number c_o1_failed c_o1_steps))) (va_Qv (fun (_u : Unit) => True) (fun (_u : Unit) tt => va_P E.1 vwCl (w_X4_keep E a_ a_steps a_counts a_o1 a_o1_tape a_o1_rules a_o1_places a_o1_steps n_held n_steps n_counts c_o1_siteCount c_o1_stepCount c_o1_seenRules c_o1_at c_o1_wordStart c_o1_number c_o1_failed c_o1_steps) tt.heap ∧ va_D (va_A (w_X4_keep E a_ a_steps a_counts a_o1 a_o1_tape a_o1_rules a_o1_places a_o1_steps c_held c_steps c_counts c_o1_siteCount c_o1_stepCount c_o1_seenRules c_o1_at c_o1_wordStart c_o1_number c_o1_failed c_o1_steps) sz) (w_X4_keep E a_ a_steps a_counts a_o1 a_o1_tape a_o1_rules a_o1_places a_o1_steps n_held n_steps n_counts c_o1_siteCount c_o1_stepCount c_o1_seenRules c_o1_at c_o1_wordStart c_o1_number c_o1_failed c_o1_steps)) (va_A (w_X4_keep E a_ a_steps a_counts a_o1 a_o1_tape a_o1_rules a_o1_places a_o1_steps c_held c_steps c_counts c_o1_siteCount c_o1_stepCount c_o1_seenRules c_o1_at c_o1_wordStart c_o1_number c_o1_failed c_o1_steps) sz)) 0 0 (va_A (w_X4_keep E a_ a_steps a_counts a_o1 a_o1_tape a_o1_rules a_o1_places a_o1_steps c_held c_steps c_counts c_o1_siteCount c_o1_stepCount c_o1_seenRules c_o1_at c_o1_wordStart c_o1_number c_o1_failed c_o1_steps) sz) := by
  refine Met.ofW (cc := cX4_keep) (maxL := 2) (ret := none) (by decide) rfl ?_
  intro p e s m args below meth c s₁ B hml hv
  obtain ⟨rfl, hsz, ⟨hK, hN⟩, hP, hD0⟩ := hv
  have hx := B.exec
  have hb := B.bytes
  have hr := B.returns
  have hts := atoms_spec (ws := v_f_X4_keep) B.pre
  have hown : s.vm.findClass RX4 = some m.cls := own_of hd_X4_keep.1 (findClass_of_methodNamed B.named)
  have hlocks : meth.locks = false := B.notSynchronized
  subst hsz
  have hD := hD0.self (sz := s.heap.size)
  generalize hAe : va_A (w_X4_keep E a_ a_steps a_counts a_o1 a_o1_tape a_o1_rules a_o1_places a_o1_steps c_held c_steps c_counts c_o1_siteCount c_o1_stepCount c_o1_seenRules c_o1_at c_o1_wordStart c_o1_number c_o1_failed c_o1_steps) s.heap.size = A at hD ⊢
  have hA : ∀ q : Nat, s.heap.size ≤ q → A q := fun q h => by rw [← hAe]; exact Or.inr h
  have hS : va_S A s.heap s.heap [] := va_S.rf
  have hl := lv_entry ([.ref a_, .ref a_o1]) (n := 2) (Nat.le_of_ble_eq_true rfl)
  rw [lg_entry_eq]
  generalize (lg_sl ([.ref a_, .ref a_o1]) ++ List.replicate (2 - (lg_sl ([.ref a_, .ref a_o1])).length) Slot.unset).toArray = ls at hl ⊢
  have hl : lv_has ls 2 [(0, .ref a_), (1, .ref a_o1)] := hl
  obtain ⟨Q, hQ⟩ : ∃ Q : State → Prop, Q = MQ below (va_Qv (fun (_u : Unit) => True) (fun (_u : Unit) tt => va_P E.1 vwCl (w_X4_keep E a_ a_steps a_counts a_o1 a_o1_tape a_o1_rules a_o1_places a_o1_steps n_held n_steps n_counts c_o1_siteCount c_o1_stepCount c_o1_seenRules c_o1_at c_o1_wordStart c_o1_number c_o1_failed c_o1_steps) tt.heap ∧ va_D A (w_X4_keep E a_ a_steps a_counts a_o1 a_o1_tape a_o1_rules a_o1_places a_o1_steps n_held n_steps n_counts c_o1_siteCount c_o1_stepCount c_o1_seenRules c_o1_at c_o1_wordStart c_o1_number c_o1_failed c_o1_steps)) A) #[Value.ref a_, Value.ref a_o1] s 0 0 A := ⟨_, rfl⟩
  rw [← hQ]
  change W p l e ({ frames := 1, cells := 0, slots := 0, locals := 60 } : Room) s m #[Value.ref a_, Value.ref a_o1] below meth c s.heap [] 0 0 Q (F0 m 0 ls [])
  suffices hh9 : ∀ (H : Heap) (locs : List Loc), va_P E.1 vwCl (w_X4_keep E a_ a_steps a_counts a_o1 a_o1_tape a_o1_rules a_o1_places a_o1_steps c_held c_steps c_counts c_o1_siteCount c_o1_stepCount c_o1_seenRules c_o1_at c_o1_wordStart c_o1_number c_o1_failed c_o1_steps) H → va_D A (w_X4_keep E a_ a_steps a_counts a_o1 a_o1_tape a_o1_rules a_o1_places a_o1_steps c_held c_steps c_counts c_o1_siteCount c_o1_stepCount c_o1_seenRules c_o1_at c_o1_wordStart c_o1_number c_o1_failed c_o1_steps) → va_S A s.heap H locs → W p l e ({ frames := 1, cells := 0, slots := 0, locals := 60 } : Room) s m #[Value.ref a_, Value.ref a_o1] below meth c H locs 0 0 Q (F0 m 0 ls []) from hh9 s.heap [] hP hD hS
  clear hP hD hS
  intro H locs hP hD hS
  replace hP : va_P E.1 vwCl [(a_, .inr (5, [.ref a_steps, .ref a_counts, .int c_held])), (a_steps, .inl (E.2.1, 192, .inl c_steps)), (a_counts, .inl (E.2.1, 4, .inl c_counts)), (a_o1, .inr (4, [.ref a_o1_tape, .ref a_o1_rules, .ref a_o1_places, .ref a_o1_steps, .int c_o1_siteCount, .int c_o1_stepCount, .int c_o1_seenRules, .int c_o1_at, .int c_o1_wordStart, .int c_o1_number, .int c_o1_failed])), (a_o1_steps, .inl (E.2.1, 48, .inl c_o1_steps))] H := hP
  replace hD : va_D A [(a_, .inr (5, [.ref a_steps, .ref a_counts, .int c_held])), (a_steps, .inl (E.2.1, 192, .inl c_steps)), (a_counts, .inl (E.2.1, 4, .inl c_counts)), (a_o1, .inr (4, [.ref a_o1_tape, .ref a_o1_rules, .ref a_o1_places, .ref a_o1_steps, .int c_o1_siteCount, .int c_o1_stepCount, .int c_o1_seenRules, .int c_o1_at, .int c_o1_wordStart, .int c_o1_number, .int c_o1_failed])), (a_o1_steps, .inl (E.2.1, 48, .inl c_o1_steps))] := hD
  unfold F_X4_keep at hF
  refine lv_aload_n hx hb dX4_keep_0 rfl (lv_at hl 0 rfl) ?_
  replace hF := bd1_s hF
  obtain ⟨r_1, hc_2, hF⟩ := hF
  have hPc : va_P E.1 vwCl (w_X4_areFull E a_ a_steps a_counts c_held) H := hP.sub (ws' := [(a_, .inr (5, [.ref a_steps, .ref a_counts, .int c_held]))]) [0] rfl
  have hrc := va_recv hK hPc (ci := 5) (q0 := 0) rfl rfl
  refine pE_z (va_runV (As := []) (rest := [])  ⟨hx, hb, hml, hown, hts⟩ (f_X4_areFull l E (a_ := a_) (a_steps := a_steps) (a_counts := a_counts) (c_held := c_held) hc_2) (cwV 0 hts g_f_X4_keep_f_X4_areFull_22 rfl rfl rfl hd_X4_areFull ⟨Nat.le_of_ble_eq_true rfl, Nat.le_of_ble_eq_true rfl⟩) ⟨pP.blind, hrc, (pP.pre ⟨hK, hN⟩ hPc)⟩ rfl rfl hl.1 rfl (lv_room (Nat.le_of_ble_eq_true rfl)) dX4_keep_1 ⟨Nat.le_of_ble_eq_true rfl, Nat.le_of_ble_eq_true rfl⟩) (fun hb_3 => ?_)
  refine lv_if_ne (tgt := 51) hx hb dX4_keep_4 (by decide) (fun c_4 => ?_) (fun c_4 => ?_)
  ·
    replace hF := inn c_4 hF
    rw [hQ]
    have h9 := fin9 (P := fun u9 : (Nat → Int32) × (Nat → Int32) × Int32 => va_P E.1 vwCl (w_X4_keep E a_ a_steps a_counts a_o1 a_o1_tape a_o1_rules a_o1_places a_o1_steps u9.2.2 u9.1 u9.2.1 c_o1_siteCount c_o1_stepCount c_o1_seenRules c_o1_at c_o1_wordStart c_o1_number c_o1_failed c_o1_steps) H ∧ va_D A (w_X4_keep E a_ a_steps a_counts a_o1 a_o1_tape a_o1_rules a_o1_places a_o1_steps u9.2.2 u9.1 u9.2.1 c_o1_siteCount c_o1_stepCount c_o1_seenRules c_o1_at c_o1_wordStart c_o1_number c_o1_failed c_o1_steps)) hF ⟨hP, hD⟩
    obtain ⟨hP9, hD9⟩ := h9
    exact W.vret hx hb hr (fun tt ht hW => ⟨⟨(), rfl, trivial, ht ▸ hP9, hD9⟩, hS.F ht⟩) hS.2.2 dX4_keep_51
  ·
    replace hF := ip c_4 hF
    refine lv_aload_n hx hb dX4_keep_7 rfl (lv_at hl 1 rfl) ?_
    refine va_getN (D := E.1) (ci := 4) (v := .ref a_o1_steps) (C := RX3) (T := TX3) (N := 11) hx hb hts i_f_X4_keep_X3 hown hK hP 3 rfl rfl 3 (by decide) (nx hN 5 rfl) (fun _ h9 => h9) rfl dX4_keep_8 ?_
    refine lv_iconst (v := 0) hx hb dX4_keep_11 (by decide) ?_
    refine lv_aload_n hx hb dX4_keep_12 rfl (lv_at hl 0 rfl) ?_
    refine gt_X4_0 (v := .ref a_steps) hx hb hts i_f_X4_keep_X4 hown hK hP 0 rfl (hts (.fieldLink RX4 11 "HushWatch$Scripts" "steps" "[I") (List.mem_of_getElem? (i := 1) rfl)) rfl dX4_keep_13 ?_
    refine lv_aload_n hx hb dX4_keep_16 rfl (lv_at hl 0 rfl) ?_
    refine gt_X4_2 (v := .int c_held) hx hb hts i_f_X4_keep_X4 hown hK hP 0 rfl (hts (.fieldLink RX4 18 "HushWatch$Scripts" "held" "I") (List.mem_of_getElem? (i := 2) rfl)) rfl dX4_keep_17 ?_
    refine lv_bipush (v := 48) hx hb dX4_keep_20 (by decide) ?_
    refine lv_imul hx hb dX4_keep_22 ?_
    refine lv_bipush (v := 48) hx hb dX4_keep_23 (by decide) ?_
    replace hF := cp_s hF
    obtain ⟨hy_5, hF⟩ := hF
    refine va_copyi hx hb (hml.trans hl.1.symm) hown (hts (.methodLink RX4 29 arraycopyName) (List.mem_of_getElem? (i := 3) rfl)) (hts (.native arraycopyName) (List.mem_of_getElem? (i := 4) rfl)) (hts (.static arraycopyName) (List.mem_of_getElem? (i := 5) rfl)) (hts (.initialized "java/lang/System") (List.mem_of_getElem? (i := 6) rfl)) hK hP hD hS 4 1 0 0 rfl rfl rfl rfl rfl hy_5.1 hy_5.2.1 hy_5.2.2.1 hy_5.2.2.2.1 hy_5.2.2.2.2 (fun _ _ => rfl) (Nat.le_of_ble_eq_true rfl) (Nat.le_of_ble_eq_true rfl) dX4_keep_25 (fun H locs hP hD hS => ?_)
    replace hP : va_P E.1 vwCl [(a_, .inr (5, [.ref a_steps, .ref a_counts, .int c_held])), (a_steps, .inl (E.2.1, 192, .inl (va_cpy c_o1_steps c_steps (0 : Int32).toNatClampNeg (c_held * (48 : Int32)).toNatClampNeg (48 : Int32).toNatClampNeg))), (a_counts, .inl (E.2.1, 4, .inl c_counts)), (a_o1, .inr (4, [.ref a_o1_tape, .ref a_o1_rules, .ref a_o1_places, .ref a_o1_steps, .int c_o1_siteCount, .int c_o1_stepCount, .int c_o1_seenRules, .int c_o1_at, .int c_o1_wordStart, .int c_o1_number, .int c_o1_failed])), (a_o1_steps, .inl (E.2.1, 48, .inl c_o1_steps))] H := hP
    replace hD : va_D A [(a_, .inr (5, [.ref a_steps, .ref a_counts, .int c_held])), (a_steps, .inl (E.2.1, 192, .inl (va_cpy c_o1_steps c_steps (0 : Int32).toNatClampNeg (c_held * (48 : Int32)).toNatClampNeg (48 : Int32).toNatClampNeg))), (a_counts, .inl (E.2.1, 4, .inl c_counts)), (a_o1, .inr (4, [.ref a_o1_tape, .ref a_o1_rules, .ref a_o1_places, .ref a_o1_steps, .int c_o1_siteCount, .int c_o1_stepCount, .int c_o1_seenRules, .int c_o1_at, .int c_o1_wordStart, .int c_o1_number, .int c_o1_failed])), (a_o1_steps, .inl (E.2.1, 48, .inl c_o1_steps))] := hD
    replace hF := nm_s hF
    obtain ⟨f_6, hf_6, hF⟩ := hF
    rw [← hf_6] at hP hD
    refine lv_aload_n hx hb dX4_keep_28 rfl (lv_at hl 0 rfl) ?_
    refine gt_X4_1 (v := .ref a_counts) hx hb hts i_f_X4_keep_X4 hown hK hP 0 rfl (hts (.fieldLink RX4 15 "HushWatch$Scripts" "counts" "[I") (List.mem_of_getElem? (i := 7) rfl)) rfl dX4_keep_29 ?_
    refine lv_aload_n hx hb dX4_keep_32 rfl (lv_at hl 0 rfl) ?_
    refine gt_X4_2 (v := .int c_held) hx hb hts i_f_X4_keep_X4 hown hK hP 0 rfl (hts (.fieldLink RX4 18 "HushWatch$Scripts" "held" "I") (List.mem_of_getElem? (i := 2) rfl)) rfl dX4_keep_33 ?_
    refine lv_aload_n hx hb dX4_keep_36 rfl (lv_at hl 1 rfl) ?_
    refine va_getN (D := E.1) (ci := 4) (v := .int c_o1_stepCount) (C := RX3) (T := TX3) (N := 11) hx hb hts i_f_X4_keep_X3 hown hK hP 3 rfl rfl 5 (by decide) (nx hN 7 rfl) (fun _ h9 => h9) rfl dX4_keep_37 ?_
    replace hF := ix_s hF
    obtain ⟨hi_7, hF⟩ := hF
    refine va_iast hx hb hK hP hD hS 2 0 rfl rfl hi_7 dX4_keep_40 (fun H locs hP hD hS => ?_)
    replace hP : va_P E.1 vwCl [(a_, .inr (5, [.ref a_steps, .ref a_counts, .int c_held])), (a_steps, .inl (E.2.1, 192, .inl f_6)), (a_counts, .inl (E.2.1, 4, .inl (upd c_counts c_held.toNatClampNeg c_o1_stepCount))), (a_o1, .inr (4, [.ref a_o1_tape, .ref a_o1_rules, .ref a_o1_places, .ref a_o1_steps, .int c_o1_siteCount, .int c_o1_stepCount, .int c_o1_seenRules, .int c_o1_at, .int c_o1_wordStart, .int c_o1_number, .int c_o1_failed])), (a_o1_steps, .inl (E.2.1, 48, .inl c_o1_steps))] H := hP
    replace hD : va_D A [(a_, .inr (5, [.ref a_steps, .ref a_counts, .int c_held])), (a_steps, .inl (E.2.1, 192, .inl f_6)), (a_counts, .inl (E.2.1, 4, .inl (upd c_counts c_held.toNatClampNeg c_o1_stepCount))), (a_o1, .inr (4, [.ref a_o1_tape, .ref a_o1_rules, .ref a_o1_places, .ref a_o1_steps, .int c_o1_siteCount, .int c_o1_stepCount, .int c_o1_seenRules, .int c_o1_at, .int c_o1_wordStart, .int c_o1_number, .int c_o1_failed])), (a_o1_steps, .inl (E.2.1, 48, .inl c_o1_steps))] := hD
    replace hF := nm_s hF
    obtain ⟨f_8, hf_8, hF⟩ := hF
    rw [← hf_8] at hP hD
    refine lv_aload_n hx hb dX4_keep_41 rfl (lv_at hl 0 rfl) ?_
    refine lv_dup hx hb dX4_keep_42 rfl ?_
    refine gt_X4_2 (v := .int c_held) hx hb hts i_f_X4_keep_X4 hown hK hP 0 rfl (hts (.fieldLink RX4 18 "HushWatch$Scripts" "held" "I") (List.mem_of_getElem? (i := 2) rfl)) rfl dX4_keep_43 ?_
    refine lv_iconst (v := 1) hx hb dX4_keep_46 (by decide) ?_
    refine lv_iadd hx hb dX4_keep_47 ?_
    refine pt_X4_2 (v := .int (c_held + (1 : Int32))) hx hb hts i_f_X4_keep_X4 hown hK hP hD hS 0 rfl (hts (.fieldLink RX4 18 "HushWatch$Scripts" "held" "I") (List.mem_of_getElem? (i := 2) rfl)) rfl rfl (Nat.le_of_ble_eq_true rfl) dX4_keep_48 (fun H locs hP hD hS => ?_)
    replace hP : va_P E.1 vwCl [(a_, .inr (5, [.ref a_steps, .ref a_counts, .int (c_held + (1 : Int32))])), (a_steps, .inl (E.2.1, 192, .inl f_6)), (a_counts, .inl (E.2.1, 4, .inl f_8)), (a_o1, .inr (4, [.ref a_o1_tape, .ref a_o1_rules, .ref a_o1_places, .ref a_o1_steps, .int c_o1_siteCount, .int c_o1_stepCount, .int c_o1_seenRules, .int c_o1_at, .int c_o1_wordStart, .int c_o1_number, .int c_o1_failed])), (a_o1_steps, .inl (E.2.1, 48, .inl c_o1_steps))] H := hP
    replace hD : va_D A [(a_, .inr (5, [.ref a_steps, .ref a_counts, .int (c_held + (1 : Int32))])), (a_steps, .inl (E.2.1, 192, .inl f_6)), (a_counts, .inl (E.2.1, 4, .inl f_8)), (a_o1, .inr (4, [.ref a_o1_tape, .ref a_o1_rules, .ref a_o1_places, .ref a_o1_steps, .int c_o1_siteCount, .int c_o1_stepCount, .int c_o1_seenRules, .int c_o1_at, .int c_o1_wordStart, .int c_o1_number, .int c_o1_failed])), (a_o1_steps, .inl (E.2.1, 48, .inl c_o1_steps))] := hD
    rw [hQ]
    have h9 := fin9 (P := fun u9 : (Nat → Int32) × (Nat → Int32) × Int32 => va_P E.1 vwCl (w_X4_keep E a_ a_steps a_counts a_o1 a_o1_tape a_o1_rules a_o1_places a_o1_steps u9.2.2 u9.1 u9.2.1 c_o1_siteCount c_o1_stepCount c_o1_seenRules c_o1_at c_o1_wordStart c_o1_number c_o1_failed c_o1_steps) H ∧ va_D A (w_X4_keep E a_ a_steps a_counts a_o1 a_o1_tape a_o1_rules a_o1_places a_o1_steps u9.2.2 u9.1 u9.2.1 c_o1_siteCount c_o1_stepCount c_o1_seenRules c_o1_at c_o1_wordStart c_o1_number c_o1_failed c_o1_steps)) hF ⟨hP, hD⟩
    obtain ⟨hP9, hD9⟩ := h9
    exact W.vret hx hb hr (fun tt ht hW => ⟨⟨(), rfl, trivial, ht ▸ hP9, hD9⟩, hS.F ht⟩) hS.2.2 dX4_keep_51

def F_X4_stepsOf (p1 : Int32) (c_counts : Nat → Int32) (c_held : Int32) : Option (Int32) :=
  bd1 (F_X4_has p1 c_held) (fun r_1 => if r_1 = (0 : Int32) then some (0 : Int32) else ixF p1 4 (some (c_counts p1.toNatClampNeg)))
abbrev w_X4_stepsOf (E : EE) (a_ a_steps a_counts : Nat) (c_held : Int32) (c_counts : Nat → Int32) : va_W := [(a_, .inr (5, [.ref a_steps, .ref a_counts, .int c_held])), (a_counts, .inl (E.2.1, 4, .inl c_counts))]
def v_f_X4_stepsOf : List Cond := .code yX4_stepsOf cX4_stepsOf 2 (some .int) :: ([.fieldLink RX4 15 "HushWatch$Scripts" "counts" "[I", .methodLink RX4 38 yX4_has, .instanceMethod yX4_has, .selects RX4 yX4_has yX4_has, .initialized RX4] ++ (v_f_X4_has ++ (wsX40 ++ ([]))))
theorem gw_f_X4_stepsOf : v_f_X4_stepsOf.all goodWord = true := by decide +kernel
theorem i_f_X4_stepsOf_X4 : ∀ w ∈ wsX40, w ∈ v_f_X4_stepsOf := fun _ h => List.mem_cons_of_mem _ (List.mem_append_right _ (List.mem_append_right _ (List.mem_append_left _ h)))
theorem g_f_X4_stepsOf_f_X4_has_38 : GoodIn v_f_X4_stepsOf (wsV RX4 38 RX4 yX4_has v_f_X4_has) := goodIn_app (goodIn_of _ (by decide +kernel)) (goodIn_sub (fun _ h => List.mem_cons_of_mem _ (List.mem_append_right _ (List.mem_append_left _ h))) gw_f_X4_has)
theorem hd_X4_stepsOf : yX4_stepsOf.cls = RX4 ∧ yX4_stepsOf.cls ≠ "java/lang/invoke/MethodHandle" ∧ yX4_stepsOf.cls ≠ "java/lang/invoke/VarHandle" ∧ (parseMethodDescriptor yX4_stepsOf.desc).map (fun d => d.parameters.length) = some 1 := by decide +kernel
set_option maxHeartbeats 4000000 in
set_option maxRecDepth 100000 in
theorem f_X4_stepsOf (l : Launch) (E : EE) {a_ a_steps a_counts : Nat} {p1 : Int32} {c_held : Int32} {c_counts : Nat → Int32} {rr : Int32} (hF : F_X4_stepsOf p1 c_counts c_held = some rr) : Met l yX4_stepsOf v_f_X4_stepsOf (({ frames := 1, cells := 0, slots := 0, locals := 21 } : Room)) (va_Pc [.ref a_, .int p1] (pP E (w_X4_stepsOf E a_ a_steps a_counts c_held c_counts))) (vp_Si (fun q : Int32 => q = rr)) 0 0 (fun _ => False) := by
  refine Met.ofW (cc := cX4_stepsOf) (maxL := 2) (ret := (some .int)) (by decide) rfl ?_
  intro p e s m args below meth c s₁ B hml hv
  obtain ⟨rfl, ⟨hK, hN⟩, hP⟩ := hv
  have hx := B.exec
  have hb := B.bytes
  have hr := B.returns
  have hts := atoms_spec (ws := v_f_X4_stepsOf) B.pre
  have hown : s.vm.findClass RX4 = some m.cls := own_of hd_X4_stepsOf.1 (findClass_of_methodNamed B.named)
  have hlocks : meth.locks = false := B.notSynchronized
  replace hP : va_P E.1 vwCl [(a_, .inr (5, [.ref a_steps, .ref a_counts, .int c_held])), (a_counts, .inl (E.2.1, 4, .inl c_counts))] s.heap := hP
  have hl := lv_entry ([.ref a_, .int p1]) (n := 2) (Nat.le_of_ble_eq_true rfl)
  rw [lg_entry_eq]
  generalize (lg_sl ([.ref a_, .int p1]) ++ List.replicate (2 - (lg_sl ([.ref a_, .int p1])).length) Slot.unset).toArray = ls at hl ⊢
  have hl : lv_has ls 2 [(0, .ref a_), (1, .int p1)] := hl
  obtain ⟨Q, hQ⟩ : ∃ Q : State → Prop, Q = MQ below (vp_Si (fun q : Int32 => q = rr)) #[Value.ref a_, Value.int p1] s 0 0 (fun _ => False) := ⟨_, rfl⟩
  rw [← hQ]
  change W p l e ({ frames := 1, cells := 0, slots := 0, locals := 21 } : Room) s m #[Value.ref a_, Value.int p1] below meth c s.heap [] 0 0 Q (F0 m 0 ls [])
  unfold F_X4_stepsOf at hF
  refine lv_aload_n hx hb dX4_stepsOf_0 rfl (lv_at hl 0 rfl) ?_
  refine lv_iload_n hx hb dX4_stepsOf_1 rfl (lv_at hl 1 rfl) ?_
  replace hF := bd1_s hF
  obtain ⟨r_1, hc_2, hF⟩ := hF
  have hPc : va_P E.1 vwCl (w_X4_has E a_ a_steps a_counts c_held) s.heap := hP.sub (ws' := [(a_, .inr (5, [.ref a_steps, .ref a_counts, .int c_held]))]) [0] rfl
  have hrc := va_recv hK hPc (ci := 5) (q0 := 0) rfl rfl
  refine pE_z (va_runV (As := [.int p1]) (rest := [])  ⟨hx, hb, hml, hown, hts⟩ (f_X4_has l E (a_ := a_) (a_steps := a_steps) (a_counts := a_counts) (p1 := p1) (c_held := c_held) hc_2) (cwV 1 hts g_f_X4_stepsOf_f_X4_has_38 rfl rfl rfl hd_X4_has ⟨Nat.le_of_ble_eq_true rfl, Nat.le_of_ble_eq_true rfl⟩) ⟨pP.blind, hrc, (pP.pre ⟨hK, hN⟩ hPc)⟩ rfl rfl hl.1 rfl (lv_room (Nat.le_of_ble_eq_true rfl)) dX4_stepsOf_2 ⟨Nat.le_of_ble_eq_true rfl, Nat.le_of_ble_eq_true rfl⟩) (fun hb_3 => ?_)
  refine lv_if_eq (tgt := 17) hx hb dX4_stepsOf_5 (by decide) (fun c_4 => ?_) (fun c_4 => ?_)
  ·
    replace hF := ip c_4 hF
    refine lv_iconst (v := 0) hx hb dX4_stepsOf_17 (by decide) ?_
    rw [hQ]
    obtain e9_0 := inj1 hF
    exact W.iret (v := (0 : Int32)) hx hb hr (fun tt ht hW => ⟨_, rfl, e9_0, ht⟩) (fun _ h => by cases h) dX4_stepsOf_18
  ·
    replace hF := inn c_4 hF
    refine lv_aload_n hx hb dX4_stepsOf_8 rfl (lv_at hl 0 rfl) ?_
    refine gt_X4_1 (v := .ref a_counts) hx hb hts i_f_X4_stepsOf_X4 hown hK hP 0 rfl (hts (.fieldLink RX4 15 "HushWatch$Scripts" "counts" "[I") (List.mem_of_getElem? (i := 1) rfl)) rfl dX4_stepsOf_9 ?_
    refine lv_iload_n hx hb dX4_stepsOf_12 rfl (lv_at hl 1 rfl) ?_
    replace hF := ix_s hF
    obtain ⟨hi_5, hF⟩ := hF
    refine va_iald hx hb hK hP 1 0 rfl rfl hi_5 dX4_stepsOf_13 ?_
    refine lv_goto (tgt := 18) hx hb dX4_stepsOf_14 (by decide) ?_
    rw [hQ]
    obtain e9_0 := inj1 hF
    exact W.iret (v := c_counts p1.toNatClampNeg) hx hb hr (fun tt ht hW => ⟨_, rfl, e9_0, ht⟩) (fun _ h => by cases h) dX4_stepsOf_18

def F_X4_read (p1 : Int32) (p2 : Int32) (p3 : Int32) (c_steps : Nat → Int32) (c_counts : Nat → Int32) (c_held : Int32) : Option (Int32) :=
  if p2 < (0 : Int32) then some (-100000000 : Int32) else bd1 (F_X4_stepsOf p1 c_counts c_held) (fun r_2 => if r_2 ≤ p2 then some (-100000000 : Int32) else if p3 < (0 : Int32) then some (-100000000 : Int32) else if p3 < (4 : Int32) then ixF (((p1 * (48 : Int32)) + (p2 * (4 : Int32))) + p3) 192 (some (c_steps (((p1 * (48 : Int32)) + (p2 * (4 : Int32))) + p3).toNatClampNeg)) else some (-100000000 : Int32))
abbrev w_X4_read (E : EE) (a_ a_steps a_counts : Nat) (c_held : Int32) (c_steps : Nat → Int32) (c_counts : Nat → Int32) : va_W := [(a_, .inr (5, [.ref a_steps, .ref a_counts, .int c_held])), (a_steps, .inl (E.2.1, 192, .inl c_steps)), (a_counts, .inl (E.2.1, 4, .inl c_counts))]
def v_f_X4_read : List Cond := .code yX4_read cX4_read 4 (some .int) :: ([.constant RX4 46 (-100000000), .fieldLink RX4 11 "HushWatch$Scripts" "steps" "[I", .methodLink RX4 42 yX4_stepsOf, .instanceMethod yX4_stepsOf, .selects RX4 yX4_stepsOf yX4_stepsOf, .initialized RX4] ++ (v_f_X4_stepsOf ++ (wsX40 ++ ([]))))
theorem gw_f_X4_read : v_f_X4_read.all goodWord = true := by decide +kernel
theorem i_f_X4_read_X4 : ∀ w ∈ wsX40, w ∈ v_f_X4_read := fun _ h => List.mem_cons_of_mem _ (List.mem_append_right _ (List.mem_append_right _ (List.mem_append_left _ h)))
theorem g_f_X4_read_f_X4_stepsOf_42 : GoodIn v_f_X4_read (wsV RX4 42 RX4 yX4_stepsOf v_f_X4_stepsOf) := goodIn_app (goodIn_of _ (by decide +kernel)) (goodIn_sub (fun _ h => List.mem_cons_of_mem _ (List.mem_append_right _ (List.mem_append_left _ h))) gw_f_X4_stepsOf)
theorem hd_X4_read : yX4_read.cls = RX4 ∧ yX4_read.cls ≠ "java/lang/invoke/MethodHandle" ∧ yX4_read.cls ≠ "java/lang/invoke/VarHandle" ∧ (parseMethodDescriptor yX4_read.desc).map (fun d => d.parameters.length) = some 3 := by decide +kernel
set_option maxHeartbeats 4000000 in
set_option maxRecDepth 100000 in
theorem f_X4_read (l : Launch) (E : EE) {a_ a_steps a_counts : Nat} {p1 : Int32} {p2 : Int32} {p3 : Int32} {c_held : Int32} {c_steps : Nat → Int32} {c_counts : Nat → Int32} {rr : Int32} (hF : F_X4_read p1 p2 p3 c_steps c_counts c_held = some rr) : Met l yX4_read v_f_X4_read (({ frames := 2, cells := 0, slots := 0, locals := 42 } : Room)) (va_Pc [.ref a_, .int p1, .int p2, .int p3] (pP E (w_X4_read E a_ a_steps a_counts c_held c_steps c_counts))) (vp_Si (fun q : Int32 => q = rr)) 0 0 (fun _ => False) := by
  refine Met.ofW (cc := cX4_read) (maxL := 4) (ret := (some .int)) (by decide) rfl ?_
  intro p e s m args below meth c s₁ B hml hv
  obtain ⟨rfl, ⟨hK, hN⟩, hP⟩ := hv
  have hx := B.exec
  have hb := B.bytes
  have hr := B.returns
  have hts := atoms_spec (ws := v_f_X4_read) B.pre
  have hown : s.vm.findClass RX4 = some m.cls := own_of hd_X4_read.1 (findClass_of_methodNamed B.named)
  have hlocks : meth.locks = false := B.notSynchronized
  replace hP : va_P E.1 vwCl [(a_, .inr (5, [.ref a_steps, .ref a_counts, .int c_held])), (a_steps, .inl (E.2.1, 192, .inl c_steps)), (a_counts, .inl (E.2.1, 4, .inl c_counts))] s.heap := hP
  have hl := lv_entry ([.ref a_, .int p1, .int p2, .int p3]) (n := 4) (Nat.le_of_ble_eq_true rfl)
  rw [lg_entry_eq]
  generalize (lg_sl ([.ref a_, .int p1, .int p2, .int p3]) ++ List.replicate (4 - (lg_sl ([.ref a_, .int p1, .int p2, .int p3])).length) Slot.unset).toArray = ls at hl ⊢
  have hl : lv_has ls 4 [(0, .ref a_), (1, .int p1), (2, .int p2), (3, .int p3)] := hl
  obtain ⟨Q, hQ⟩ : ∃ Q : State → Prop, Q = MQ below (vp_Si (fun q : Int32 => q = rr)) #[Value.ref a_, Value.int p1, Value.int p2, Value.int p3] s 0 0 (fun _ => False) := ⟨_, rfl⟩
  rw [← hQ]
  change W p l e ({ frames := 2, cells := 0, slots := 0, locals := 42 } : Room) s m #[Value.ref a_, Value.int p1, Value.int p2, Value.int p3] below meth c s.heap [] 0 0 Q (F0 m 0 ls [])
  unfold F_X4_read at hF
  refine lv_iload_n hx hb dX4_read_0 rfl (lv_at hl 2 rfl) ?_
  refine lv_if_lt (tgt := 22) hx hb dX4_read_1 (by decide) (fun c_1 => ?_) (fun c_1 => ?_)
  ·
    replace hF := ip c_1 hF
    refine lv_ldc (v := -100000000) hx hb hown (hts (.constant RX4 46 (-100000000)) (List.mem_of_getElem? (i := 1) rfl)) dX4_read_22 ?_
    rw [hQ]
    obtain e9_0 := inj1 hF
    exact W.iret (v := (-100000000 : Int32)) hx hb hr (fun tt ht hW => ⟨_, rfl, e9_0, ht⟩) (fun _ h => by cases h) dX4_read_24
  ·
    replace hF := inn c_1 hF
    refine lv_iload_n hx hb dX4_read_4 rfl (lv_at hl 2 rfl) ?_
    refine lv_aload_n hx hb dX4_read_5 rfl (lv_at hl 0 rfl) ?_
    refine lv_iload_n hx hb dX4_read_6 rfl (lv_at hl 1 rfl) ?_
    replace hF := bd1_s hF
    obtain ⟨r_2, hc_3, hF⟩ := hF
    have hPc : va_P E.1 vwCl (w_X4_stepsOf E a_ a_steps a_counts c_held c_counts) s.heap := hP.sub (ws' := [(a_, .inr (5, [.ref a_steps, .ref a_counts, .int c_held])), (a_counts, .inl (E.2.1, 4, .inl c_counts))]) [0, 2] rfl
    have hrc := va_recv hK hPc (ci := 5) (q0 := 0) rfl rfl
    refine pE_i (va_runV (As := [.int p1]) (rest := [.int p2])  ⟨hx, hb, hml, hown, hts⟩ (f_X4_stepsOf l E (a_ := a_) (a_steps := a_steps) (a_counts := a_counts) (p1 := p1) (c_held := c_held) (c_counts := c_counts) hc_3) (cwV 1 hts g_f_X4_read_f_X4_stepsOf_42 rfl rfl rfl hd_X4_stepsOf ⟨Nat.le_of_ble_eq_true rfl, Nat.le_of_ble_eq_true rfl⟩) ⟨pP.blind, hrc, (pP.pre ⟨hK, hN⟩ hPc)⟩ rfl rfl hl.1 rfl (lv_room (Nat.le_of_ble_eq_true rfl)) dX4_read_7 ⟨Nat.le_of_ble_eq_true rfl, Nat.le_of_ble_eq_true rfl⟩) ?_
    refine lv_icmp_ge (tgt := 22) hx hb dX4_read_10 (by decide) (fun c_4 => ?_) (fun c_4 => ?_)
    ·
      replace hF := ip c_4 hF
      refine lv_ldc (v := -100000000) hx hb hown (hts (.constant RX4 46 (-100000000)) (List.mem_of_getElem? (i := 1) rfl)) dX4_read_22 ?_
      rw [hQ]
      obtain e9_0 := inj1 hF
      exact W.iret (v := (-100000000 : Int32)) hx hb hr (fun tt ht hW => ⟨_, rfl, e9_0, ht⟩) (fun _ h => by cases h) dX4_read_24
    ·
      replace hF := inn c_4 hF
      refine lv_iload_n hx hb dX4_read_13 rfl (lv_at hl 3 rfl) ?_
      refine lv_if_lt (tgt := 22) hx hb dX4_read_14 (by decide) (fun c_5 => ?_) (fun c_5 => ?_)
      ·
        replace hF := ip c_5 hF
        refine lv_ldc (v := -100000000) hx hb hown (hts (.constant RX4 46 (-100000000)) (List.mem_of_getElem? (i := 1) rfl)) dX4_read_22 ?_
        rw [hQ]
        obtain e9_0 := inj1 hF
        exact W.iret (v := (-100000000 : Int32)) hx hb hr (fun tt ht hW => ⟨_, rfl, e9_0, ht⟩) (fun _ h => by cases h) dX4_read_24
      ·
        replace hF := inn c_5 hF
        refine lv_iload_n hx hb dX4_read_17 rfl (lv_at hl 3 rfl) ?_
        refine lv_iconst (v := 4) hx hb dX4_read_18 (by decide) ?_
        refine lv_icmp_lt (tgt := 25) hx hb dX4_read_19 (by decide) (fun c_6 => ?_) (fun c_6 => ?_)
        ·
          replace hF := ip c_6 hF
          refine lv_aload_n hx hb dX4_read_25 rfl (lv_at hl 0 rfl) ?_
          refine gt_X4_0 (v := .ref a_steps) hx hb hts i_f_X4_read_X4 hown hK hP 0 rfl (hts (.fieldLink RX4 11 "HushWatch$Scripts" "steps" "[I") (List.mem_of_getElem? (i := 2) rfl)) rfl dX4_read_26 ?_
          refine lv_iload_n hx hb dX4_read_29 rfl (lv_at hl 1 rfl) ?_
          refine lv_bipush (v := 48) hx hb dX4_read_30 (by decide) ?_
          refine lv_imul hx hb dX4_read_32 ?_
          refine lv_iload_n hx hb dX4_read_33 rfl (lv_at hl 2 rfl) ?_
          refine lv_iconst (v := 4) hx hb dX4_read_34 (by decide) ?_
          refine lv_imul hx hb dX4_read_35 ?_
          refine lv_iadd hx hb dX4_read_36 ?_
          refine lv_iload_n hx hb dX4_read_37 rfl (lv_at hl 3 rfl) ?_
          refine lv_iadd hx hb dX4_read_38 ?_
          replace hF := ix_s hF
          obtain ⟨hi_7, hF⟩ := hF
          refine va_iald hx hb hK hP 1 0 rfl rfl hi_7 dX4_read_39 ?_
          rw [hQ]
          obtain e9_0 := inj1 hF
          exact W.iret (v := c_steps (((p1 * (48 : Int32)) + (p2 * (4 : Int32))) + p3).toNatClampNeg) hx hb hr (fun tt ht hW => ⟨_, rfl, e9_0, ht⟩) (fun _ h => by cases h) dX4_read_40
        ·
          replace hF := inn c_6 hF
          refine lv_ldc (v := -100000000) hx hb hown (hts (.constant RX4 46 (-100000000)) (List.mem_of_getElem? (i := 1) rfl)) dX4_read_22 ?_
          rw [hQ]
          obtain e9_0 := inj1 hF
          exact W.iret (v := (-100000000 : Int32)) hx hb hr (fun tt ht hW => ⟨_, rfl, e9_0, ht⟩) (fun _ h => by cases h) dX4_read_24

def F_X4_sortOf (p1 : Int32) (p2 : Int32) (c_steps : Nat → Int32) (c_counts : Nat → Int32) (c_held : Int32) : Option (Int32) :=
  bd1 (F_X4_read p1 p2 (0 : Int32) c_steps c_counts c_held) (fun r_1 => if r_1 < (0 : Int32) then some (-1 : Int32) else if (7 : Int32) ≤ r_1 then some (-1 : Int32) else ixF r_1 7 (some (sosF r_1.toNatClampNeg)))
abbrev w_X4_sortOf (E : EE) (a_ a_steps a_counts : Nat) (c_held : Int32) (c_steps : Nat → Int32) (c_counts : Nat → Int32) : va_W := [(a_, .inr (5, [.ref a_steps, .ref a_counts, .int c_held])), (a_steps, .inl (E.2.1, 192, .inl c_steps)), (a_counts, .inl (E.2.1, 4, .inl c_counts))]
def v_f_X4_sortOf : List Cond := .code yX4_sortOf cX4_sortOf 4 (some .int) :: ([.methodLink RX4 47 yX4_read, .instanceMethod yX4_read, .selects RX4 yX4_read yX4_read, .initialized RX4] ++ (v_f_X4_read ++ ([])))
theorem gw_f_X4_sortOf : v_f_X4_sortOf.all goodWord = true := by decide +kernel
theorem g_f_X4_sortOf_f_X4_read_47 : GoodIn v_f_X4_sortOf (wsV RX4 47 RX4 yX4_read v_f_X4_read) := goodIn_app (goodIn_of _ (by decide +kernel)) (goodIn_sub (fun _ h => List.mem_cons_of_mem _ (List.mem_append_right _ (List.mem_append_left _ h))) gw_f_X4_read)
theorem hd_X4_sortOf : yX4_sortOf.cls = RX4 ∧ yX4_sortOf.cls ≠ "java/lang/invoke/MethodHandle" ∧ yX4_sortOf.cls ≠ "java/lang/invoke/VarHandle" ∧ (parseMethodDescriptor yX4_sortOf.desc).map (fun d => d.parameters.length) = some 2 := by decide +kernel
set_option maxHeartbeats 4000000 in
set_option maxRecDepth 100000 in
theorem f_X4_sortOf (l : Launch) (E : EE) (z9 : Nat → Nat) {a_ a_steps a_counts : Nat} {p1 : Int32} {p2 : Int32} {c_held : Int32} {c_steps : Nat → Int32} {c_counts : Nat → Int32} {rr : Int32} (hF : F_X4_sortOf p1 p2 c_steps c_counts c_held = some rr) : Met l yX4_sortOf v_f_X4_sortOf (({ frames := 3, cells := 0, slots := 0, locals := 65 } : Room)) (va_Pc [.ref a_, .int p1, .int p2] (qPZ E z9 (w_X4_sortOf E a_ a_steps a_counts c_held c_steps c_counts))) (vp_Si (fun q : Int32 => q = rr)) 0 0 (fun _ => False) := by
  refine Met.ofW (cc := cX4_sortOf) (maxL := 4) (ret := (some .int)) (by decide) rfl ?_
  intro p e s m args below meth c s₁ B hml hv
  obtain ⟨rfl, ⟨hK, hN⟩, hP, hZ⟩ := hv
  have hx := B.exec
  have hb := B.bytes
  have hr := B.returns
  have hts := atoms_spec (ws := v_f_X4_sortOf) B.pre
  have hown : s.vm.findClass RX4 = some m.cls := own_of hd_X4_sortOf.1 (findClass_of_methodNamed B.named)
  have hlocks : meth.locks = false := B.notSynchronized
  replace hP : va_P E.1 vwCl [(a_, .inr (5, [.ref a_steps, .ref a_counts, .int c_held])), (a_steps, .inl (E.2.1, 192, .inl c_steps)), (a_counts, .inl (E.2.1, 4, .inl c_counts))] s.heap := hP
  have hl := lv_entry ([.ref a_, .int p1, .int p2]) (n := 4) (Nat.le_of_ble_eq_true rfl)
  rw [lg_entry_eq]
  generalize (lg_sl ([.ref a_, .int p1, .int p2]) ++ List.replicate (4 - (lg_sl ([.ref a_, .int p1, .int p2])).length) Slot.unset).toArray = ls at hl ⊢
  have hl : lv_has ls 4 [(0, .ref a_), (1, .int p1), (2, .int p2)] := hl
  obtain ⟨Q, hQ⟩ : ∃ Q : State → Prop, Q = MQ below (vp_Si (fun q : Int32 => q = rr)) #[Value.ref a_, Value.int p1, Value.int p2] s 0 0 (fun _ => False) := ⟨_, rfl⟩
  rw [← hQ]
  change W p l e ({ frames := 3, cells := 0, slots := 0, locals := 65 } : Room) s m #[Value.ref a_, Value.int p1, Value.int p2] below meth c s.heap [] 0 0 Q (F0 m 0 ls [])
  unfold F_X4_sortOf at hF
  refine lv_aload_n hx hb dX4_sortOf_0 rfl (lv_at hl 0 rfl) ?_
  refine lv_iload_n hx hb dX4_sortOf_1 rfl (lv_at hl 1 rfl) ?_
  refine lv_iload_n hx hb dX4_sortOf_2 rfl (lv_at hl 2 rfl) ?_
  refine lv_iconst (v := 0) hx hb dX4_sortOf_3 (by decide) ?_
  replace hF := bd1_s hF
  obtain ⟨r_1, hc_2, hF⟩ := hF
  have hPc : va_P E.1 vwCl (w_X4_read E a_ a_steps a_counts c_held c_steps c_counts) s.heap := hP.sub (ws' := [(a_, .inr (5, [.ref a_steps, .ref a_counts, .int c_held])), (a_steps, .inl (E.2.1, 192, .inl c_steps)), (a_counts, .inl (E.2.1, 4, .inl c_counts))]) [0, 1, 2] rfl
  have hrc := va_recv hK hPc (ci := 5) (q0 := 0) rfl rfl
  refine pE_i (va_runV (As := [.int p1, .int p2, .int (0 : Int32)]) (rest := [])  ⟨hx, hb, hml, hown, hts⟩ (f_X4_read l E (a_ := a_) (a_steps := a_steps) (a_counts := a_counts) (p1 := p1) (p2 := p2) (p3 := (0 : Int32)) (c_held := c_held) (c_steps := c_steps) (c_counts := c_counts) hc_2) (cwV 3 hts g_f_X4_sortOf_f_X4_read_47 rfl rfl rfl hd_X4_read ⟨Nat.le_of_ble_eq_true rfl, Nat.le_of_ble_eq_true rfl⟩) ⟨pP.blind, hrc, (pP.pre ⟨hK, hN⟩ hPc)⟩ rfl rfl hl.1 rfl (lv_room (Nat.le_of_ble_eq_true rfl)) dX4_sortOf_4 ⟨Nat.le_of_ble_eq_true rfl, Nat.le_of_ble_eq_true rfl⟩) ?_
  refine lv_istore_n (lv' := [(3, .int r_1), (0, .ref a_), (1, .int p1), (2, .int p2)]) hx hb dX4_sortOf_7 rfl hl (by decide) rfl (fun ls hl => ?_)
  refine lv_iload_n hx hb dX4_sortOf_8 rfl (lv_at hl 0 rfl) ?_
  refine lv_if_lt (tgt := 28) hx hb dX4_sortOf_9 (by decide) (fun c_3 => ?_) (fun c_3 => ?_)
  ·
    replace hF := ip c_3 hF
    refine lv_iconst (v := -1) hx hb dX4_sortOf_28 (by decide) ?_
    rw [hQ]
    obtain e9_0 := inj1 hF
    exact W.iret (v := (-1 : Int32)) hx hb hr (fun tt ht hW => ⟨_, rfl, e9_0, ht⟩) (fun _ h => by cases h) dX4_sortOf_29
  ·
    replace hF := inn c_3 hF
    refine lv_iload_n hx hb dX4_sortOf_12 rfl (lv_at hl 0 rfl) ?_
    refine va_getsN hx hb hZ.2.1.2.2.1 (va_S.rf) hown (nx hN 27 rfl) (fun _ h9 => h9) dX4_sortOf_13 ?_
    refine va_tlen (v := 7) hx hb (hZ.2.1.2.2.2) (va_S.rf) (by decide) dX4_sortOf_16 ?_
    refine lv_icmp_ge (tgt := 28) hx hb dX4_sortOf_17 (by decide) (fun c_4 => ?_) (fun c_4 => ?_)
    ·
      replace hF := ip c_4 hF
      refine lv_iconst (v := -1) hx hb dX4_sortOf_28 (by decide) ?_
      rw [hQ]
      obtain e9_0 := inj1 hF
      exact W.iret (v := (-1 : Int32)) hx hb hr (fun tt ht hW => ⟨_, rfl, e9_0, ht⟩) (fun _ h => by cases h) dX4_sortOf_29
    ·
      replace hF := inn c_4 hF
      refine va_getsN hx hb hZ.2.1.2.2.1 (va_S.rf) hown (nx hN 27 rfl) (fun _ h9 => h9) dX4_sortOf_20 ?_
      refine lv_iload_n hx hb dX4_sortOf_23 rfl (lv_at hl 0 rfl) ?_
      replace hF := ix_s hF
      obtain ⟨hi_5, hF⟩ := hF
      refine va_ti (v := .int (sosF r_1.toNatClampNeg)) hx hb (hZ.2.1.2.2.2) (va_S.rf) hi_5 rfl dX4_sortOf_24 ?_
      refine lv_goto (tgt := 29) hx hb dX4_sortOf_25 (by decide) ?_
      rw [hQ]
      obtain e9_0 := inj1 hF
      exact W.iret (v := (sosF r_1.toNatClampNeg)) hx hb hr (fun tt ht hW => ⟨_, rfl, e9_0, ht⟩) (fun _ h => by cases h) dX4_sortOf_29
end
-- 26.cl01
section
def dl_X6_bytesIn_26_cl01_0 : List (Nat × Instr × Nat) := [(5, .iload_n 2, 1), (6, .ifCond .lt 22, 3), (9, .iload_n 0, 1), (10, .iload_n 2, 1), (11, .iushr, 1), (12, .sipush 255, 3), (15, .iand, 1), (16, .ifCond .eq 6, 3), (22, .iinc 2 (-8), 3), (25, .goto (-20), 3), (19, .iinc 1 1, 3), (0, .iconst 0, 1), (1, .istore_n 1, 1), (2, .bipush 24, 2), (4, .istore_n 2, 1), (28, .iload_n 1, 1), (29, .ireturn, 1)]
set_option maxRecDepth 100000 in
theorem dall_X6_bytesIn_26_cl01_0 : dchk cX6_bytesIn dl_X6_bytesIn_26_cl01_0 = true := by decide +kernel
theorem dX6_bytesIn_5 : decode cX6_bytesIn 5 = .ok (.iload_n 2, 1) := dchk_at dall_X6_bytesIn_26_cl01_0 (k := 0) rfl
theorem dX6_bytesIn_6 : decode cX6_bytesIn 6 = .ok (.ifCond .lt 22, 3) := dchk_at dall_X6_bytesIn_26_cl01_0 (k := 1) rfl
theorem dX6_bytesIn_9 : decode cX6_bytesIn 9 = .ok (.iload_n 0, 1) := dchk_at dall_X6_bytesIn_26_cl01_0 (k := 2) rfl
theorem dX6_bytesIn_10 : decode cX6_bytesIn 10 = .ok (.iload_n 2, 1) := dchk_at dall_X6_bytesIn_26_cl01_0 (k := 3) rfl
theorem dX6_bytesIn_11 : decode cX6_bytesIn 11 = .ok (.iushr, 1) := dchk_at dall_X6_bytesIn_26_cl01_0 (k := 4) rfl
theorem dX6_bytesIn_12 : decode cX6_bytesIn 12 = .ok (.sipush 255, 3) := dchk_at dall_X6_bytesIn_26_cl01_0 (k := 5) rfl
theorem dX6_bytesIn_15 : decode cX6_bytesIn 15 = .ok (.iand, 1) := dchk_at dall_X6_bytesIn_26_cl01_0 (k := 6) rfl
theorem dX6_bytesIn_16 : decode cX6_bytesIn 16 = .ok (.ifCond .eq 6, 3) := dchk_at dall_X6_bytesIn_26_cl01_0 (k := 7) rfl
theorem dX6_bytesIn_22 : decode cX6_bytesIn 22 = .ok (.iinc 2 (-8), 3) := dchk_at dall_X6_bytesIn_26_cl01_0 (k := 8) rfl
theorem dX6_bytesIn_25 : decode cX6_bytesIn 25 = .ok (.goto (-20), 3) := dchk_at dall_X6_bytesIn_26_cl01_0 (k := 9) rfl
theorem dX6_bytesIn_19 : decode cX6_bytesIn 19 = .ok (.iinc 1 1, 3) := dchk_at dall_X6_bytesIn_26_cl01_0 (k := 10) rfl
theorem dX6_bytesIn_0 : decode cX6_bytesIn 0 = .ok (.iconst 0, 1) := dchk_at dall_X6_bytesIn_26_cl01_0 (k := 11) rfl
theorem dX6_bytesIn_1 : decode cX6_bytesIn 1 = .ok (.istore_n 1, 1) := dchk_at dall_X6_bytesIn_26_cl01_0 (k := 12) rfl
theorem dX6_bytesIn_2 : decode cX6_bytesIn 2 = .ok (.bipush 24, 2) := dchk_at dall_X6_bytesIn_26_cl01_0 (k := 13) rfl
theorem dX6_bytesIn_4 : decode cX6_bytesIn 4 = .ok (.istore_n 2, 1) := dchk_at dall_X6_bytesIn_26_cl01_0 (k := 14) rfl
theorem dX6_bytesIn_28 : decode cX6_bytesIn 28 = .ok (.iload_n 1, 1) := dchk_at dall_X6_bytesIn_26_cl01_0 (k := 15) rfl
theorem dX6_bytesIn_29 : decode cX6_bytesIn 29 = .ok (.ireturn, 1) := dchk_at dall_X6_bytesIn_26_cl01_0 (k := 16) rfl
def dl_X6_cutTo_26_cl01_0 : List (Nat × Instr × Nat) := [(0, .iload_n 1, 1), (1, .ifCond .lt 11, 3), (12, .iconst 0, 1), (13, .ireturn, 1), (4, .iload_n 1, 1), (5, .aload_n 0, 1), (6, .getfield 15, 3), (9, .if_icmp .le 5, 3), (14, .aload_n 0, 1), (15, .iload_n 1, 1), (16, .putfield 15, 3), (19, .iconst 1, 1), (20, .ireturn, 1)]
set_option maxRecDepth 100000 in
theorem dall_X6_cutTo_26_cl01_0 : dchk cX6_cutTo dl_X6_cutTo_26_cl01_0 = true := by decide +kernel
theorem dX6_cutTo_0 : decode cX6_cutTo 0 = .ok (.iload_n 1, 1) := dchk_at dall_X6_cutTo_26_cl01_0 (k := 0) rfl
theorem dX6_cutTo_1 : decode cX6_cutTo 1 = .ok (.ifCond .lt 11, 3) := dchk_at dall_X6_cutTo_26_cl01_0 (k := 1) rfl
theorem dX6_cutTo_12 : decode cX6_cutTo 12 = .ok (.iconst 0, 1) := dchk_at dall_X6_cutTo_26_cl01_0 (k := 2) rfl
theorem dX6_cutTo_13 : decode cX6_cutTo 13 = .ok (.ireturn, 1) := dchk_at dall_X6_cutTo_26_cl01_0 (k := 3) rfl
theorem dX6_cutTo_4 : decode cX6_cutTo 4 = .ok (.iload_n 1, 1) := dchk_at dall_X6_cutTo_26_cl01_0 (k := 4) rfl
theorem dX6_cutTo_5 : decode cX6_cutTo 5 = .ok (.aload_n 0, 1) := dchk_at dall_X6_cutTo_26_cl01_0 (k := 5) rfl
theorem dX6_cutTo_6 : decode cX6_cutTo 6 = .ok (.getfield 15, 3) := dchk_at dall_X6_cutTo_26_cl01_0 (k := 6) rfl
theorem dX6_cutTo_9 : decode cX6_cutTo 9 = .ok (.if_icmp .le 5, 3) := dchk_at dall_X6_cutTo_26_cl01_0 (k := 7) rfl
theorem dX6_cutTo_14 : decode cX6_cutTo 14 = .ok (.aload_n 0, 1) := dchk_at dall_X6_cutTo_26_cl01_0 (k := 8) rfl
theorem dX6_cutTo_15 : decode cX6_cutTo 15 = .ok (.iload_n 1, 1) := dchk_at dall_X6_cutTo_26_cl01_0 (k := 9) rfl
theorem dX6_cutTo_16 : decode cX6_cutTo 16 = .ok (.putfield 15, 3) := dchk_at dall_X6_cutTo_26_cl01_0 (k := 10) rfl
theorem dX6_cutTo_19 : decode cX6_cutTo 19 = .ok (.iconst 1, 1) := dchk_at dall_X6_cutTo_26_cl01_0 (k := 11) rfl
theorem dX6_cutTo_20 : decode cX6_cutTo 20 = .ok (.ireturn, 1) := dchk_at dall_X6_cutTo_26_cl01_0 (k := 12) rfl
def dl_X6_signAt_26_cl01_0 : List (Nat × Instr × Nat) := [(0, .iload_n 1, 1), (1, .ifCond .lt 31, 3), (32, .iconst (-1), 1), (33, .ireturn, 1), (4, .iload_n 1, 1), (5, .aload_n 0, 1), (6, .getfield 15, 3), (9, .if_icmp .ge 23, 3), (12, .iload_n 1, 1), (13, .sipush 320, 3), (16, .if_icmp .ge 16, 3), (19, .aload_n 0, 1), (20, .getfield 11, 3), (23, .iload_n 1, 1), (24, .baload, 1), (25, .sipush 255, 3), (28, .iand, 1), (29, .goto 4, 3)]
set_option maxRecDepth 100000 in
theorem dall_X6_signAt_26_cl01_0 : dchk cX6_signAt dl_X6_signAt_26_cl01_0 = true := by decide +kernel
theorem dX6_signAt_0 : decode cX6_signAt 0 = .ok (.iload_n 1, 1) := dchk_at dall_X6_signAt_26_cl01_0 (k := 0) rfl
theorem dX6_signAt_1 : decode cX6_signAt 1 = .ok (.ifCond .lt 31, 3) := dchk_at dall_X6_signAt_26_cl01_0 (k := 1) rfl
theorem dX6_signAt_32 : decode cX6_signAt 32 = .ok (.iconst (-1), 1) := dchk_at dall_X6_signAt_26_cl01_0 (k := 2) rfl
theorem dX6_signAt_33 : decode cX6_signAt 33 = .ok (.ireturn, 1) := dchk_at dall_X6_signAt_26_cl01_0 (k := 3) rfl
theorem dX6_signAt_4 : decode cX6_signAt 4 = .ok (.iload_n 1, 1) := dchk_at dall_X6_signAt_26_cl01_0 (k := 4) rfl
theorem dX6_signAt_5 : decode cX6_signAt 5 = .ok (.aload_n 0, 1) := dchk_at dall_X6_signAt_26_cl01_0 (k := 5) rfl
theorem dX6_signAt_6 : decode cX6_signAt 6 = .ok (.getfield 15, 3) := dchk_at dall_X6_signAt_26_cl01_0 (k := 6) rfl
theorem dX6_signAt_9 : decode cX6_signAt 9 = .ok (.if_icmp .ge 23, 3) := dchk_at dall_X6_signAt_26_cl01_0 (k := 7) rfl
theorem dX6_signAt_12 : decode cX6_signAt 12 = .ok (.iload_n 1, 1) := dchk_at dall_X6_signAt_26_cl01_0 (k := 8) rfl
theorem dX6_signAt_13 : decode cX6_signAt 13 = .ok (.sipush 320, 3) := dchk_at dall_X6_signAt_26_cl01_0 (k := 9) rfl
theorem dX6_signAt_16 : decode cX6_signAt 16 = .ok (.if_icmp .ge 16, 3) := dchk_at dall_X6_signAt_26_cl01_0 (k := 10) rfl
theorem dX6_signAt_19 : decode cX6_signAt 19 = .ok (.aload_n 0, 1) := dchk_at dall_X6_signAt_26_cl01_0 (k := 11) rfl
theorem dX6_signAt_20 : decode cX6_signAt 20 = .ok (.getfield 11, 3) := dchk_at dall_X6_signAt_26_cl01_0 (k := 12) rfl
theorem dX6_signAt_23 : decode cX6_signAt 23 = .ok (.iload_n 1, 1) := dchk_at dall_X6_signAt_26_cl01_0 (k := 13) rfl
theorem dX6_signAt_24 : decode cX6_signAt 24 = .ok (.baload, 1) := dchk_at dall_X6_signAt_26_cl01_0 (k := 14) rfl
theorem dX6_signAt_25 : decode cX6_signAt 25 = .ok (.sipush 255, 3) := dchk_at dall_X6_signAt_26_cl01_0 (k := 15) rfl
theorem dX6_signAt_28 : decode cX6_signAt 28 = .ok (.iand, 1) := dchk_at dall_X6_signAt_26_cl01_0 (k := 16) rfl
theorem dX6_signAt_29 : decode cX6_signAt 29 = .ok (.goto 4, 3) := dchk_at dall_X6_signAt_26_cl01_0 (k := 17) rfl
def dl_X6_take_26_cl01_0 : List (Nat × Instr × Nat) := [(3, .iload_n 2, 1), (4, .ifCond .lt 52, 3), (7, .iload_n 1, 1), (8, .iload_n 2, 1), (9, .iushr, 1), (10, .sipush 255, 3), (13, .iand, 1), (14, .istore_n 3, 1), (15, .iload_n 3, 1), (16, .ifCond .eq 34, 3), (50, .iinc 2 (-8), 3), (53, .goto (-50), 3), (19, .aload_n 0, 1), (20, .getfield 15, 3), (23, .sipush 320, 3), (26, .if_icmp .ge 24, 3), (29, .aload_n 0, 1), (30, .getfield 11, 3), (33, .aload_n 0, 1), (34, .getfield 15, 3), (37, .iload_n 3, 1), (38, .i2b, 1), (39, .bastore, 1), (40, .aload_n 0, 1), (41, .dup, 1), (42, .getfield 15, 3), (45, .iconst 1, 1), (46, .iadd, 1), (47, .putfield 15, 3), (0, .bipush 24, 2), (2, .istore_n 2, 1), (56, .return_, 1)]
set_option maxRecDepth 100000 in
theorem dall_X6_take_26_cl01_0 : dchk cX6_take dl_X6_take_26_cl01_0 = true := by decide +kernel
theorem dX6_take_3 : decode cX6_take 3 = .ok (.iload_n 2, 1) := dchk_at dall_X6_take_26_cl01_0 (k := 0) rfl
theorem dX6_take_4 : decode cX6_take 4 = .ok (.ifCond .lt 52, 3) := dchk_at dall_X6_take_26_cl01_0 (k := 1) rfl
theorem dX6_take_7 : decode cX6_take 7 = .ok (.iload_n 1, 1) := dchk_at dall_X6_take_26_cl01_0 (k := 2) rfl
theorem dX6_take_8 : decode cX6_take 8 = .ok (.iload_n 2, 1) := dchk_at dall_X6_take_26_cl01_0 (k := 3) rfl
theorem dX6_take_9 : decode cX6_take 9 = .ok (.iushr, 1) := dchk_at dall_X6_take_26_cl01_0 (k := 4) rfl
theorem dX6_take_10 : decode cX6_take 10 = .ok (.sipush 255, 3) := dchk_at dall_X6_take_26_cl01_0 (k := 5) rfl
theorem dX6_take_13 : decode cX6_take 13 = .ok (.iand, 1) := dchk_at dall_X6_take_26_cl01_0 (k := 6) rfl
theorem dX6_take_14 : decode cX6_take 14 = .ok (.istore_n 3, 1) := dchk_at dall_X6_take_26_cl01_0 (k := 7) rfl
theorem dX6_take_15 : decode cX6_take 15 = .ok (.iload_n 3, 1) := dchk_at dall_X6_take_26_cl01_0 (k := 8) rfl
theorem dX6_take_16 : decode cX6_take 16 = .ok (.ifCond .eq 34, 3) := dchk_at dall_X6_take_26_cl01_0 (k := 9) rfl
theorem dX6_take_50 : decode cX6_take 50 = .ok (.iinc 2 (-8), 3) := dchk_at dall_X6_take_26_cl01_0 (k := 10) rfl
theorem dX6_take_53 : decode cX6_take 53 = .ok (.goto (-50), 3) := dchk_at dall_X6_take_26_cl01_0 (k := 11) rfl
theorem dX6_take_19 : decode cX6_take 19 = .ok (.aload_n 0, 1) := dchk_at dall_X6_take_26_cl01_0 (k := 12) rfl
theorem dX6_take_20 : decode cX6_take 20 = .ok (.getfield 15, 3) := dchk_at dall_X6_take_26_cl01_0 (k := 13) rfl
theorem dX6_take_23 : decode cX6_take 23 = .ok (.sipush 320, 3) := dchk_at dall_X6_take_26_cl01_0 (k := 14) rfl
theorem dX6_take_26 : decode cX6_take 26 = .ok (.if_icmp .ge 24, 3) := dchk_at dall_X6_take_26_cl01_0 (k := 15) rfl
theorem dX6_take_29 : decode cX6_take 29 = .ok (.aload_n 0, 1) := dchk_at dall_X6_take_26_cl01_0 (k := 16) rfl
theorem dX6_take_30 : decode cX6_take 30 = .ok (.getfield 11, 3) := dchk_at dall_X6_take_26_cl01_0 (k := 17) rfl
theorem dX6_take_33 : decode cX6_take 33 = .ok (.aload_n 0, 1) := dchk_at dall_X6_take_26_cl01_0 (k := 18) rfl
theorem dX6_take_34 : decode cX6_take 34 = .ok (.getfield 15, 3) := dchk_at dall_X6_take_26_cl01_0 (k := 19) rfl
theorem dX6_take_37 : decode cX6_take 37 = .ok (.iload_n 3, 1) := dchk_at dall_X6_take_26_cl01_0 (k := 20) rfl
theorem dX6_take_38 : decode cX6_take 38 = .ok (.i2b, 1) := dchk_at dall_X6_take_26_cl01_0 (k := 21) rfl
theorem dX6_take_39 : decode cX6_take 39 = .ok (.bastore, 1) := dchk_at dall_X6_take_26_cl01_0 (k := 22) rfl
theorem dX6_take_40 : decode cX6_take 40 = .ok (.aload_n 0, 1) := dchk_at dall_X6_take_26_cl01_0 (k := 23) rfl
theorem dX6_take_41 : decode cX6_take 41 = .ok (.dup, 1) := dchk_at dall_X6_take_26_cl01_0 (k := 24) rfl
theorem dX6_take_42 : decode cX6_take 42 = .ok (.getfield 15, 3) := dchk_at dall_X6_take_26_cl01_0 (k := 25) rfl
theorem dX6_take_45 : decode cX6_take 45 = .ok (.iconst 1, 1) := dchk_at dall_X6_take_26_cl01_0 (k := 26) rfl
theorem dX6_take_46 : decode cX6_take 46 = .ok (.iadd, 1) := dchk_at dall_X6_take_26_cl01_0 (k := 27) rfl
theorem dX6_take_47 : decode cX6_take 47 = .ok (.putfield 15, 3) := dchk_at dall_X6_take_26_cl01_0 (k := 28) rfl
theorem dX6_take_0 : decode cX6_take 0 = .ok (.bipush 24, 2) := dchk_at dall_X6_take_26_cl01_0 (k := 29) rfl
theorem dX6_take_2 : decode cX6_take 2 = .ok (.istore_n 2, 1) := dchk_at dall_X6_take_26_cl01_0 (k := 30) rfl
theorem dX6_take_56 : decode cX6_take 56 = .ok (.return_, 1) := dchk_at dall_X6_take_26_cl01_0 (k := 31) rfl
def B_X6_bytesIn_5 (p0 : Int32) (x1 : Int32) (x2 : Int32) : Option ((Int32 × Int32) ⊕ (Int32)) :=
  if x2 < (0 : Int32) then some (.inr x1) else if (ushrF p0 x2) &&& (255 : Int32) = (0 : Int32) then some (.inl (x1, x2 + (-8 : Int32))) else some (.inl (x1 + (1 : Int32), x2 + (-8 : Int32)))
def F_X6_bytesIn (K : Nat) (p0 : Int32) : Option (Int32) :=
  bd1 (lpF (fun u9 : Int32 × Int32 => B_X6_bytesIn_5 p0 u9.1 u9.2) K ((0 : Int32), (24 : Int32))) (fun x1_3 => some x1_3)

def v_f_X6_bytesIn : List Cond := .code yX6_bytesIn cX6_bytesIn 3 (some .int) :: ([] ++ ([]))
theorem gw_f_X6_bytesIn : v_f_X6_bytesIn.all goodWord = true := by decide +kernel
theorem hd_X6_bytesIn : yX6_bytesIn.cls = RX6 ∧ yX6_bytesIn.cls ≠ "java/lang/invoke/MethodHandle" ∧ yX6_bytesIn.cls ≠ "java/lang/invoke/VarHandle" ∧ (parseMethodDescriptor yX6_bytesIn.desc).map (fun d => d.parameters.length) = some 1 := by decide +kernel
set_option maxHeartbeats 4000000 in
set_option maxRecDepth 100000 in
theorem wb_X6_bytesIn_5 {p : Program} (l : Launch) {e : Env} {s : State} {m : MethodId} {below : List Frame} {meth : Method} {c : Code} {Q : State → Prop} (E : EE) (K : Nat) {p0 : Int32} {x1 : Int32} {x2 : Int32} (hx : p.tables.exec = Jvm.exec) (hb : c.code = cX6_bytesIn) (hml : c.maxLocals = 3) (hown : s.vm.findClass RX6 = some m.cls) (hts : ∀ w ∈ v_f_X6_bytesIn, w.before #[Value.int p0] s = true) (hK : va_K E.1 vwCl (TY E) s) (hN : NX s) {xx : (Int32 × Int32) ⊕ (Int32)} (hC : ∀ (x1 : Int32), ∀ (x2 : Int32), xx = .inl (x1, x2) → ∀ (ls : Array Slot), lv_has ls 3 [(0, .int p0), (1, .int x1), (2, .int x2)] → W p l e ({ frames := 0, cells := 0, slots := 0, locals := 0 } : Room) s m #[Value.int p0] below meth c s.heap [] 0 0 Q (F0 m 5 ls [])) (hE : ∀ (x1 : Int32), xx = .inr x1 → ((∀ (ls : Array Slot), lv_has ls 3 [(1, .int x1)] → W p l e ({ frames := 0, cells := 0, slots := 0, locals := 0 } : Room) s m #[Value.int p0] below meth c s.heap [] 0 0 Q (F0 m 28 ls [])))) (hF : B_X6_bytesIn_5 p0 x1 x2 = some xx) (hP : va_P E.1 vwCl [] s.heap) : ∀ (ls : Array Slot), lv_has ls 3 [(0, .int p0), (1, .int x1), (2, .int x2)] → W p l e ({ frames := 0, cells := 0, slots := 0, locals := 0 } : Room) s m #[Value.int p0] below meth c s.heap [] 0 0 Q (F0 m 5 ls []) := by
  unfold B_X6_bytesIn_5 at hF
  replace hP : va_P E.1 vwCl [] s.heap := hP
  intro ls hl
  refine lv_iload_n hx hb dX6_bytesIn_5 rfl (lv_at hl 2 rfl) ?_
  refine lv_if_lt (tgt := 28) hx hb dX6_bytesIn_6 (by decide) (fun c_1 => ?_) (fun c_1 => ?_)
  ·
    replace hF := ip c_1 hF
    cases hF
    exact hE x1 rfl ls (lv_sub hl [1] rfl)
  ·
    replace hF := inn c_1 hF
    refine lv_iload_n hx hb dX6_bytesIn_9 rfl (lv_at hl 0 rfl) ?_
    refine lv_iload_n hx hb dX6_bytesIn_10 rfl (lv_at hl 2 rfl) ?_
    refine lv_iushr (v := (ushrF p0 x2)) hx hb dX6_bytesIn_11 rfl ?_
    refine lv_sipush (v := 255) hx hb dX6_bytesIn_12 (by decide) ?_
    refine lv_iand hx hb dX6_bytesIn_15 ?_
    refine lv_if_eq (tgt := 22) hx hb dX6_bytesIn_16 (by decide) (fun c_2 => ?_) (fun c_2 => ?_)
    ·
      replace hF := ip c_2 hF
      refine lv_iinc (v := x2 + (-8 : Int32)) (lv' := [(2, .int (x2 + (-8 : Int32))), (0, .int p0), (1, .int x1)]) hx hb dX6_bytesIn_22 hl (k := 2) rfl (rfl) (by decide) rfl (fun ls hl => ?_)
      refine lv_goto (tgt := 5) hx hb dX6_bytesIn_25 (by decide) ?_
      cases hF
      exact hC x1 (x2 + (-8 : Int32)) rfl ls (lv_sub hl [1, 2, 0] rfl)
    ·
      replace hF := inn c_2 hF
      refine lv_iinc (v := x1 + (1 : Int32)) (lv' := [(1, .int (x1 + (1 : Int32))), (0, .int p0), (2, .int x2)]) hx hb dX6_bytesIn_19 hl (k := 1) rfl (rfl) (by decide) rfl (fun ls hl => ?_)
      refine lv_iinc (v := x2 + (-8 : Int32)) (lv' := [(2, .int (x2 + (-8 : Int32))), (1, .int (x1 + (1 : Int32))), (0, .int p0)]) hx hb dX6_bytesIn_22 hl (k := 2) rfl (rfl) (by decide) rfl (fun ls hl => ?_)
      refine lv_goto (tgt := 5) hx hb dX6_bytesIn_25 (by decide) ?_
      cases hF
      exact hC (x1 + (1 : Int32)) (x2 + (-8 : Int32)) rfl ls (lv_sub hl [2, 1, 0] rfl)

set_option maxHeartbeats 4000000 in
set_option maxRecDepth 100000 in
theorem lw_X6_bytesIn_5 {p : Program} (l : Launch) {e : Env} {s : State} {m : MethodId} {below : List Frame} {meth : Method} {c : Code} {Q : State → Prop} (E : EE) (K : Nat) {p0 : Int32} (hx : p.tables.exec = Jvm.exec) (hb : c.code = cX6_bytesIn) (hml : c.maxLocals = 3) (hown : s.vm.findClass RX6 = some m.cls) (hts : ∀ w ∈ v_f_X6_bytesIn, w.before #[Value.int p0] s = true) (hK : va_K E.1 vwCl (TY E) s) (hN : NX s) (hP : va_P E.1 vwCl [] s.heap) (j9 : Nat) (x1 : Int32) (x2 : Int32) (x1' : Int32) (hL : lpF (fun u9 : Int32 × Int32 => B_X6_bytesIn_5 p0 u9.1 u9.2) j9 (x1, x2) = some x1') (hX : (∀ (ls : Array Slot), lv_has ls 3 [(1, .int x1')] → W p l e ({ frames := 0, cells := 0, slots := 0, locals := 0 } : Room) s m #[Value.int p0] below meth c s.heap [] 0 0 Q (F0 m 28 ls []))) : ∀ (ls : Array Slot), lv_has ls 3 [(0, .int p0), (1, .int x1), (2, .int x2)] → W p l e ({ frames := 0, cells := 0, slots := 0, locals := 0 } : Room) s m #[Value.int p0] below meth c s.heap [] 0 0 Q (F0 m 5 ls []) := by
  exact lp_rule (P := (fun u9 : Int32 × Int32 => ∀ (ls : Array Slot), lv_has ls 3 [(0, .int p0), (1, .int u9.1), (2, .int u9.2)] → W p l e ({ frames := 0, cells := 0, slots := 0, locals := 0 } : Room) s m #[Value.int p0] below meth c s.heap [] 0 0 Q (F0 m 5 ls []))) (R := (fun r9 : Int32 => (∀ (ls : Array Slot), lv_has ls 3 [(1, .int r9)] → W p l e ({ frames := 0, cells := 0, slots := 0, locals := 0 } : Room) s m #[Value.int p0] below meth c s.heap [] 0 0 Q (F0 m 28 ls [])))) (fun u9 xx hF hC hE => wb_X6_bytesIn_5 l E K (p0 := p0) (x1 := u9.1) (x2 := u9.2) hx hb hml hown hts hK hN (fun x1 x2 q9 => hC _ q9) (fun x1 q9 => hE _ q9) hF hP) j9 (x1, x2) x1' hL hX

set_option maxHeartbeats 4000000 in
set_option maxRecDepth 100000 in
theorem f_X6_bytesIn (l : Launch) (E : EE) (K : Nat) {p0 : Int32} {rr : Int32} (hF : F_X6_bytesIn K p0 = some rr) : Met l yX6_bytesIn v_f_X6_bytesIn (({ frames := 0, cells := 0, slots := 0, locals := 0 } : Room)) (va_Pc [.int p0] (pP E [])) (vp_Si (fun q : Int32 => q = rr)) 0 0 (fun _ => False) := by
  refine Met.ofW (cc := cX6_bytesIn) (maxL := 3) (ret := (some .int)) (by decide) rfl ?_
  intro p e s m args below meth c s₁ B hml hv
  obtain ⟨rfl, ⟨hK, hN⟩, hP⟩ := hv
  have hx := B.exec
  have hb := B.bytes
  have hr := B.returns
  have hts := atoms_spec (ws := v_f_X6_bytesIn) B.pre
  have hown : s.vm.findClass RX6 = some m.cls := own_of hd_X6_bytesIn.1 (findClass_of_methodNamed B.named)
  have hlocks : meth.locks = false := B.notSynchronized
  replace hP : va_P E.1 vwCl [] s.heap := hP
  have hl := lv_entry ([.int p0]) (n := 3) (Nat.le_of_ble_eq_true rfl)
  rw [lg_entry_eq]
  generalize (lg_sl ([.int p0]) ++ List.replicate (3 - (lg_sl ([.int p0])).length) Slot.unset).toArray = ls at hl ⊢
  have hl : lv_has ls 3 [(0, .int p0)] := hl
  obtain ⟨Q, hQ⟩ : ∃ Q : State → Prop, Q = MQ below (vp_Si (fun q : Int32 => q = rr)) #[Value.int p0] s 0 0 (fun _ => False) := ⟨_, rfl⟩
  rw [← hQ]
  change W p l e ({ frames := 0, cells := 0, slots := 0, locals := 0 } : Room) s m #[Value.int p0] below meth c s.heap [] 0 0 Q (F0 m 0 ls [])
  unfold F_X6_bytesIn at hF
  refine lv_iconst (v := 0) hx hb dX6_bytesIn_0 (by decide) ?_
  refine lv_istore_n (lv' := [(1, .int (0 : Int32)), (0, .int p0)]) hx hb dX6_bytesIn_1 rfl hl (by decide) rfl (fun ls hl => ?_)
  refine lv_bipush (v := 24) hx hb dX6_bytesIn_2 (by decide) ?_
  refine lv_istore_n (lv' := [(2, .int (24 : Int32)), (1, .int (0 : Int32)), (0, .int p0)]) hx hb dX6_bytesIn_4 rfl hl (by decide) rfl (fun ls hl => ?_)
  replace hF := bd1_s hF
  obtain ⟨x1_3, hL_4, hF⟩ := hF
  refine lw_X6_bytesIn_5 l E K (p0 := p0) hx hb hml hown hts hK hN hP K (0 : Int32) (24 : Int32) x1_3 hL_4 ?_ ls (lv_sub hl [2, 1, 0] rfl)
  ·
    intro ls hl
    refine lv_iload_n hx hb dX6_bytesIn_28 rfl (lv_at hl 0 rfl) ?_
    rw [hQ]
    obtain e9_0 := inj1 hF
    exact W.iret (v := x1_3) hx hb hr (fun tt ht hW => ⟨_, rfl, e9_0, ht⟩) (fun _ h => by cases h) dX6_bytesIn_29

def F_X6_cutTo (p1 : Int32) (c_length : Int32) : Option (Int32 × Int32) :=
  if p1 < (0 : Int32) then some ((0 : Int32), c_length) else if p1 ≤ c_length then some ((1 : Int32), p1) else some ((0 : Int32), c_length)
abbrev w_X6_cutTo (E : EE) (a_ a_bytes : Nat) (c_length : Int32) : va_W := [(a_, .inr (7, [.ref a_bytes, .int c_length]))]
def v_f_X6_cutTo : List Cond := .code yX6_cutTo cX6_cutTo 2 (some .boolean) :: ([.fieldLink RX6 15 "HushWatch$Tape" "length" "I"] ++ (wsX60 ++ ([])))
theorem gw_f_X6_cutTo : v_f_X6_cutTo.all goodWord = true := by decide +kernel
theorem i_f_X6_cutTo_X6 : ∀ w ∈ wsX60, w ∈ v_f_X6_cutTo := fun _ h => List.mem_cons_of_mem _ (List.mem_append_right _ (List.mem_append_left _ h))
theorem hd_X6_cutTo : yX6_cutTo.cls = RX6 ∧ yX6_cutTo.cls ≠ "java/lang/invoke/MethodHandle" ∧ yX6_cutTo.cls ≠ "java/lang/invoke/VarHandle" ∧ (parseMethodDescriptor yX6_cutTo.desc).map (fun d => d.parameters.length) = some 1 := by decide +kernel
set_option maxHeartbeats 4000000 in
set_option maxRecDepth 100000 in
theorem f_X6_cutTo (l : Launch) (E : EE) (sz : Nat) {a_ a_bytes : Nat} {p1 : Int32} {c_length : Int32} {rr : Int32} {n_length : Int32} (hF : F_X6_cutTo p1 c_length = some (rr, n_length)) : Met l yX6_cutTo v_f_X6_cutTo (({ frames := 0, cells := 0, slots := 0, locals := 0 } : Room)) (va_Pc [.ref a_, .int p1] (pW E sz (w_X6_cutTo E a_ a_bytes c_length))) (va_Qi (fun (q : Int32) (_u : Unit) => q = rr ∧ (q = 0 ∨ q = 1)) (fun (_u : Unit) tt => va_P E.1 vwCl (w_X6_cutTo E a_ a_bytes n_length) tt.heap ∧ va_D (va_A (w_X6_cutTo E a_ a_bytes c_length) sz) (w_X6_cutTo E a_ a_bytes n_length)) (va_A (w_X6_cutTo E a_ a_bytes c_length) sz)) 0 0 (va_A (w_X6_cutTo E a_ a_bytes c_length) sz) := by
  refine Met.ofW (cc := cX6_cutTo) (maxL := 2) (ret := (some .boolean)) (by decide) rfl ?_
  intro p e s m args below meth c s₁ B hml hv
  obtain ⟨rfl, hsz, ⟨hK, hN⟩, hP, hD0⟩ := hv
  have hx := B.exec
  have hb := B.bytes
  have hr := B.returns
  have hts := atoms_spec (ws := v_f_X6_cutTo) B.pre
  have hown : s.vm.findClass RX6 = some m.cls := own_of hd_X6_cutTo.1 (findClass_of_methodNamed B.named)
  have hlocks : meth.locks = false := B.notSynchronized
  subst hsz
  have hD := hD0.self (sz := s.heap.size)
  generalize hAe : va_A (w_X6_cutTo E a_ a_bytes c_length) s.heap.size = A at hD ⊢
  have hA : ∀ q : Nat, s.heap.size ≤ q → A q := fun q h => by rw [← hAe]; exact Or.inr h
  have hS : va_S A s.heap s.heap [] := va_S.rf
  have hl := lv_entry ([.ref a_, .int p1]) (n := 2) (Nat.le_of_ble_eq_true rfl)
  rw [lg_entry_eq]
  generalize (lg_sl ([.ref a_, .int p1]) ++ List.replicate (2 - (lg_sl ([.ref a_, .int p1])).length) Slot.unset).toArray = ls at hl ⊢
  have hl : lv_has ls 2 [(0, .ref a_), (1, .int p1)] := hl
  obtain ⟨Q, hQ⟩ : ∃ Q : State → Prop, Q = MQ below (va_Qi (fun (q : Int32) (_u : Unit) => q = rr ∧ (q = 0 ∨ q = 1)) (fun (_u : Unit) tt => va_P E.1 vwCl (w_X6_cutTo E a_ a_bytes n_length) tt.heap ∧ va_D A (w_X6_cutTo E a_ a_bytes n_length)) A) #[Value.ref a_, Value.int p1] s 0 0 A := ⟨_, rfl⟩
  rw [← hQ]
  change W p l e ({ frames := 0, cells := 0, slots := 0, locals := 0 } : Room) s m #[Value.ref a_, Value.int p1] below meth c s.heap [] 0 0 Q (F0 m 0 ls [])
  suffices hh9 : ∀ (H : Heap) (locs : List Loc), va_P E.1 vwCl (w_X6_cutTo E a_ a_bytes c_length) H → va_D A (w_X6_cutTo E a_ a_bytes c_length) → va_S A s.heap H locs → W p l e ({ frames := 0, cells := 0, slots := 0, locals := 0 } : Room) s m #[Value.ref a_, Value.int p1] below meth c H locs 0 0 Q (F0 m 0 ls []) from hh9 s.heap [] hP hD hS
  clear hP hD hS
  intro H locs hP hD hS
  replace hP : va_P E.1 vwCl [(a_, .inr (7, [.ref a_bytes, .int c_length]))] H := hP
  replace hD : va_D A [(a_, .inr (7, [.ref a_bytes, .int c_length]))] := hD
  unfold F_X6_cutTo at hF
  refine lv_iload_n hx hb dX6_cutTo_0 rfl (lv_at hl 1 rfl) ?_
  refine lv_if_lt (tgt := 12) hx hb dX6_cutTo_1 (by decide) (fun c_1 => ?_) (fun c_1 => ?_)
  ·
    replace hF := ip c_1 hF
    refine lv_iconst (v := 0) hx hb dX6_cutTo_12 (by decide) ?_
    rw [hQ]
    have h9 := fin9 (P := fun u9 : Int32 × Int32 => (0 : Int32) = u9.1 ∧ va_P E.1 vwCl (w_X6_cutTo E a_ a_bytes u9.2) H ∧ va_D A (w_X6_cutTo E a_ a_bytes u9.2)) hF ⟨rfl, hP, hD⟩
    obtain ⟨e9_0, hP9, hD9⟩ := h9
    exact W.zret (v := (0 : Int32)) hx hb hr rfl (fun tt ht hW => ⟨⟨_, (), rfl, ⟨e9_0, Or.inl rfl⟩, ht ▸ hP9, hD9⟩, hS.F ht⟩) hS.2.2 dX6_cutTo_13
  ·
    replace hF := inn c_1 hF
    refine lv_iload_n hx hb dX6_cutTo_4 rfl (lv_at hl 1 rfl) ?_
    refine lv_aload_n hx hb dX6_cutTo_5 rfl (lv_at hl 0 rfl) ?_
    refine gt_X6_1 (v := .int c_length) hx hb hts i_f_X6_cutTo_X6 hown hK hP 0 rfl (hts (.fieldLink RX6 15 "HushWatch$Tape" "length" "I") (List.mem_of_getElem? (i := 1) rfl)) rfl dX6_cutTo_6 ?_
    refine lv_icmp_le (tgt := 14) hx hb dX6_cutTo_9 (by decide) (fun c_2 => ?_) (fun c_2 => ?_)
    ·
      replace hF := ip c_2 hF
      refine lv_aload_n hx hb dX6_cutTo_14 rfl (lv_at hl 0 rfl) ?_
      refine lv_iload_n hx hb dX6_cutTo_15 rfl (lv_at hl 1 rfl) ?_
      refine pt_X6_1 (v := .int p1) hx hb hts i_f_X6_cutTo_X6 hown hK hP hD hS 0 rfl (hts (.fieldLink RX6 15 "HushWatch$Tape" "length" "I") (List.mem_of_getElem? (i := 1) rfl)) rfl rfl (Nat.le_of_ble_eq_true rfl) dX6_cutTo_16 (fun H locs hP hD hS => ?_)
      replace hP : va_P E.1 vwCl [(a_, .inr (7, [.ref a_bytes, .int p1]))] H := hP
      replace hD : va_D A [(a_, .inr (7, [.ref a_bytes, .int p1]))] := hD
      refine lv_iconst (v := 1) hx hb dX6_cutTo_19 (by decide) ?_
      rw [hQ]
      have h9 := fin9 (P := fun u9 : Int32 × Int32 => (1 : Int32) = u9.1 ∧ va_P E.1 vwCl (w_X6_cutTo E a_ a_bytes u9.2) H ∧ va_D A (w_X6_cutTo E a_ a_bytes u9.2)) hF ⟨rfl, hP, hD⟩
      obtain ⟨e9_0, hP9, hD9⟩ := h9
      exact W.zret (v := (1 : Int32)) hx hb hr rfl (fun tt ht hW => ⟨⟨_, (), rfl, ⟨e9_0, Or.inr rfl⟩, ht ▸ hP9, hD9⟩, hS.F ht⟩) hS.2.2 dX6_cutTo_20
    ·
      replace hF := inn c_2 hF
      refine lv_iconst (v := 0) hx hb dX6_cutTo_12 (by decide) ?_
      rw [hQ]
      have h9 := fin9 (P := fun u9 : Int32 × Int32 => (0 : Int32) = u9.1 ∧ va_P E.1 vwCl (w_X6_cutTo E a_ a_bytes u9.2) H ∧ va_D A (w_X6_cutTo E a_ a_bytes u9.2)) hF ⟨rfl, hP, hD⟩
      obtain ⟨e9_0, hP9, hD9⟩ := h9
      exact W.zret (v := (0 : Int32)) hx hb hr rfl (fun tt ht hW => ⟨⟨_, (), rfl, ⟨e9_0, Or.inl rfl⟩, ht ▸ hP9, hD9⟩, hS.F ht⟩) hS.2.2 dX6_cutTo_13

def F_X6_signAt (p1 : Int32) (c_bytes : Nat → Int32) (c_length : Int32) : Option (Int32) :=
  if p1 < (0 : Int32) then some (-1 : Int32) else if c_length ≤ p1 then some (-1 : Int32) else if (320 : Int32) ≤ p1 then some (-1 : Int32) else ixF p1 320 (some ((c_bytes p1.toNatClampNeg) &&& (255 : Int32)))
abbrev w_X6_signAt (E : EE) (a_ a_bytes : Nat) (c_length : Int32) (c_bytes : Nat → Int32) : va_W := [(a_, .inr (7, [.ref a_bytes, .int c_length])), (a_bytes, .inl (E.2.2.1, 320, .inl c_bytes))]
def v_f_X6_signAt : List Cond := .code yX6_signAt cX6_signAt 2 (some .int) :: ([.fieldLink RX6 15 "HushWatch$Tape" "length" "I", .fieldLink RX6 11 "HushWatch$Tape" "bytes" "[B"] ++ (wsX60 ++ ([])))
theorem gw_f_X6_signAt : v_f_X6_signAt.all goodWord = true := by decide +kernel
theorem i_f_X6_signAt_X6 : ∀ w ∈ wsX60, w ∈ v_f_X6_signAt := fun _ h => List.mem_cons_of_mem _ (List.mem_append_right _ (List.mem_append_left _ h))
theorem hd_X6_signAt : yX6_signAt.cls = RX6 ∧ yX6_signAt.cls ≠ "java/lang/invoke/MethodHandle" ∧ yX6_signAt.cls ≠ "java/lang/invoke/VarHandle" ∧ (parseMethodDescriptor yX6_signAt.desc).map (fun d => d.parameters.length) = some 1 := by decide +kernel
set_option maxHeartbeats 4000000 in
set_option maxRecDepth 100000 in
theorem f_X6_signAt (l : Launch) (E : EE) {a_ a_bytes : Nat} {p1 : Int32} {c_length : Int32} {c_bytes : Nat → Int32} {rr : Int32} (hF : F_X6_signAt p1 c_bytes c_length = some rr) : Met l yX6_signAt v_f_X6_signAt (({ frames := 0, cells := 0, slots := 0, locals := 0 } : Room)) (va_Pc [.ref a_, .int p1] (pP E (w_X6_signAt E a_ a_bytes c_length c_bytes))) (vp_Si (fun q : Int32 => q = rr)) 0 0 (fun _ => False) := by
  refine Met.ofW (cc := cX6_signAt) (maxL := 2) (ret := (some .int)) (by decide) rfl ?_
  intro p e s m args below meth c s₁ B hml hv
  obtain ⟨rfl, ⟨hK, hN⟩, hP⟩ := hv
  have hx := B.exec
  have hb := B.bytes
  have hr := B.returns
  have hts := atoms_spec (ws := v_f_X6_signAt) B.pre
  have hown : s.vm.findClass RX6 = some m.cls := own_of hd_X6_signAt.1 (findClass_of_methodNamed B.named)
  have hlocks : meth.locks = false := B.notSynchronized
  replace hP : va_P E.1 vwCl [(a_, .inr (7, [.ref a_bytes, .int c_length])), (a_bytes, .inl (E.2.2.1, 320, .inl c_bytes))] s.heap := hP
  have hl := lv_entry ([.ref a_, .int p1]) (n := 2) (Nat.le_of_ble_eq_true rfl)
  rw [lg_entry_eq]
  generalize (lg_sl ([.ref a_, .int p1]) ++ List.replicate (2 - (lg_sl ([.ref a_, .int p1])).length) Slot.unset).toArray = ls at hl ⊢
  have hl : lv_has ls 2 [(0, .ref a_), (1, .int p1)] := hl
  obtain ⟨Q, hQ⟩ : ∃ Q : State → Prop, Q = MQ below (vp_Si (fun q : Int32 => q = rr)) #[Value.ref a_, Value.int p1] s 0 0 (fun _ => False) := ⟨_, rfl⟩
  rw [← hQ]
  change W p l e ({ frames := 0, cells := 0, slots := 0, locals := 0 } : Room) s m #[Value.ref a_, Value.int p1] below meth c s.heap [] 0 0 Q (F0 m 0 ls [])
  unfold F_X6_signAt at hF
  refine lv_iload_n hx hb dX6_signAt_0 rfl (lv_at hl 1 rfl) ?_
  refine lv_if_lt (tgt := 32) hx hb dX6_signAt_1 (by decide) (fun c_1 => ?_) (fun c_1 => ?_)
  ·
    replace hF := ip c_1 hF
    refine lv_iconst (v := -1) hx hb dX6_signAt_32 (by decide) ?_
    rw [hQ]
    obtain e9_0 := inj1 hF
    exact W.iret (v := (-1 : Int32)) hx hb hr (fun tt ht hW => ⟨_, rfl, e9_0, ht⟩) (fun _ h => by cases h) dX6_signAt_33
  ·
    replace hF := inn c_1 hF
    refine lv_iload_n hx hb dX6_signAt_4 rfl (lv_at hl 1 rfl) ?_
    refine lv_aload_n hx hb dX6_signAt_5 rfl (lv_at hl 0 rfl) ?_
    refine gt_X6_1 (v := .int c_length) hx hb hts i_f_X6_signAt_X6 hown hK hP 0 rfl (hts (.fieldLink RX6 15 "HushWatch$Tape" "length" "I") (List.mem_of_getElem? (i := 1) rfl)) rfl dX6_signAt_6 ?_
    refine lv_icmp_ge (tgt := 32) hx hb dX6_signAt_9 (by decide) (fun c_2 => ?_) (fun c_2 => ?_)
    ·
      replace hF := ip c_2 hF
      refine lv_iconst (v := -1) hx hb dX6_signAt_32 (by decide) ?_
      rw [hQ]
      obtain e9_0 := inj1 hF
      exact W.iret (v := (-1 : Int32)) hx hb hr (fun tt ht hW => ⟨_, rfl, e9_0, ht⟩) (fun _ h => by cases h) dX6_signAt_33
    ·
      replace hF := inn c_2 hF
      refine lv_iload_n hx hb dX6_signAt_12 rfl (lv_at hl 1 rfl) ?_
      refine lv_sipush (v := 320) hx hb dX6_signAt_13 (by decide) ?_
      refine lv_icmp_ge (tgt := 32) hx hb dX6_signAt_16 (by decide) (fun c_3 => ?_) (fun c_3 => ?_)
      ·
        replace hF := ip c_3 hF
        refine lv_iconst (v := -1) hx hb dX6_signAt_32 (by decide) ?_
        rw [hQ]
        obtain e9_0 := inj1 hF
        exact W.iret (v := (-1 : Int32)) hx hb hr (fun tt ht hW => ⟨_, rfl, e9_0, ht⟩) (fun _ h => by cases h) dX6_signAt_33
      ·
        replace hF := inn c_3 hF
        refine lv_aload_n hx hb dX6_signAt_19 rfl (lv_at hl 0 rfl) ?_
        refine gt_X6_0 (v := .ref a_bytes) hx hb hts i_f_X6_signAt_X6 hown hK hP 0 rfl (hts (.fieldLink RX6 11 "HushWatch$Tape" "bytes" "[B") (List.mem_of_getElem? (i := 2) rfl)) rfl dX6_signAt_20 ?_
        refine lv_iload_n hx hb dX6_signAt_23 rfl (lv_at hl 1 rfl) ?_
        replace hF := ix_s hF
        obtain ⟨hi_4, hF⟩ := hF
        refine va_bald hx hb hK hP 1 1 rfl rfl hi_4 dX6_signAt_24 ?_
        refine lv_sipush (v := 255) hx hb dX6_signAt_25 (by decide) ?_
        refine lv_iand hx hb dX6_signAt_28 ?_
        refine lv_goto (tgt := 33) hx hb dX6_signAt_29 (by decide) ?_
        rw [hQ]
        obtain e9_0 := inj1 hF
        exact W.iret (v := (c_bytes p1.toNatClampNeg) &&& (255 : Int32)) hx hb hr (fun tt ht hW => ⟨_, rfl, e9_0, ht⟩) (fun _ h => by cases h) dX6_signAt_33

def B_X6_take_3 (p1 : Int32) (x2 : Int32) (c_bytes : Nat → Int32) (c_length : Int32) : Option ((Int32 × (Nat → Int32) × Int32) ⊕ ((Nat → Int32) × Int32)) :=
  if x2 < (0 : Int32) then some (.inr (c_bytes, c_length)) else if (ushrF p1 x2) &&& (255 : Int32) = (0 : Int32) then some (.inl (x2 + (-8 : Int32), c_bytes, c_length)) else if (320 : Int32) ≤ c_length then some (.inl (x2 + (-8 : Int32), c_bytes, c_length)) else ixF c_length 320 (nmF (upd c_bytes c_length.toNatClampNeg (vp_nar .byte (((ushrF p1 x2) &&& (255 : Int32)).toInt8.toInt32))) (fun f_5 => some (.inl (x2 + (-8 : Int32), f_5, c_length + (1 : Int32)))))
def F_X6_take (K : Nat) (p1 : Int32) (c_bytes : Nat → Int32) (c_length : Int32) : Option ((Nat → Int32) × Int32) :=
  bd2 (lpF (fun u9 : Int32 × (Nat → Int32) × Int32 => B_X6_take_3 p1 u9.1 u9.2.1 u9.2.2) K ((24 : Int32), c_bytes, c_length)) (fun c_bytes_6 c_length_7 => some (c_bytes_6, c_length_7))
abbrev w_X6_take (E : EE) (a_ a_bytes : Nat) (c_length : Int32) (c_bytes : Nat → Int32) : va_W := [(a_, .inr (7, [.ref a_bytes, .int c_length])), (a_bytes, .inl (E.2.2.1, 320, .inl c_bytes))]
def v_f_X6_take : List Cond := .code yX6_take cX6_take 4 none :: ([.fieldLink RX6 15 "HushWatch$Tape" "length" "I", .fieldLink RX6 11 "HushWatch$Tape" "bytes" "[B"] ++ (wsX60 ++ ([])))
theorem gw_f_X6_take : v_f_X6_take.all goodWord = true := by decide +kernel
theorem i_f_X6_take_X6 : ∀ w ∈ wsX60, w ∈ v_f_X6_take := fun _ h => List.mem_cons_of_mem _ (List.mem_append_right _ (List.mem_append_left _ h))
theorem hd_X6_take : yX6_take.cls = RX6 ∧ yX6_take.cls ≠ "java/lang/invoke/MethodHandle" ∧ yX6_take.cls ≠ "java/lang/invoke/VarHandle" ∧ (parseMethodDescriptor yX6_take.desc).map (fun d => d.parameters.length) = some 1 := by decide +kernel
set_option maxHeartbeats 4000000 in
set_option maxRecDepth 100000 in
theorem wb_X6_take_3 {p : Program} (l : Launch) {e : Env} {s : State} {m : MethodId} {below : List Frame} {meth : Method} {c : Code} {Q : State → Prop} (E : EE) (K : Nat) {a_ a_bytes : Nat} {p1 : Int32} {x2 : Int32} {c_bytes : Nat → Int32} {c_length : Int32} (hx : p.tables.exec = Jvm.exec) (hb : c.code = cX6_take) (hml : c.maxLocals = 4) (hown : s.vm.findClass RX6 = some m.cls) (hts : ∀ w ∈ v_f_X6_take, w.before #[Value.ref a_, Value.int p1] s = true) (hK : va_K E.1 vwCl (TY E) s) (hN : NX s) {A : Nat → Prop} (hA : ∀ q : Nat, s.heap.size ≤ q → A q) {xx : (Int32 × (Nat → Int32) × Int32) ⊕ ((Nat → Int32) × Int32)} (hC : ∀ (x2 : Int32), ∀ (c_bytes : Nat → Int32), ∀ (c_length : Int32), xx = .inl (x2, c_bytes, c_length) → ∀ (H : Heap) (locs : List Loc) (ls : Array Slot), va_P E.1 vwCl (w_X6_take E a_ a_bytes c_length c_bytes) H → va_D A (w_X6_take E a_ a_bytes c_length c_bytes) → va_S A s.heap H locs → lv_has ls 4 [(0, .ref a_), (1, .int p1), (2, .int x2)] → W p l e ({ frames := 0, cells := 0, slots := 0, locals := 0 } : Room) s m #[Value.ref a_, Value.int p1] below meth c H locs 0 0 Q (F0 m 3 ls [])) (hE : ∀ (c_bytes : Nat → Int32), ∀ (c_length : Int32), xx = .inr (c_bytes, c_length) → ((∀ (H : Heap) (locs : List Loc) (ls : Array Slot), va_P E.1 vwCl (w_X6_take E a_ a_bytes c_length c_bytes) H → va_D A (w_X6_take E a_ a_bytes c_length c_bytes) → va_S A s.heap H locs → lv_has ls 4 [] → W p l e ({ frames := 0, cells := 0, slots := 0, locals := 0 } : Room) s m #[Value.ref a_, Value.int p1] below meth c H locs 0 0 Q (F0 m 56 ls [])))) (hF : B_X6_take_3 p1 x2 c_bytes c_length = some xx) : ∀ (H : Heap) (locs : List Loc) (ls : Array Slot), va_P E.1 vwCl (w_X6_take E a_ a_bytes c_length c_bytes) H → va_D A (w_X6_take E a_ a_bytes c_length c_bytes) → va_S A s.heap H locs → lv_has ls 4 [(0, .ref a_), (1, .int p1), (2, .int x2)] → W p l e ({ frames := 0, cells := 0, slots := 0, locals := 0 } : Room) s m #[Value.ref a_, Value.int p1] below meth c H locs 0 0 Q (F0 m 3 ls []) := by
  unfold B_X6_take_3 at hF
  intro H locs ls hP hD hS hl
  replace hP : va_P E.1 vwCl [(a_, .inr (7, [.ref a_bytes, .int c_length])), (a_bytes, .inl (E.2.2.1, 320, .inl c_bytes))] H := hP
  replace hD : va_D A [(a_, .inr (7, [.ref a_bytes, .int c_length])), (a_bytes, .inl (E.2.2.1, 320, .inl c_bytes))] := hD
  refine lv_iload_n hx hb dX6_take_3 rfl (lv_at hl 2 rfl) ?_
  refine lv_if_lt (tgt := 56) hx hb dX6_take_4 (by decide) (fun c_1 => ?_) (fun c_1 => ?_)
  ·
    replace hF := ip c_1 hF
    cases hF
    exact hE c_bytes c_length rfl H locs ls (hP.sub [0, 1] rfl) (hD.sub [0, 1] (by decide) rfl) hS (lv_sub hl [] rfl)
  ·
    replace hF := inn c_1 hF
    refine lv_iload_n hx hb dX6_take_7 rfl (lv_at hl 1 rfl) ?_
    refine lv_iload_n hx hb dX6_take_8 rfl (lv_at hl 2 rfl) ?_
    refine lv_iushr (v := (ushrF p1 x2)) hx hb dX6_take_9 rfl ?_
    refine lv_sipush (v := 255) hx hb dX6_take_10 (by decide) ?_
    refine lv_iand hx hb dX6_take_13 ?_
    refine lv_istore_n (lv' := [(3, .int ((ushrF p1 x2) &&& (255 : Int32))), (0, .ref a_), (1, .int p1), (2, .int x2)]) hx hb dX6_take_14 rfl hl (by decide) rfl (fun ls hl => ?_)
    refine lv_iload_n hx hb dX6_take_15 rfl (lv_at hl 0 rfl) ?_
    refine lv_if_eq (tgt := 50) hx hb dX6_take_16 (by decide) (fun c_2 => ?_) (fun c_2 => ?_)
    ·
      replace hF := ip c_2 hF
      refine lv_iinc (v := x2 + (-8 : Int32)) (lv' := [(2, .int (x2 + (-8 : Int32))), (3, .int ((ushrF p1 x2) &&& (255 : Int32))), (0, .ref a_), (1, .int p1)]) hx hb dX6_take_50 hl (k := 3) rfl (rfl) (by decide) rfl (fun ls hl => ?_)
      refine lv_goto (tgt := 3) hx hb dX6_take_53 (by decide) ?_
      cases hF
      exact hC (x2 + (-8 : Int32)) c_bytes c_length rfl H locs ls (hP.sub [0, 1] rfl) (hD.sub [0, 1] (by decide) rfl) hS (lv_sub hl [2, 3, 0] rfl)
    ·
      replace hF := inn c_2 hF
      refine lv_aload_n hx hb dX6_take_19 rfl (lv_at hl 1 rfl) ?_
      refine gt_X6_1 (v := .int c_length) hx hb hts i_f_X6_take_X6 hown hK hP 0 rfl (hts (.fieldLink RX6 15 "HushWatch$Tape" "length" "I") (List.mem_of_getElem? (i := 1) rfl)) rfl dX6_take_20 ?_
      refine lv_sipush (v := 320) hx hb dX6_take_23 (by decide) ?_
      refine lv_icmp_ge (tgt := 50) hx hb dX6_take_26 (by decide) (fun c_3 => ?_) (fun c_3 => ?_)
      ·
        replace hF := ip c_3 hF
        refine lv_iinc (v := x2 + (-8 : Int32)) (lv' := [(2, .int (x2 + (-8 : Int32))), (3, .int ((ushrF p1 x2) &&& (255 : Int32))), (0, .ref a_), (1, .int p1)]) hx hb dX6_take_50 hl (k := 3) rfl (rfl) (by decide) rfl (fun ls hl => ?_)
        refine lv_goto (tgt := 3) hx hb dX6_take_53 (by decide) ?_
        cases hF
        exact hC (x2 + (-8 : Int32)) c_bytes c_length rfl H locs ls (hP.sub [0, 1] rfl) (hD.sub [0, 1] (by decide) rfl) hS (lv_sub hl [2, 3, 0] rfl)
      ·
        replace hF := inn c_3 hF
        refine lv_aload_n hx hb dX6_take_29 rfl (lv_at hl 1 rfl) ?_
        refine gt_X6_0 (v := .ref a_bytes) hx hb hts i_f_X6_take_X6 hown hK hP 0 rfl (hts (.fieldLink RX6 11 "HushWatch$Tape" "bytes" "[B") (List.mem_of_getElem? (i := 2) rfl)) rfl dX6_take_30 ?_
        refine lv_aload_n hx hb dX6_take_33 rfl (lv_at hl 1 rfl) ?_
        refine gt_X6_1 (v := .int c_length) hx hb hts i_f_X6_take_X6 hown hK hP 0 rfl (hts (.fieldLink RX6 15 "HushWatch$Tape" "length" "I") (List.mem_of_getElem? (i := 1) rfl)) rfl dX6_take_34 ?_
        refine lv_iload_n hx hb dX6_take_37 rfl (lv_at hl 0 rfl) ?_
        refine lv_i2b (v := ((ushrF p1 x2) &&& (255 : Int32)).toInt8.toInt32) hx hb dX6_take_38 rfl ?_
        replace hF := ix_s hF
        obtain ⟨hi_4, hF⟩ := hF
        refine va_bast hx hb hK hP hD hS 1 1 rfl rfl hi_4 dX6_take_39 (fun H locs hP hD hS => ?_)
        replace hP : va_P E.1 vwCl [(a_, .inr (7, [.ref a_bytes, .int c_length])), (a_bytes, .inl (E.2.2.1, 320, .inl (upd c_bytes c_length.toNatClampNeg (vp_nar .byte (((ushrF p1 x2) &&& (255 : Int32)).toInt8.toInt32)))))] H := hP
        replace hD : va_D A [(a_, .inr (7, [.ref a_bytes, .int c_length])), (a_bytes, .inl (E.2.2.1, 320, .inl (upd c_bytes c_length.toNatClampNeg (vp_nar .byte (((ushrF p1 x2) &&& (255 : Int32)).toInt8.toInt32)))))] := hD
        replace hF := nm_s hF
        obtain ⟨f_5, hf_5, hF⟩ := hF
        rw [← hf_5] at hP hD
        refine lv_aload_n hx hb dX6_take_40 rfl (lv_at hl 1 rfl) ?_
        refine lv_dup hx hb dX6_take_41 rfl ?_
        refine gt_X6_1 (v := .int c_length) hx hb hts i_f_X6_take_X6 hown hK hP 0 rfl (hts (.fieldLink RX6 15 "HushWatch$Tape" "length" "I") (List.mem_of_getElem? (i := 1) rfl)) rfl dX6_take_42 ?_
        refine lv_iconst (v := 1) hx hb dX6_take_45 (by decide) ?_
        refine lv_iadd hx hb dX6_take_46 ?_
        refine pt_X6_1 (v := .int (c_length + (1 : Int32))) hx hb hts i_f_X6_take_X6 hown hK hP hD hS 0 rfl (hts (.fieldLink RX6 15 "HushWatch$Tape" "length" "I") (List.mem_of_getElem? (i := 1) rfl)) rfl rfl (Nat.le_of_ble_eq_true rfl) dX6_take_47 (fun H locs hP hD hS => ?_)
        replace hP : va_P E.1 vwCl [(a_, .inr (7, [.ref a_bytes, .int (c_length + (1 : Int32))])), (a_bytes, .inl (E.2.2.1, 320, .inl f_5))] H := hP
        replace hD : va_D A [(a_, .inr (7, [.ref a_bytes, .int (c_length + (1 : Int32))])), (a_bytes, .inl (E.2.2.1, 320, .inl f_5))] := hD
        refine lv_iinc (v := x2 + (-8 : Int32)) (lv' := [(2, .int (x2 + (-8 : Int32))), (3, .int ((ushrF p1 x2) &&& (255 : Int32))), (0, .ref a_), (1, .int p1)]) hx hb dX6_take_50 hl (k := 3) rfl (rfl) (by decide) rfl (fun ls hl => ?_)
        refine lv_goto (tgt := 3) hx hb dX6_take_53 (by decide) ?_
        cases hF
        exact hC (x2 + (-8 : Int32)) f_5 (c_length + (1 : Int32)) rfl H locs ls (hP.sub [0, 1] rfl) (hD.sub [0, 1] (by decide) rfl) hS (lv_sub hl [2, 3, 0] rfl)

set_option maxHeartbeats 4000000 in
set_option maxRecDepth 100000 in
theorem lw_X6_take_3 {p : Program} (l : Launch) {e : Env} {s : State} {m : MethodId} {below : List Frame} {meth : Method} {c : Code} {Q : State → Prop} (E : EE) (K : Nat) {a_ a_bytes : Nat} {p1 : Int32} (hx : p.tables.exec = Jvm.exec) (hb : c.code = cX6_take) (hml : c.maxLocals = 4) (hown : s.vm.findClass RX6 = some m.cls) (hts : ∀ w ∈ v_f_X6_take, w.before #[Value.ref a_, Value.int p1] s = true) (hK : va_K E.1 vwCl (TY E) s) (hN : NX s) {A : Nat → Prop} (hA : ∀ q : Nat, s.heap.size ≤ q → A q) (j9 : Nat) (x2 : Int32) (c_bytes : Nat → Int32) (c_length : Int32) (c_bytes' : Nat → Int32) (c_length' : Int32) (hL : lpF (fun u9 : Int32 × (Nat → Int32) × Int32 => B_X6_take_3 p1 u9.1 u9.2.1 u9.2.2) j9 (x2, c_bytes, c_length) = some (c_bytes', c_length')) (hX : (∀ (H : Heap) (locs : List Loc) (ls : Array Slot), va_P E.1 vwCl (w_X6_take E a_ a_bytes c_length' c_bytes') H → va_D A (w_X6_take E a_ a_bytes c_length' c_bytes') → va_S A s.heap H locs → lv_has ls 4 [] → W p l e ({ frames := 0, cells := 0, slots := 0, locals := 0 } : Room) s m #[Value.ref a_, Value.int p1] below meth c H locs 0 0 Q (F0 m 56 ls []))) : ∀ (H : Heap) (locs : List Loc) (ls : Array Slot), va_P E.1 vwCl (w_X6_take E a_ a_bytes c_length c_bytes) H → va_D A (w_X6_take E a_ a_bytes c_length c_bytes) → va_S A s.heap H locs → lv_has ls 4 [(0, .ref a_), (1, .int p1), (2, .int x2)] → W p l e ({ frames := 0, cells := 0, slots := 0, locals := 0 } : Room) s m #[Value.ref a_, Value.int p1] below meth c H locs 0 0 Q (F0 m 3 ls []) := by
  exact lp_rule (P := (fun u9 : Int32 × (Nat → Int32) × Int32 => ∀ (H : Heap) (locs : List Loc) (ls : Array Slot), va_P E.1 vwCl (w_X6_take E a_ a_bytes u9.2.2 u9.2.1) H → va_D A (w_X6_take E a_ a_bytes u9.2.2 u9.2.1) → va_S A s.heap H locs → lv_has ls 4 [(0, .ref a_), (1, .int p1), (2, .int u9.1)] → W p l e ({ frames := 0, cells := 0, slots := 0, locals := 0 } : Room) s m #[Value.ref a_, Value.int p1] below meth c H locs 0 0 Q (F0 m 3 ls []))) (R := (fun r9 : (Nat → Int32) × Int32 => (∀ (H : Heap) (locs : List Loc) (ls : Array Slot), va_P E.1 vwCl (w_X6_take E a_ a_bytes r9.2 r9.1) H → va_D A (w_X6_take E a_ a_bytes r9.2 r9.1) → va_S A s.heap H locs → lv_has ls 4 [] → W p l e ({ frames := 0, cells := 0, slots := 0, locals := 0 } : Room) s m #[Value.ref a_, Value.int p1] below meth c H locs 0 0 Q (F0 m 56 ls [])))) (fun u9 xx hF hC hE => wb_X6_take_3 l E K (p1 := p1) (x2 := u9.1) (c_bytes := u9.2.1) (c_length := u9.2.2) hx hb hml hown hts hK hN hA (fun x2 c_bytes c_length q9 => hC _ q9) (fun c_bytes c_length q9 => hE _ q9) hF) j9 (x2, c_bytes, c_length) (c_bytes', c_length') hL hX

set_option maxHeartbeats 4000000 in
set_option maxRecDepth 100000 in
theorem f_X6_take (l : Launch) (E : EE) (sz : Nat) (K : Nat) {a_ a_bytes : Nat} {p1 : Int32} {c_length : Int32} {c_bytes : Nat → Int32} {n_bytes : Nat → Int32} {n_length : Int32} (hF : F_X6_take K p1 c_bytes c_length = some (n_bytes, n_length)) : Met l yX6_take v_f_X6_take (({ frames := 0, cells := 0, slots := 0, locals := 0 } : Room)) (va_Pc [.ref a_, .int p1] (pW E sz (w_X6_take E a_ a_bytes c_length c_bytes))) (va_Qv (fun (_u : Unit) => True) (fun (_u : Unit) tt => va_P E.1 vwCl (w_X6_take E a_ a_bytes n_length n_bytes) tt.heap ∧ va_D (va_A (w_X6_take E a_ a_bytes c_length c_bytes) sz) (w_X6_take E a_ a_bytes n_length n_bytes)) (va_A (w_X6_take E a_ a_bytes c_length c_bytes) sz)) 0 0 (va_A (w_X6_take E a_ a_bytes c_length c_bytes) sz) := by
  refine Met.ofW (cc := cX6_take) (maxL := 4) (ret := none) (by decide) rfl ?_
  intro p e s m args below meth c s₁ B hml hv
  obtain ⟨rfl, hsz, ⟨hK, hN⟩, hP, hD0⟩ := hv
  have hx := B.exec
  have hb := B.bytes
  have hr := B.returns
  have hts := atoms_spec (ws := v_f_X6_take) B.pre
  have hown : s.vm.findClass RX6 = some m.cls := own_of hd_X6_take.1 (findClass_of_methodNamed B.named)
  have hlocks : meth.locks = false := B.notSynchronized
  subst hsz
  have hD := hD0.self (sz := s.heap.size)
  generalize hAe : va_A (w_X6_take E a_ a_bytes c_length c_bytes) s.heap.size = A at hD ⊢
  have hA : ∀ q : Nat, s.heap.size ≤ q → A q := fun q h => by rw [← hAe]; exact Or.inr h
  have hS : va_S A s.heap s.heap [] := va_S.rf
  have hl := lv_entry ([.ref a_, .int p1]) (n := 4) (Nat.le_of_ble_eq_true rfl)
  rw [lg_entry_eq]
  generalize (lg_sl ([.ref a_, .int p1]) ++ List.replicate (4 - (lg_sl ([.ref a_, .int p1])).length) Slot.unset).toArray = ls at hl ⊢
  have hl : lv_has ls 4 [(0, .ref a_), (1, .int p1)] := hl
  obtain ⟨Q, hQ⟩ : ∃ Q : State → Prop, Q = MQ below (va_Qv (fun (_u : Unit) => True) (fun (_u : Unit) tt => va_P E.1 vwCl (w_X6_take E a_ a_bytes n_length n_bytes) tt.heap ∧ va_D A (w_X6_take E a_ a_bytes n_length n_bytes)) A) #[Value.ref a_, Value.int p1] s 0 0 A := ⟨_, rfl⟩
  rw [← hQ]
  change W p l e ({ frames := 0, cells := 0, slots := 0, locals := 0 } : Room) s m #[Value.ref a_, Value.int p1] below meth c s.heap [] 0 0 Q (F0 m 0 ls [])
  suffices hh9 : ∀ (H : Heap) (locs : List Loc), va_P E.1 vwCl (w_X6_take E a_ a_bytes c_length c_bytes) H → va_D A (w_X6_take E a_ a_bytes c_length c_bytes) → va_S A s.heap H locs → W p l e ({ frames := 0, cells := 0, slots := 0, locals := 0 } : Room) s m #[Value.ref a_, Value.int p1] below meth c H locs 0 0 Q (F0 m 0 ls []) from hh9 s.heap [] hP hD hS
  clear hP hD hS
  intro H locs hP hD hS
  replace hP : va_P E.1 vwCl [(a_, .inr (7, [.ref a_bytes, .int c_length])), (a_bytes, .inl (E.2.2.1, 320, .inl c_bytes))] H := hP
  replace hD : va_D A [(a_, .inr (7, [.ref a_bytes, .int c_length])), (a_bytes, .inl (E.2.2.1, 320, .inl c_bytes))] := hD
  unfold F_X6_take at hF
  refine lv_bipush (v := 24) hx hb dX6_take_0 (by decide) ?_
  refine lv_istore_n (lv' := [(2, .int (24 : Int32)), (0, .ref a_), (1, .int p1)]) hx hb dX6_take_2 rfl hl (by decide) rfl (fun ls hl => ?_)
  replace hF := bd2_s hF
  obtain ⟨c_bytes_6, c_length_7, hL_8, hF⟩ := hF
  refine lw_X6_take_3 l E K (p1 := p1) hx hb hml hown hts hK hN hA K (24 : Int32) c_bytes c_length c_bytes_6 c_length_7 hL_8 ?_ H locs ls (hP.sub [0, 1] rfl) (hD.sub [0, 1] (by decide) rfl) hS (lv_sub hl [1, 2, 0] rfl)
  ·
    intro H locs ls hP hD hS hl
    replace hP : va_P E.1 vwCl [(a_, .inr (7, [.ref a_bytes, .int c_length_7])), (a_bytes, .inl (E.2.2.1, 320, .inl c_bytes_6))] H := hP
    replace hD : va_D A [(a_, .inr (7, [.ref a_bytes, .int c_length_7])), (a_bytes, .inl (E.2.2.1, 320, .inl c_bytes_6))] := hD
    rw [hQ]
    have h9 := fin9 (P := fun u9 : (Nat → Int32) × Int32 => va_P E.1 vwCl (w_X6_take E a_ a_bytes u9.2 u9.1) H ∧ va_D A (w_X6_take E a_ a_bytes u9.2 u9.1)) hF ⟨hP, hD⟩
    obtain ⟨hP9, hD9⟩ := h9
    exact W.vret hx hb hr (fun tt ht hW => ⟨⟨(), rfl, trivial, ht ▸ hP9, hD9⟩, hS.F ht⟩) hS.2.2 dX6_take_56
end
-- 27.rd00
section
def dl_X3_failAt_27_rd00_0 : List (Nat × Instr × Nat) := [(0, .aload_n 0, 1), (1, .iload_n 1, 1), (2, .putfield 40, 3), (5, .iconst 0, 1), (6, .ireturn, 1)]
set_option maxRecDepth 100000 in
theorem dall_X3_failAt_27_rd00_0 : dchk cX3_failAt dl_X3_failAt_27_rd00_0 = true := by decide +kernel
theorem dX3_failAt_0 : decode cX3_failAt 0 = .ok (.aload_n 0, 1) := dchk_at dall_X3_failAt_27_rd00_0 (k := 0) rfl
theorem dX3_failAt_1 : decode cX3_failAt 1 = .ok (.iload_n 1, 1) := dchk_at dall_X3_failAt_27_rd00_0 (k := 1) rfl
theorem dX3_failAt_2 : decode cX3_failAt 2 = .ok (.putfield 40, 3) := dchk_at dall_X3_failAt_27_rd00_0 (k := 2) rfl
theorem dX3_failAt_5 : decode cX3_failAt 5 = .ok (.iconst 0, 1) := dchk_at dall_X3_failAt_27_rd00_0 (k := 3) rfl
theorem dX3_failAt_6 : decode cX3_failAt 6 = .ok (.ireturn, 1) := dchk_at dall_X3_failAt_27_rd00_0 (k := 4) rfl
def dl_X3_skipBlanks_27_rd00_0 : List (Nat × Instr × Nat) := [(0, .aload_n 0, 1), (1, .getfield 31, 3), (4, .aload_n 0, 1), (5, .getfield 43, 3), (8, .getfield 59, 3), (11, .if_icmp .ge 32, 3), (14, .aload_n 0, 1), (15, .getfield 43, 3), (18, .aload_n 0, 1), (19, .getfield 31, 3), (22, .invokevirtual 143, 3), (25, .bipush 32, 2), (27, .if_icmp .ne 16, 3), (30, .aload_n 0, 1), (31, .dup, 1), (32, .getfield 31, 3), (35, .iconst 1, 1), (36, .iadd, 1), (37, .putfield 31, 3), (40, .goto (-40), 3), (43, .return_, 1)]
set_option maxRecDepth 100000 in
theorem dall_X3_skipBlanks_27_rd00_0 : dchk cX3_skipBlanks dl_X3_skipBlanks_27_rd00_0 = true := by decide +kernel
theorem dX3_skipBlanks_0 : decode cX3_skipBlanks 0 = .ok (.aload_n 0, 1) := dchk_at dall_X3_skipBlanks_27_rd00_0 (k := 0) rfl
theorem dX3_skipBlanks_1 : decode cX3_skipBlanks 1 = .ok (.getfield 31, 3) := dchk_at dall_X3_skipBlanks_27_rd00_0 (k := 1) rfl
theorem dX3_skipBlanks_4 : decode cX3_skipBlanks 4 = .ok (.aload_n 0, 1) := dchk_at dall_X3_skipBlanks_27_rd00_0 (k := 2) rfl
theorem dX3_skipBlanks_5 : decode cX3_skipBlanks 5 = .ok (.getfield 43, 3) := dchk_at dall_X3_skipBlanks_27_rd00_0 (k := 3) rfl
theorem dX3_skipBlanks_8 : decode cX3_skipBlanks 8 = .ok (.getfield 59, 3) := dchk_at dall_X3_skipBlanks_27_rd00_0 (k := 4) rfl
theorem dX3_skipBlanks_11 : decode cX3_skipBlanks 11 = .ok (.if_icmp .ge 32, 3) := dchk_at dall_X3_skipBlanks_27_rd00_0 (k := 5) rfl
theorem dX3_skipBlanks_14 : decode cX3_skipBlanks 14 = .ok (.aload_n 0, 1) := dchk_at dall_X3_skipBlanks_27_rd00_0 (k := 6) rfl
theorem dX3_skipBlanks_15 : decode cX3_skipBlanks 15 = .ok (.getfield 43, 3) := dchk_at dall_X3_skipBlanks_27_rd00_0 (k := 7) rfl
theorem dX3_skipBlanks_18 : decode cX3_skipBlanks 18 = .ok (.aload_n 0, 1) := dchk_at dall_X3_skipBlanks_27_rd00_0 (k := 8) rfl
theorem dX3_skipBlanks_19 : decode cX3_skipBlanks 19 = .ok (.getfield 31, 3) := dchk_at dall_X3_skipBlanks_27_rd00_0 (k := 9) rfl
theorem dX3_skipBlanks_22 : decode cX3_skipBlanks 22 = .ok (.invokevirtual 143, 3) := dchk_at dall_X3_skipBlanks_27_rd00_0 (k := 10) rfl
theorem dX3_skipBlanks_25 : decode cX3_skipBlanks 25 = .ok (.bipush 32, 2) := dchk_at dall_X3_skipBlanks_27_rd00_0 (k := 11) rfl
theorem dX3_skipBlanks_27 : decode cX3_skipBlanks 27 = .ok (.if_icmp .ne 16, 3) := dchk_at dall_X3_skipBlanks_27_rd00_0 (k := 12) rfl
theorem dX3_skipBlanks_30 : decode cX3_skipBlanks 30 = .ok (.aload_n 0, 1) := dchk_at dall_X3_skipBlanks_27_rd00_0 (k := 13) rfl
theorem dX3_skipBlanks_31 : decode cX3_skipBlanks 31 = .ok (.dup, 1) := dchk_at dall_X3_skipBlanks_27_rd00_0 (k := 14) rfl
theorem dX3_skipBlanks_32 : decode cX3_skipBlanks 32 = .ok (.getfield 31, 3) := dchk_at dall_X3_skipBlanks_27_rd00_0 (k := 15) rfl
theorem dX3_skipBlanks_35 : decode cX3_skipBlanks 35 = .ok (.iconst 1, 1) := dchk_at dall_X3_skipBlanks_27_rd00_0 (k := 16) rfl
theorem dX3_skipBlanks_36 : decode cX3_skipBlanks 36 = .ok (.iadd, 1) := dchk_at dall_X3_skipBlanks_27_rd00_0 (k := 17) rfl
theorem dX3_skipBlanks_37 : decode cX3_skipBlanks 37 = .ok (.putfield 31, 3) := dchk_at dall_X3_skipBlanks_27_rd00_0 (k := 18) rfl
theorem dX3_skipBlanks_40 : decode cX3_skipBlanks 40 = .ok (.goto (-40), 3) := dchk_at dall_X3_skipBlanks_27_rd00_0 (k := 19) rfl
theorem dX3_skipBlanks_43 : decode cX3_skipBlanks 43 = .ok (.return_, 1) := dchk_at dall_X3_skipBlanks_27_rd00_0 (k := 20) rfl
def dl_X3_isAtEnd_27_rd00_0 : List (Nat × Instr × Nat) := [(0, .aload_n 0, 1), (1, .invokevirtual 140, 3), (4, .aload_n 0, 1), (5, .getfield 31, 3), (8, .aload_n 0, 1), (9, .getfield 43, 3), (12, .getfield 59, 3), (15, .if_icmp .lt 7, 3), (22, .iconst 0, 1), (23, .ireturn, 1), (18, .iconst 1, 1), (19, .goto 4, 3)]
set_option maxRecDepth 100000 in
theorem dall_X3_isAtEnd_27_rd00_0 : dchk cX3_isAtEnd dl_X3_isAtEnd_27_rd00_0 = true := by decide +kernel
theorem dX3_isAtEnd_0 : decode cX3_isAtEnd 0 = .ok (.aload_n 0, 1) := dchk_at dall_X3_isAtEnd_27_rd00_0 (k := 0) rfl
theorem dX3_isAtEnd_1 : decode cX3_isAtEnd 1 = .ok (.invokevirtual 140, 3) := dchk_at dall_X3_isAtEnd_27_rd00_0 (k := 1) rfl
theorem dX3_isAtEnd_4 : decode cX3_isAtEnd 4 = .ok (.aload_n 0, 1) := dchk_at dall_X3_isAtEnd_27_rd00_0 (k := 2) rfl
theorem dX3_isAtEnd_5 : decode cX3_isAtEnd 5 = .ok (.getfield 31, 3) := dchk_at dall_X3_isAtEnd_27_rd00_0 (k := 3) rfl
theorem dX3_isAtEnd_8 : decode cX3_isAtEnd 8 = .ok (.aload_n 0, 1) := dchk_at dall_X3_isAtEnd_27_rd00_0 (k := 4) rfl
theorem dX3_isAtEnd_9 : decode cX3_isAtEnd 9 = .ok (.getfield 43, 3) := dchk_at dall_X3_isAtEnd_27_rd00_0 (k := 5) rfl
theorem dX3_isAtEnd_12 : decode cX3_isAtEnd 12 = .ok (.getfield 59, 3) := dchk_at dall_X3_isAtEnd_27_rd00_0 (k := 6) rfl
theorem dX3_isAtEnd_15 : decode cX3_isAtEnd 15 = .ok (.if_icmp .lt 7, 3) := dchk_at dall_X3_isAtEnd_27_rd00_0 (k := 7) rfl
theorem dX3_isAtEnd_22 : decode cX3_isAtEnd 22 = .ok (.iconst 0, 1) := dchk_at dall_X3_isAtEnd_27_rd00_0 (k := 8) rfl
theorem dX3_isAtEnd_23 : decode cX3_isAtEnd 23 = .ok (.ireturn, 1) := dchk_at dall_X3_isAtEnd_27_rd00_0 (k := 9) rfl
theorem dX3_isAtEnd_18 : decode cX3_isAtEnd 18 = .ok (.iconst 1, 1) := dchk_at dall_X3_isAtEnd_27_rd00_0 (k := 10) rfl
theorem dX3_isAtEnd_19 : decode cX3_isAtEnd 19 = .ok (.goto 4, 3) := dchk_at dall_X3_isAtEnd_27_rd00_0 (k := 11) rfl
def dl_X3_isDigit_27_rd00_0 : List (Nat × Instr × Nat) := [(0, .iload_n 0, 1), (1, .bipush 48, 2), (3, .if_icmp .lt 13, 3), (16, .iconst 0, 1), (17, .ireturn, 1), (6, .iload_n 0, 1), (7, .bipush 57, 2), (9, .if_icmp .gt 7, 3), (12, .iconst 1, 1), (13, .goto 4, 3)]
set_option maxRecDepth 100000 in
theorem dall_X3_isDigit_27_rd00_0 : dchk cX3_isDigit dl_X3_isDigit_27_rd00_0 = true := by decide +kernel
theorem dX3_isDigit_0 : decode cX3_isDigit 0 = .ok (.iload_n 0, 1) := dchk_at dall_X3_isDigit_27_rd00_0 (k := 0) rfl
theorem dX3_isDigit_1 : decode cX3_isDigit 1 = .ok (.bipush 48, 2) := dchk_at dall_X3_isDigit_27_rd00_0 (k := 1) rfl
theorem dX3_isDigit_3 : decode cX3_isDigit 3 = .ok (.if_icmp .lt 13, 3) := dchk_at dall_X3_isDigit_27_rd00_0 (k := 2) rfl
theorem dX3_isDigit_16 : decode cX3_isDigit 16 = .ok (.iconst 0, 1) := dchk_at dall_X3_isDigit_27_rd00_0 (k := 3) rfl
theorem dX3_isDigit_17 : decode cX3_isDigit 17 = .ok (.ireturn, 1) := dchk_at dall_X3_isDigit_27_rd00_0 (k := 4) rfl
theorem dX3_isDigit_6 : decode cX3_isDigit 6 = .ok (.iload_n 0, 1) := dchk_at dall_X3_isDigit_27_rd00_0 (k := 5) rfl
theorem dX3_isDigit_7 : decode cX3_isDigit 7 = .ok (.bipush 57, 2) := dchk_at dall_X3_isDigit_27_rd00_0 (k := 6) rfl
theorem dX3_isDigit_9 : decode cX3_isDigit 9 = .ok (.if_icmp .gt 7, 3) := dchk_at dall_X3_isDigit_27_rd00_0 (k := 7) rfl
theorem dX3_isDigit_12 : decode cX3_isDigit 12 = .ok (.iconst 1, 1) := dchk_at dall_X3_isDigit_27_rd00_0 (k := 8) rfl
theorem dX3_isDigit_13 : decode cX3_isDigit 13 = .ok (.goto 4, 3) := dchk_at dall_X3_isDigit_27_rd00_0 (k := 9) rfl
def dl_X3_isLetter_27_rd00_0 : List (Nat × Instr × Nat) := [(0, .iload_n 0, 1), (1, .bipush 97, 2), (3, .if_icmp .lt 13, 3), (16, .iconst 0, 1), (17, .ireturn, 1), (6, .iload_n 0, 1), (7, .bipush 122, 2), (9, .if_icmp .gt 7, 3), (12, .iconst 1, 1), (13, .goto 4, 3)]
set_option maxRecDepth 100000 in
theorem dall_X3_isLetter_27_rd00_0 : dchk cX3_isLetter dl_X3_isLetter_27_rd00_0 = true := by decide +kernel
theorem dX3_isLetter_0 : decode cX3_isLetter 0 = .ok (.iload_n 0, 1) := dchk_at dall_X3_isLetter_27_rd00_0 (k := 0) rfl
theorem dX3_isLetter_1 : decode cX3_isLetter 1 = .ok (.bipush 97, 2) := dchk_at dall_X3_isLetter_27_rd00_0 (k := 1) rfl
theorem dX3_isLetter_3 : decode cX3_isLetter 3 = .ok (.if_icmp .lt 13, 3) := dchk_at dall_X3_isLetter_27_rd00_0 (k := 2) rfl
theorem dX3_isLetter_16 : decode cX3_isLetter 16 = .ok (.iconst 0, 1) := dchk_at dall_X3_isLetter_27_rd00_0 (k := 3) rfl
theorem dX3_isLetter_17 : decode cX3_isLetter 17 = .ok (.ireturn, 1) := dchk_at dall_X3_isLetter_27_rd00_0 (k := 4) rfl
theorem dX3_isLetter_6 : decode cX3_isLetter 6 = .ok (.iload_n 0, 1) := dchk_at dall_X3_isLetter_27_rd00_0 (k := 5) rfl
theorem dX3_isLetter_7 : decode cX3_isLetter 7 = .ok (.bipush 122, 2) := dchk_at dall_X3_isLetter_27_rd00_0 (k := 6) rfl
theorem dX3_isLetter_9 : decode cX3_isLetter 9 = .ok (.if_icmp .gt 7, 3) := dchk_at dall_X3_isLetter_27_rd00_0 (k := 7) rfl
theorem dX3_isLetter_12 : decode cX3_isLetter 12 = .ok (.iconst 1, 1) := dchk_at dall_X3_isLetter_27_rd00_0 (k := 8) rfl
theorem dX3_isLetter_13 : decode cX3_isLetter 13 = .ok (.goto 4, 3) := dchk_at dall_X3_isLetter_27_rd00_0 (k := 9) rfl
def dl_X3_isWord_27_rd00_0 : List (Nat × Instr × Nat) := [(20, .iload_n 2, 1), (21, .aload_n 1, 1), (22, .invokevirtual 150, 3), (25, .if_icmp .ge 32, 3), (28, .aload_n 0, 1), (29, .getfield 43, 3), (32, .aload_n 0, 1), (33, .getfield 34, 3), (36, .iload_n 2, 1), (37, .iadd, 1), (38, .invokevirtual 143, 3), (41, .aload_n 1, 1), (42, .iload_n 2, 1), (43, .invokevirtual 154, 3), (46, .if_icmp .eq 5, 3), (51, .iinc 2 1, 3), (54, .goto (-34), 3), (0, .aload_n 0, 1), (1, .getfield 31, 3), (4, .aload_n 0, 1), (5, .getfield 34, 3), (8, .isub, 1), (9, .aload_n 1, 1), (10, .invokevirtual 150, 3), (13, .if_icmp .eq 5, 3), (18, .iconst 0, 1), (19, .istore_n 2, 1), (49, .iconst 0, 1), (50, .ireturn, 1), (57, .iconst 1, 1), (58, .ireturn, 1), (16, .iconst 0, 1), (17, .ireturn, 1)]
set_option maxRecDepth 100000 in
theorem dall_X3_isWord_27_rd00_0 : dchk cX3_isWord dl_X3_isWord_27_rd00_0 = true := by decide +kernel
theorem dX3_isWord_20 : decode cX3_isWord 20 = .ok (.iload_n 2, 1) := dchk_at dall_X3_isWord_27_rd00_0 (k := 0) rfl
theorem dX3_isWord_21 : decode cX3_isWord 21 = .ok (.aload_n 1, 1) := dchk_at dall_X3_isWord_27_rd00_0 (k := 1) rfl
theorem dX3_isWord_22 : decode cX3_isWord 22 = .ok (.invokevirtual 150, 3) := dchk_at dall_X3_isWord_27_rd00_0 (k := 2) rfl
theorem dX3_isWord_25 : decode cX3_isWord 25 = .ok (.if_icmp .ge 32, 3) := dchk_at dall_X3_isWord_27_rd00_0 (k := 3) rfl
theorem dX3_isWord_28 : decode cX3_isWord 28 = .ok (.aload_n 0, 1) := dchk_at dall_X3_isWord_27_rd00_0 (k := 4) rfl
theorem dX3_isWord_29 : decode cX3_isWord 29 = .ok (.getfield 43, 3) := dchk_at dall_X3_isWord_27_rd00_0 (k := 5) rfl
theorem dX3_isWord_32 : decode cX3_isWord 32 = .ok (.aload_n 0, 1) := dchk_at dall_X3_isWord_27_rd00_0 (k := 6) rfl
theorem dX3_isWord_33 : decode cX3_isWord 33 = .ok (.getfield 34, 3) := dchk_at dall_X3_isWord_27_rd00_0 (k := 7) rfl
theorem dX3_isWord_36 : decode cX3_isWord 36 = .ok (.iload_n 2, 1) := dchk_at dall_X3_isWord_27_rd00_0 (k := 8) rfl
theorem dX3_isWord_37 : decode cX3_isWord 37 = .ok (.iadd, 1) := dchk_at dall_X3_isWord_27_rd00_0 (k := 9) rfl
theorem dX3_isWord_38 : decode cX3_isWord 38 = .ok (.invokevirtual 143, 3) := dchk_at dall_X3_isWord_27_rd00_0 (k := 10) rfl
theorem dX3_isWord_41 : decode cX3_isWord 41 = .ok (.aload_n 1, 1) := dchk_at dall_X3_isWord_27_rd00_0 (k := 11) rfl
theorem dX3_isWord_42 : decode cX3_isWord 42 = .ok (.iload_n 2, 1) := dchk_at dall_X3_isWord_27_rd00_0 (k := 12) rfl
theorem dX3_isWord_43 : decode cX3_isWord 43 = .ok (.invokevirtual 154, 3) := dchk_at dall_X3_isWord_27_rd00_0 (k := 13) rfl
theorem dX3_isWord_46 : decode cX3_isWord 46 = .ok (.if_icmp .eq 5, 3) := dchk_at dall_X3_isWord_27_rd00_0 (k := 14) rfl
theorem dX3_isWord_51 : decode cX3_isWord 51 = .ok (.iinc 2 1, 3) := dchk_at dall_X3_isWord_27_rd00_0 (k := 15) rfl
theorem dX3_isWord_54 : decode cX3_isWord 54 = .ok (.goto (-34), 3) := dchk_at dall_X3_isWord_27_rd00_0 (k := 16) rfl
theorem dX3_isWord_0 : decode cX3_isWord 0 = .ok (.aload_n 0, 1) := dchk_at dall_X3_isWord_27_rd00_0 (k := 17) rfl
theorem dX3_isWord_1 : decode cX3_isWord 1 = .ok (.getfield 31, 3) := dchk_at dall_X3_isWord_27_rd00_0 (k := 18) rfl
theorem dX3_isWord_4 : decode cX3_isWord 4 = .ok (.aload_n 0, 1) := dchk_at dall_X3_isWord_27_rd00_0 (k := 19) rfl
theorem dX3_isWord_5 : decode cX3_isWord 5 = .ok (.getfield 34, 3) := dchk_at dall_X3_isWord_27_rd00_0 (k := 20) rfl
theorem dX3_isWord_8 : decode cX3_isWord 8 = .ok (.isub, 1) := dchk_at dall_X3_isWord_27_rd00_0 (k := 21) rfl
theorem dX3_isWord_9 : decode cX3_isWord 9 = .ok (.aload_n 1, 1) := dchk_at dall_X3_isWord_27_rd00_0 (k := 22) rfl
theorem dX3_isWord_10 : decode cX3_isWord 10 = .ok (.invokevirtual 150, 3) := dchk_at dall_X3_isWord_27_rd00_0 (k := 23) rfl
theorem dX3_isWord_13 : decode cX3_isWord 13 = .ok (.if_icmp .eq 5, 3) := dchk_at dall_X3_isWord_27_rd00_0 (k := 24) rfl
theorem dX3_isWord_18 : decode cX3_isWord 18 = .ok (.iconst 0, 1) := dchk_at dall_X3_isWord_27_rd00_0 (k := 25) rfl
theorem dX3_isWord_19 : decode cX3_isWord 19 = .ok (.istore_n 2, 1) := dchk_at dall_X3_isWord_27_rd00_0 (k := 26) rfl
theorem dX3_isWord_49 : decode cX3_isWord 49 = .ok (.iconst 0, 1) := dchk_at dall_X3_isWord_27_rd00_0 (k := 27) rfl
theorem dX3_isWord_50 : decode cX3_isWord 50 = .ok (.ireturn, 1) := dchk_at dall_X3_isWord_27_rd00_0 (k := 28) rfl
theorem dX3_isWord_57 : decode cX3_isWord 57 = .ok (.iconst 1, 1) := dchk_at dall_X3_isWord_27_rd00_0 (k := 29) rfl
theorem dX3_isWord_58 : decode cX3_isWord 58 = .ok (.ireturn, 1) := dchk_at dall_X3_isWord_27_rd00_0 (k := 30) rfl
theorem dX3_isWord_16 : decode cX3_isWord 16 = .ok (.iconst 0, 1) := dchk_at dall_X3_isWord_27_rd00_0 (k := 31) rfl
theorem dX3_isWord_17 : decode cX3_isWord 17 = .ok (.ireturn, 1) := dchk_at dall_X3_isWord_27_rd00_0 (k := 32) rfl
def dl_X3_lawOfWord_27_rd00_0 : List (Nat × Instr × Nat) := [(0, .aload_n 0, 1), (1, .ldc 132, 2), (3, .invokevirtual 76, 3), (6, .ifCond .eq 5, 3), (11, .aload_n 0, 1), (12, .ldc 134, 2), (14, .invokevirtual 76, 3), (17, .ifCond .eq 5, 3), (22, .aload_n 0, 1), (23, .ldc 136, 2), (25, .invokevirtual 76, 3), (28, .ifCond .eq 5, 3), (33, .aload_n 0, 1), (34, .ldc 138, 2), (36, .invokevirtual 76, 3), (39, .ifCond .eq 7, 3), (46, .iconst (-1), 1), (47, .ireturn, 1), (42, .iconst 3, 1), (43, .goto 4, 3), (31, .iconst 2, 1), (32, .ireturn, 1), (20, .iconst 1, 1), (21, .ireturn, 1), (9, .iconst 0, 1), (10, .ireturn, 1)]
set_option maxRecDepth 100000 in
theorem dall_X3_lawOfWord_27_rd00_0 : dchk cX3_lawOfWord dl_X3_lawOfWord_27_rd00_0 = true := by decide +kernel
theorem dX3_lawOfWord_0 : decode cX3_lawOfWord 0 = .ok (.aload_n 0, 1) := dchk_at dall_X3_lawOfWord_27_rd00_0 (k := 0) rfl
theorem dX3_lawOfWord_1 : decode cX3_lawOfWord 1 = .ok (.ldc 132, 2) := dchk_at dall_X3_lawOfWord_27_rd00_0 (k := 1) rfl
theorem dX3_lawOfWord_3 : decode cX3_lawOfWord 3 = .ok (.invokevirtual 76, 3) := dchk_at dall_X3_lawOfWord_27_rd00_0 (k := 2) rfl
theorem dX3_lawOfWord_6 : decode cX3_lawOfWord 6 = .ok (.ifCond .eq 5, 3) := dchk_at dall_X3_lawOfWord_27_rd00_0 (k := 3) rfl
theorem dX3_lawOfWord_11 : decode cX3_lawOfWord 11 = .ok (.aload_n 0, 1) := dchk_at dall_X3_lawOfWord_27_rd00_0 (k := 4) rfl
theorem dX3_lawOfWord_12 : decode cX3_lawOfWord 12 = .ok (.ldc 134, 2) := dchk_at dall_X3_lawOfWord_27_rd00_0 (k := 5) rfl
theorem dX3_lawOfWord_14 : decode cX3_lawOfWord 14 = .ok (.invokevirtual 76, 3) := dchk_at dall_X3_lawOfWord_27_rd00_0 (k := 6) rfl
theorem dX3_lawOfWord_17 : decode cX3_lawOfWord 17 = .ok (.ifCond .eq 5, 3) := dchk_at dall_X3_lawOfWord_27_rd00_0 (k := 7) rfl
theorem dX3_lawOfWord_22 : decode cX3_lawOfWord 22 = .ok (.aload_n 0, 1) := dchk_at dall_X3_lawOfWord_27_rd00_0 (k := 8) rfl
theorem dX3_lawOfWord_23 : decode cX3_lawOfWord 23 = .ok (.ldc 136, 2) := dchk_at dall_X3_lawOfWord_27_rd00_0 (k := 9) rfl
theorem dX3_lawOfWord_25 : decode cX3_lawOfWord 25 = .ok (.invokevirtual 76, 3) := dchk_at dall_X3_lawOfWord_27_rd00_0 (k := 10) rfl
theorem dX3_lawOfWord_28 : decode cX3_lawOfWord 28 = .ok (.ifCond .eq 5, 3) := dchk_at dall_X3_lawOfWord_27_rd00_0 (k := 11) rfl
theorem dX3_lawOfWord_33 : decode cX3_lawOfWord 33 = .ok (.aload_n 0, 1) := dchk_at dall_X3_lawOfWord_27_rd00_0 (k := 12) rfl
theorem dX3_lawOfWord_34 : decode cX3_lawOfWord 34 = .ok (.ldc 138, 2) := dchk_at dall_X3_lawOfWord_27_rd00_0 (k := 13) rfl
theorem dX3_lawOfWord_36 : decode cX3_lawOfWord 36 = .ok (.invokevirtual 76, 3) := dchk_at dall_X3_lawOfWord_27_rd00_0 (k := 14) rfl
theorem dX3_lawOfWord_39 : decode cX3_lawOfWord 39 = .ok (.ifCond .eq 7, 3) := dchk_at dall_X3_lawOfWord_27_rd00_0 (k := 15) rfl
theorem dX3_lawOfWord_46 : decode cX3_lawOfWord 46 = .ok (.iconst (-1), 1) := dchk_at dall_X3_lawOfWord_27_rd00_0 (k := 16) rfl
theorem dX3_lawOfWord_47 : decode cX3_lawOfWord 47 = .ok (.ireturn, 1) := dchk_at dall_X3_lawOfWord_27_rd00_0 (k := 17) rfl
theorem dX3_lawOfWord_42 : decode cX3_lawOfWord 42 = .ok (.iconst 3, 1) := dchk_at dall_X3_lawOfWord_27_rd00_0 (k := 18) rfl
theorem dX3_lawOfWord_43 : decode cX3_lawOfWord 43 = .ok (.goto 4, 3) := dchk_at dall_X3_lawOfWord_27_rd00_0 (k := 19) rfl
theorem dX3_lawOfWord_31 : decode cX3_lawOfWord 31 = .ok (.iconst 2, 1) := dchk_at dall_X3_lawOfWord_27_rd00_0 (k := 20) rfl
theorem dX3_lawOfWord_32 : decode cX3_lawOfWord 32 = .ok (.ireturn, 1) := dchk_at dall_X3_lawOfWord_27_rd00_0 (k := 21) rfl
theorem dX3_lawOfWord_20 : decode cX3_lawOfWord 20 = .ok (.iconst 1, 1) := dchk_at dall_X3_lawOfWord_27_rd00_0 (k := 22) rfl
theorem dX3_lawOfWord_21 : decode cX3_lawOfWord 21 = .ok (.ireturn, 1) := dchk_at dall_X3_lawOfWord_27_rd00_0 (k := 23) rfl
theorem dX3_lawOfWord_9 : decode cX3_lawOfWord 9 = .ok (.iconst 0, 1) := dchk_at dall_X3_lawOfWord_27_rd00_0 (k := 24) rfl
theorem dX3_lawOfWord_10 : decode cX3_lawOfWord 10 = .ok (.ireturn, 1) := dchk_at dall_X3_lawOfWord_27_rd00_0 (k := 25) rfl
def dl_X3_putInStep_27_rd00_0 : List (Nat × Instr × Nat) := [(0, .aload_n 0, 1), (1, .getfield 25, 3), (4, .bipush 12, 2), (6, .if_icmp .ge 26, 3), (32, .return_, 1), (9, .iload_n 1, 1), (10, .ifCond .lt 22, 3), (13, .iload_n 1, 1), (14, .iconst 4, 1), (15, .if_icmp .ge 17, 3), (18, .aload_n 0, 1), (19, .getfield 18, 3), (22, .aload_n 0, 1), (23, .getfield 25, 3), (26, .iconst 4, 1), (27, .imul, 1), (28, .iload_n 1, 1), (29, .iadd, 1), (30, .iload_n 2, 1), (31, .iastore, 1)]
set_option maxRecDepth 100000 in
theorem dall_X3_putInStep_27_rd00_0 : dchk cX3_putInStep dl_X3_putInStep_27_rd00_0 = true := by decide +kernel
theorem dX3_putInStep_0 : decode cX3_putInStep 0 = .ok (.aload_n 0, 1) := dchk_at dall_X3_putInStep_27_rd00_0 (k := 0) rfl
theorem dX3_putInStep_1 : decode cX3_putInStep 1 = .ok (.getfield 25, 3) := dchk_at dall_X3_putInStep_27_rd00_0 (k := 1) rfl
theorem dX3_putInStep_4 : decode cX3_putInStep 4 = .ok (.bipush 12, 2) := dchk_at dall_X3_putInStep_27_rd00_0 (k := 2) rfl
theorem dX3_putInStep_6 : decode cX3_putInStep 6 = .ok (.if_icmp .ge 26, 3) := dchk_at dall_X3_putInStep_27_rd00_0 (k := 3) rfl
theorem dX3_putInStep_32 : decode cX3_putInStep 32 = .ok (.return_, 1) := dchk_at dall_X3_putInStep_27_rd00_0 (k := 4) rfl
theorem dX3_putInStep_9 : decode cX3_putInStep 9 = .ok (.iload_n 1, 1) := dchk_at dall_X3_putInStep_27_rd00_0 (k := 5) rfl
theorem dX3_putInStep_10 : decode cX3_putInStep 10 = .ok (.ifCond .lt 22, 3) := dchk_at dall_X3_putInStep_27_rd00_0 (k := 6) rfl
theorem dX3_putInStep_13 : decode cX3_putInStep 13 = .ok (.iload_n 1, 1) := dchk_at dall_X3_putInStep_27_rd00_0 (k := 7) rfl
theorem dX3_putInStep_14 : decode cX3_putInStep 14 = .ok (.iconst 4, 1) := dchk_at dall_X3_putInStep_27_rd00_0 (k := 8) rfl
theorem dX3_putInStep_15 : decode cX3_putInStep 15 = .ok (.if_icmp .ge 17, 3) := dchk_at dall_X3_putInStep_27_rd00_0 (k := 9) rfl
theorem dX3_putInStep_18 : decode cX3_putInStep 18 = .ok (.aload_n 0, 1) := dchk_at dall_X3_putInStep_27_rd00_0 (k := 10) rfl
theorem dX3_putInStep_19 : decode cX3_putInStep 19 = .ok (.getfield 18, 3) := dchk_at dall_X3_putInStep_27_rd00_0 (k := 11) rfl
theorem dX3_putInStep_22 : decode cX3_putInStep 22 = .ok (.aload_n 0, 1) := dchk_at dall_X3_putInStep_27_rd00_0 (k := 12) rfl
theorem dX3_putInStep_23 : decode cX3_putInStep 23 = .ok (.getfield 25, 3) := dchk_at dall_X3_putInStep_27_rd00_0 (k := 13) rfl
theorem dX3_putInStep_26 : decode cX3_putInStep 26 = .ok (.iconst 4, 1) := dchk_at dall_X3_putInStep_27_rd00_0 (k := 14) rfl
theorem dX3_putInStep_27 : decode cX3_putInStep 27 = .ok (.imul, 1) := dchk_at dall_X3_putInStep_27_rd00_0 (k := 15) rfl
theorem dX3_putInStep_28 : decode cX3_putInStep 28 = .ok (.iload_n 1, 1) := dchk_at dall_X3_putInStep_27_rd00_0 (k := 16) rfl
theorem dX3_putInStep_29 : decode cX3_putInStep 29 = .ok (.iadd, 1) := dchk_at dall_X3_putInStep_27_rd00_0 (k := 17) rfl
theorem dX3_putInStep_30 : decode cX3_putInStep 30 = .ok (.iload_n 2, 1) := dchk_at dall_X3_putInStep_27_rd00_0 (k := 18) rfl
theorem dX3_putInStep_31 : decode cX3_putInStep 31 = .ok (.iastore, 1) := dchk_at dall_X3_putInStep_27_rd00_0 (k := 19) rfl
def dl_X3_readWord_27_rd00_0 : List (Nat × Instr × Nat) := [(12, .aload_n 0, 1), (13, .getfield 31, 3), (16, .aload_n 0, 1), (17, .getfield 43, 3), (20, .getfield 59, 3), (23, .if_icmp .ge 33, 3), (26, .aload_n 0, 1), (27, .getfield 43, 3), (30, .aload_n 0, 1), (31, .getfield 31, 3), (34, .invokevirtual 143, 3), (37, .invokestatic 147, 3), (40, .ifCond .eq 16, 3), (43, .aload_n 0, 1), (44, .dup, 1), (45, .getfield 31, 3), (48, .iconst 1, 1), (49, .iadd, 1), (50, .putfield 31, 3), (53, .goto (-41), 3), (56, .aload_n 0, 1), (57, .getfield 31, 3), (60, .aload_n 0, 1), (61, .getfield 34, 3), (64, .if_icmp .gt 14, 3), (78, .iconst 1, 1), (79, .goto 4, 3), (83, .ireturn, 1), (67, .aload_n 0, 1), (68, .aload_n 0, 1), (69, .getfield 31, 3), (72, .invokevirtual 87, 3), (75, .ifCond .eq 7, 3), (82, .iconst 0, 1), (0, .aload_n 0, 1), (1, .invokevirtual 140, 3), (4, .aload_n 0, 1), (5, .aload_n 0, 1), (6, .getfield 31, 3), (9, .putfield 34, 3)]
set_option maxRecDepth 100000 in
theorem dall_X3_readWord_27_rd00_0 : dchk cX3_readWord dl_X3_readWord_27_rd00_0 = true := by decide +kernel
theorem dX3_readWord_12 : decode cX3_readWord 12 = .ok (.aload_n 0, 1) := dchk_at dall_X3_readWord_27_rd00_0 (k := 0) rfl
theorem dX3_readWord_13 : decode cX3_readWord 13 = .ok (.getfield 31, 3) := dchk_at dall_X3_readWord_27_rd00_0 (k := 1) rfl
theorem dX3_readWord_16 : decode cX3_readWord 16 = .ok (.aload_n 0, 1) := dchk_at dall_X3_readWord_27_rd00_0 (k := 2) rfl
theorem dX3_readWord_17 : decode cX3_readWord 17 = .ok (.getfield 43, 3) := dchk_at dall_X3_readWord_27_rd00_0 (k := 3) rfl
theorem dX3_readWord_20 : decode cX3_readWord 20 = .ok (.getfield 59, 3) := dchk_at dall_X3_readWord_27_rd00_0 (k := 4) rfl
theorem dX3_readWord_23 : decode cX3_readWord 23 = .ok (.if_icmp .ge 33, 3) := dchk_at dall_X3_readWord_27_rd00_0 (k := 5) rfl
theorem dX3_readWord_26 : decode cX3_readWord 26 = .ok (.aload_n 0, 1) := dchk_at dall_X3_readWord_27_rd00_0 (k := 6) rfl
theorem dX3_readWord_27 : decode cX3_readWord 27 = .ok (.getfield 43, 3) := dchk_at dall_X3_readWord_27_rd00_0 (k := 7) rfl
theorem dX3_readWord_30 : decode cX3_readWord 30 = .ok (.aload_n 0, 1) := dchk_at dall_X3_readWord_27_rd00_0 (k := 8) rfl
theorem dX3_readWord_31 : decode cX3_readWord 31 = .ok (.getfield 31, 3) := dchk_at dall_X3_readWord_27_rd00_0 (k := 9) rfl
theorem dX3_readWord_34 : decode cX3_readWord 34 = .ok (.invokevirtual 143, 3) := dchk_at dall_X3_readWord_27_rd00_0 (k := 10) rfl
theorem dX3_readWord_37 : decode cX3_readWord 37 = .ok (.invokestatic 147, 3) := dchk_at dall_X3_readWord_27_rd00_0 (k := 11) rfl
theorem dX3_readWord_40 : decode cX3_readWord 40 = .ok (.ifCond .eq 16, 3) := dchk_at dall_X3_readWord_27_rd00_0 (k := 12) rfl
theorem dX3_readWord_43 : decode cX3_readWord 43 = .ok (.aload_n 0, 1) := dchk_at dall_X3_readWord_27_rd00_0 (k := 13) rfl
theorem dX3_readWord_44 : decode cX3_readWord 44 = .ok (.dup, 1) := dchk_at dall_X3_readWord_27_rd00_0 (k := 14) rfl
theorem dX3_readWord_45 : decode cX3_readWord 45 = .ok (.getfield 31, 3) := dchk_at dall_X3_readWord_27_rd00_0 (k := 15) rfl
theorem dX3_readWord_48 : decode cX3_readWord 48 = .ok (.iconst 1, 1) := dchk_at dall_X3_readWord_27_rd00_0 (k := 16) rfl
theorem dX3_readWord_49 : decode cX3_readWord 49 = .ok (.iadd, 1) := dchk_at dall_X3_readWord_27_rd00_0 (k := 17) rfl
theorem dX3_readWord_50 : decode cX3_readWord 50 = .ok (.putfield 31, 3) := dchk_at dall_X3_readWord_27_rd00_0 (k := 18) rfl
theorem dX3_readWord_53 : decode cX3_readWord 53 = .ok (.goto (-41), 3) := dchk_at dall_X3_readWord_27_rd00_0 (k := 19) rfl
theorem dX3_readWord_56 : decode cX3_readWord 56 = .ok (.aload_n 0, 1) := dchk_at dall_X3_readWord_27_rd00_0 (k := 20) rfl
theorem dX3_readWord_57 : decode cX3_readWord 57 = .ok (.getfield 31, 3) := dchk_at dall_X3_readWord_27_rd00_0 (k := 21) rfl
theorem dX3_readWord_60 : decode cX3_readWord 60 = .ok (.aload_n 0, 1) := dchk_at dall_X3_readWord_27_rd00_0 (k := 22) rfl
theorem dX3_readWord_61 : decode cX3_readWord 61 = .ok (.getfield 34, 3) := dchk_at dall_X3_readWord_27_rd00_0 (k := 23) rfl
theorem dX3_readWord_64 : decode cX3_readWord 64 = .ok (.if_icmp .gt 14, 3) := dchk_at dall_X3_readWord_27_rd00_0 (k := 24) rfl
theorem dX3_readWord_78 : decode cX3_readWord 78 = .ok (.iconst 1, 1) := dchk_at dall_X3_readWord_27_rd00_0 (k := 25) rfl
theorem dX3_readWord_79 : decode cX3_readWord 79 = .ok (.goto 4, 3) := dchk_at dall_X3_readWord_27_rd00_0 (k := 26) rfl
theorem dX3_readWord_83 : decode cX3_readWord 83 = .ok (.ireturn, 1) := dchk_at dall_X3_readWord_27_rd00_0 (k := 27) rfl
theorem dX3_readWord_67 : decode cX3_readWord 67 = .ok (.aload_n 0, 1) := dchk_at dall_X3_readWord_27_rd00_0 (k := 28) rfl
theorem dX3_readWord_68 : decode cX3_readWord 68 = .ok (.aload_n 0, 1) := dchk_at dall_X3_readWord_27_rd00_0 (k := 29) rfl
theorem dX3_readWord_69 : decode cX3_readWord 69 = .ok (.getfield 31, 3) := dchk_at dall_X3_readWord_27_rd00_0 (k := 30) rfl
theorem dX3_readWord_72 : decode cX3_readWord 72 = .ok (.invokevirtual 87, 3) := dchk_at dall_X3_readWord_27_rd00_0 (k := 31) rfl
theorem dX3_readWord_75 : decode cX3_readWord 75 = .ok (.ifCond .eq 7, 3) := dchk_at dall_X3_readWord_27_rd00_0 (k := 32) rfl
theorem dX3_readWord_82 : decode cX3_readWord 82 = .ok (.iconst 0, 1) := dchk_at dall_X3_readWord_27_rd00_0 (k := 33) rfl
theorem dX3_readWord_0 : decode cX3_readWord 0 = .ok (.aload_n 0, 1) := dchk_at dall_X3_readWord_27_rd00_0 (k := 34) rfl
theorem dX3_readWord_1 : decode cX3_readWord 1 = .ok (.invokevirtual 140, 3) := dchk_at dall_X3_readWord_27_rd00_0 (k := 35) rfl
theorem dX3_readWord_4 : decode cX3_readWord 4 = .ok (.aload_n 0, 1) := dchk_at dall_X3_readWord_27_rd00_0 (k := 36) rfl
theorem dX3_readWord_5 : decode cX3_readWord 5 = .ok (.aload_n 0, 1) := dchk_at dall_X3_readWord_27_rd00_0 (k := 37) rfl
theorem dX3_readWord_6 : decode cX3_readWord 6 = .ok (.getfield 31, 3) := dchk_at dall_X3_readWord_27_rd00_0 (k := 38) rfl
theorem dX3_readWord_9 : decode cX3_readWord 9 = .ok (.putfield 34, 3) := dchk_at dall_X3_readWord_27_rd00_0 (k := 39) rfl
def F_X3_failAt (p1 : Int32) (c_failed : Int32) : Option (Int32 × Int32) :=
  some ((0 : Int32), p1)
abbrev w_X3_failAt (E : EE) (a_ a_tape a_rules a_places a_steps : Nat) (c_siteCount : Int32) (c_stepCount : Int32) (c_seenRules : Int32) (c_at : Int32) (c_wordStart : Int32) (c_number : Int32) (c_failed : Int32) : va_W := [(a_, .inr (4, [.ref a_tape, .ref a_rules, .ref a_places, .ref a_steps, .int c_siteCount, .int c_stepCount, .int c_seenRules, .int c_at, .int c_wordStart, .int c_number, .int c_failed]))]
def v_f_X3_failAt : List Cond := .code yX3_failAt cX3_failAt 2 (some .boolean) :: ([.fieldLink RX3 40 "HushWatch$Reader" "failed" "I"] ++ (wsX30 ++ ([])))
theorem gw_f_X3_failAt : v_f_X3_failAt.all goodWord = true := by decide +kernel
theorem i_f_X3_failAt_X3 : ∀ w ∈ wsX30, w ∈ v_f_X3_failAt := fun _ h => List.mem_cons_of_mem _ (List.mem_append_right _ (List.mem_append_left _ h))
theorem hd_X3_failAt : yX3_failAt.cls = RX3 ∧ yX3_failAt.cls ≠ "java/lang/invoke/MethodHandle" ∧ yX3_failAt.cls ≠ "java/lang/invoke/VarHandle" ∧ (parseMethodDescriptor yX3_failAt.desc).map (fun d => d.parameters.length) = some 1 := by decide +kernel
set_option maxHeartbeats 4000000 in
set_option maxRecDepth 100000 in
theorem f_X3_failAt (l : Launch) (E : EE) (sz : Nat) {a_ a_tape a_rules a_places a_steps : Nat} {p1 : Int32} {c_siteCount : Int32} {c_stepCount : Int32} {c_seenRules : Int32} {c_at : Int32} {c_wordStart : Int32} {c_number : Int32} {c_failed : Int32} {rr : Int32} {n_failed : Int32} (hF : F_X3_failAt p1 c_failed = some (rr, n_failed)) : Met l yX3_failAt v_f_X3_failAt (({ frames := 0, cells := 0, slots := 0, locals := 0 } : Room)) (va_Pc [.ref a_, .int p1] (pW E sz (w_X3_failAt E a_ a_tape a_rules a_places a_steps c_siteCount c_stepCount c_seenRules c_at c_wordStart c_number c_failed))) (va_Qi (fun (q : Int32) (_u : Unit) => q = rr ∧ (q = 0 ∨ q = 1)) (fun (_u : Unit) tt => va_P E.1 vwCl (w_X3_failAt E a_ a_tape a_rules a_places a_steps c_siteCount c_stepCount c_seenRules c_at c_wordStart c_number n_failed) tt.heap ∧ va_D (va_A (w_X3_failAt E a_ a_tape a_rules a_places a_steps c_siteCount c_stepCount c_seenRules c_at c_wordStart c_number c_failed) sz) (w_X3_failAt E a_ a_tape a_rules a_places a_steps c_siteCount c_stepCount c_seenRules c_at c_wordStart c_number n_failed)) (va_A (w_X3_failAt E a_ a_tape a_rules a_places a_steps c_siteCount c_stepCount c_seenRules c_at c_wordStart c_number c_failed) sz)) 0 0 (va_A (w_X3_failAt E a_ a_tape a_rules a_places a_steps c_siteCount c_stepCount c_seenRules c_at c_wordStart c_number c_failed) sz) := by
  refine Met.ofW (cc := cX3_failAt) (maxL := 2) (ret := (some .boolean)) (by decide) rfl ?_
  intro p e s m args below meth c s₁ B hml hv
  obtain ⟨rfl, hsz, ⟨hK, hN⟩, hP, hD0⟩ := hv
  have hx := B.exec
  have hb := B.bytes
  have hr := B.returns
  have hts := atoms_spec (ws := v_f_X3_failAt) B.pre
  have hown : s.vm.findClass RX3 = some m.cls := own_of hd_X3_failAt.1 (findClass_of_methodNamed B.named)
  have hlocks : meth.locks = false := B.notSynchronized
  subst hsz
  have hD := hD0.self (sz := s.heap.size)
  generalize hAe : va_A (w_X3_failAt E a_ a_tape a_rules a_places a_steps c_siteCount c_stepCount c_seenRules c_at c_wordStart c_number c_failed) s.heap.size = A at hD ⊢
  have hA : ∀ q : Nat, s.heap.size ≤ q → A q := fun q h => by rw [← hAe]; exact Or.inr h
  have hS : va_S A s.heap s.heap [] := va_S.rf
  have hl := lv_entry ([.ref a_, .int p1]) (n := 2) (Nat.le_of_ble_eq_true rfl)
  rw [lg_entry_eq]
  generalize (lg_sl ([.ref a_, .int p1]) ++ List.replicate (2 - (lg_sl ([.ref a_, .int p1])).length) Slot.unset).toArray = ls at hl ⊢
  have hl : lv_has ls 2 [(0, .ref a_), (1, .int p1)] := hl
  obtain ⟨Q, hQ⟩ : ∃ Q : State → Prop, Q = MQ below (va_Qi (fun (q : Int32) (_u : Unit) => q = rr ∧ (q = 0 ∨ q = 1)) (fun (_u : Unit) tt => va_P E.1 vwCl (w_X3_failAt E a_ a_tape a_rules a_places a_steps c_siteCount c_stepCount c_seenRules c_at c_wordStart c_number n_failed) tt.heap ∧ va_D A (w_X3_failAt E a_ a_tape a_rules a_places a_steps c_siteCount c_stepCount c_seenRules c_at c_wordStart c_number n_failed)) A) #[Value.ref a_, Value.int p1] s 0 0 A := ⟨_, rfl⟩
  rw [← hQ]
  change W p l e ({ frames := 0, cells := 0, slots := 0, locals := 0 } : Room) s m #[Value.ref a_, Value.int p1] below meth c s.heap [] 0 0 Q (F0 m 0 ls [])
  suffices hh9 : ∀ (H : Heap) (locs : List Loc), va_P E.1 vwCl (w_X3_failAt E a_ a_tape a_rules a_places a_steps c_siteCount c_stepCount c_seenRules c_at c_wordStart c_number c_failed) H → va_D A (w_X3_failAt E a_ a_tape a_rules a_places a_steps c_siteCount c_stepCount c_seenRules c_at c_wordStart c_number c_failed) → va_S A s.heap H locs → W p l e ({ frames := 0, cells := 0, slots := 0, locals := 0 } : Room) s m #[Value.ref a_, Value.int p1] below meth c H locs 0 0 Q (F0 m 0 ls []) from hh9 s.heap [] hP hD hS
  clear hP hD hS
  intro H locs hP hD hS
  replace hP : va_P E.1 vwCl [(a_, .inr (4, [.ref a_tape, .ref a_rules, .ref a_places, .ref a_steps, .int c_siteCount, .int c_stepCount, .int c_seenRules, .int c_at, .int c_wordStart, .int c_number, .int c_failed]))] H := hP
  replace hD : va_D A [(a_, .inr (4, [.ref a_tape, .ref a_rules, .ref a_places, .ref a_steps, .int c_siteCount, .int c_stepCount, .int c_seenRules, .int c_at, .int c_wordStart, .int c_number, .int c_failed]))] := hD
  unfold F_X3_failAt at hF
  refine lv_aload_n hx hb dX3_failAt_0 rfl (lv_at hl 0 rfl) ?_
  refine lv_iload_n hx hb dX3_failAt_1 rfl (lv_at hl 1 rfl) ?_
  refine pt_X3_10 (v := .int p1) hx hb hts i_f_X3_failAt_X3 hown hK hP hD hS 0 rfl (hts (.fieldLink RX3 40 "HushWatch$Reader" "failed" "I") (List.mem_of_getElem? (i := 1) rfl)) rfl rfl (Nat.le_of_ble_eq_true rfl) dX3_failAt_2 (fun H locs hP hD hS => ?_)
  replace hP : va_P E.1 vwCl [(a_, .inr (4, [.ref a_tape, .ref a_rules, .ref a_places, .ref a_steps, .int c_siteCount, .int c_stepCount, .int c_seenRules, .int c_at, .int c_wordStart, .int c_number, .int p1]))] H := hP
  replace hD : va_D A [(a_, .inr (4, [.ref a_tape, .ref a_rules, .ref a_places, .ref a_steps, .int c_siteCount, .int c_stepCount, .int c_seenRules, .int c_at, .int c_wordStart, .int c_number, .int p1]))] := hD
  refine lv_iconst (v := 0) hx hb dX3_failAt_5 (by decide) ?_
  rw [hQ]
  have h9 := fin9 (P := fun u9 : Int32 × Int32 => (0 : Int32) = u9.1 ∧ va_P E.1 vwCl (w_X3_failAt E a_ a_tape a_rules a_places a_steps c_siteCount c_stepCount c_seenRules c_at c_wordStart c_number u9.2) H ∧ va_D A (w_X3_failAt E a_ a_tape a_rules a_places a_steps c_siteCount c_stepCount c_seenRules c_at c_wordStart c_number u9.2)) hF ⟨rfl, hP, hD⟩
  obtain ⟨e9_0, hP9, hD9⟩ := h9
  exact W.zret (v := (0 : Int32)) hx hb hr rfl (fun tt ht hW => ⟨⟨_, (), rfl, ⟨e9_0, Or.inl rfl⟩, ht ▸ hP9, hD9⟩, hS.F ht⟩) hS.2.2 dX3_failAt_6

def B_X3_skipBlanks_0 (c_tape_length : Int32) (c_tape_bytes : Nat → Int32) (c_at : Int32) : Option ((Int32) ⊕ (Int32)) :=
  if c_tape_length ≤ c_at then some (.inr c_at) else bd1 (F_X6_signAt c_at c_tape_bytes c_tape_length) (fun r_2 => if r_2 = (32 : Int32) then some (.inl (c_at + (1 : Int32))) else some (.inr c_at))
def F_X3_skipBlanks (K : Nat) (c_tape_bytes : Nat → Int32) (c_tape_length : Int32) (c_at : Int32) : Option (Int32) :=
  bd1 (lpF (fun u9 : Int32 => B_X3_skipBlanks_0 c_tape_length c_tape_bytes u9) K c_at) (fun c_at_5 => some c_at_5)
abbrev w_X3_skipBlanks (E : EE) (a_ a_tape a_rules a_places a_steps a_tape_bytes : Nat) (c_siteCount : Int32) (c_stepCount : Int32) (c_seenRules : Int32) (c_at : Int32) (c_wordStart : Int32) (c_number : Int32) (c_failed : Int32) (c_tape_length : Int32) (c_tape_bytes : Nat → Int32) : va_W := [(a_, .inr (4, [.ref a_tape, .ref a_rules, .ref a_places, .ref a_steps, .int c_siteCount, .int c_stepCount, .int c_seenRules, .int c_at, .int c_wordStart, .int c_number, .int c_failed])), (a_tape, .inr (7, [.ref a_tape_bytes, .int c_tape_length])), (a_tape_bytes, .inl (E.2.2.1, 320, .inl c_tape_bytes))]
def v_f_X3_skipBlanks : List Cond := .code yX3_skipBlanks cX3_skipBlanks 1 none :: ([.fieldLink RX3 31 "HushWatch$Reader" "at" "I", .fieldLink RX3 43 "HushWatch$Reader" "tape" "LHushWatch$Tape;", .methodLink RX3 143 yX6_signAt, .instanceMethod yX6_signAt, .selects RX6 yX6_signAt yX6_signAt, .initialized RX6] ++ (wsX30 ++ (wsX60 ++ (v_f_X6_signAt ++ ([])))))
theorem gw_f_X3_skipBlanks : v_f_X3_skipBlanks.all goodWord = true := by decide +kernel
theorem i_f_X3_skipBlanks_X3 : ∀ w ∈ wsX30, w ∈ v_f_X3_skipBlanks := fun _ h => List.mem_cons_of_mem _ (List.mem_append_right _ (List.mem_append_left _ h))
theorem i_f_X3_skipBlanks_X6 : ∀ w ∈ wsX60, w ∈ v_f_X3_skipBlanks := fun _ h => List.mem_cons_of_mem _ (List.mem_append_right _ (List.mem_append_right _ (List.mem_append_left _ h)))
theorem g_f_X3_skipBlanks_f_X6_signAt_143 : GoodIn v_f_X3_skipBlanks (wsV RX3 143 RX6 yX6_signAt v_f_X6_signAt) := goodIn_app (goodIn_of _ (by decide +kernel)) (goodIn_sub (fun _ h => List.mem_cons_of_mem _ (List.mem_append_right _ (List.mem_append_right _ (List.mem_append_right _ (List.mem_append_left _ h))))) gw_f_X6_signAt)
theorem hd_X3_skipBlanks : yX3_skipBlanks.cls = RX3 ∧ yX3_skipBlanks.cls ≠ "java/lang/invoke/MethodHandle" ∧ yX3_skipBlanks.cls ≠ "java/lang/invoke/VarHandle" ∧ (parseMethodDescriptor yX3_skipBlanks.desc).map (fun d => d.parameters.length) = some 0 := by decide +kernel
set_option maxHeartbeats 4000000 in
set_option maxRecDepth 100000 in
theorem wb_X3_skipBlanks_0 {p : Program} (l : Launch) {e : Env} {s : State} {m : MethodId} {below : List Frame} {meth : Method} {c : Code} {Q : State → Prop} (E : EE) (K : Nat) {a_ a_tape a_rules a_places a_steps a_tape_bytes : Nat} {c_siteCount : Int32} {c_stepCount : Int32} {c_seenRules : Int32} {c_wordStart : Int32} {c_number : Int32} {c_failed : Int32} {c_tape_length : Int32} {c_tape_bytes : Nat → Int32} {c_at : Int32} (hx : p.tables.exec = Jvm.exec) (hb : c.code = cX3_skipBlanks) (hml : c.maxLocals = 1) (hown : s.vm.findClass RX3 = some m.cls) (hts : ∀ w ∈ v_f_X3_skipBlanks, w.before #[Value.ref a_] s = true) (hK : va_K E.1 vwCl (TY E) s) (hN : NX s) {A : Nat → Prop} (hA : ∀ q : Nat, s.heap.size ≤ q → A q) {xx : (Int32) ⊕ (Int32)} (hC : ∀ (c_at : Int32), xx = .inl c_at → ∀ (H : Heap) (locs : List Loc) (ls : Array Slot), va_P E.1 vwCl (w_X3_skipBlanks E a_ a_tape a_rules a_places a_steps a_tape_bytes c_siteCount c_stepCount c_seenRules c_at c_wordStart c_number c_failed c_tape_length c_tape_bytes) H → va_D A (w_X3_skipBlanks E a_ a_tape a_rules a_places a_steps a_tape_bytes c_siteCount c_stepCount c_seenRules c_at c_wordStart c_number c_failed c_tape_length c_tape_bytes) → va_S A s.heap H locs → lv_has ls 1 [(0, .ref a_)] → W p l e ({ frames := 1, cells := 0, slots := 0, locals := 21 } : Room) s m #[Value.ref a_] below meth c H locs 0 0 Q (F0 m 0 ls [])) (hE : ∀ (c_at : Int32), xx = .inr c_at → ((∀ (H : Heap) (locs : List Loc) (ls : Array Slot), va_P E.1 vwCl (w_X3_skipBlanks E a_ a_tape a_rules a_places a_steps a_tape_bytes c_siteCount c_stepCount c_seenRules c_at c_wordStart c_number c_failed c_tape_length c_tape_bytes) H → va_D A (w_X3_skipBlanks E a_ a_tape a_rules a_places a_steps a_tape_bytes c_siteCount c_stepCount c_seenRules c_at c_wordStart c_number c_failed c_tape_length c_tape_bytes) → va_S A s.heap H locs → lv_has ls 1 [] → W p l e ({ frames := 1, cells := 0, slots := 0, locals := 21 } : Room) s m #[Value.ref a_] below meth c H locs 0 0 Q (F0 m 43 ls [])))) (hF : B_X3_skipBlanks_0 c_tape_length c_tape_bytes c_at = some xx) : ∀ (H : Heap) (locs : List Loc) (ls : Array Slot), va_P E.1 vwCl (w_X3_skipBlanks E a_ a_tape a_rules a_places a_steps a_tape_bytes c_siteCount c_stepCount c_seenRules c_at c_wordStart c_number c_failed c_tape_length c_tape_bytes) H → va_D A (w_X3_skipBlanks E a_ a_tape a_rules a_places a_steps a_tape_bytes c_siteCount c_stepCount c_seenRules c_at c_wordStart c_number c_failed c_tape_length c_tape_bytes) → va_S A s.heap H locs → lv_has ls 1 [(0, .ref a_)] → W p l e ({ frames := 1, cells := 0, slots := 0, locals := 21 } : Room) s m #[Value.ref a_] below meth c H locs 0 0 Q (F0 m 0 ls []) := by
  unfold B_X3_skipBlanks_0 at hF
  intro H locs ls hP hD hS hl
  replace hP : va_P E.1 vwCl [(a_, .inr (4, [.ref a_tape, .ref a_rules, .ref a_places, .ref a_steps, .int c_siteCount, .int c_stepCount, .int c_seenRules, .int c_at, .int c_wordStart, .int c_number, .int c_failed])), (a_tape, .inr (7, [.ref a_tape_bytes, .int c_tape_length])), (a_tape_bytes, .inl (E.2.2.1, 320, .inl c_tape_bytes))] H := hP
  replace hD : va_D A [(a_, .inr (4, [.ref a_tape, .ref a_rules, .ref a_places, .ref a_steps, .int c_siteCount, .int c_stepCount, .int c_seenRules, .int c_at, .int c_wordStart, .int c_number, .int c_failed])), (a_tape, .inr (7, [.ref a_tape_bytes, .int c_tape_length])), (a_tape_bytes, .inl (E.2.2.1, 320, .inl c_tape_bytes))] := hD
  refine lv_aload_n hx hb dX3_skipBlanks_0 rfl (lv_at hl 0 rfl) ?_
  refine gt_X3_7 (v := .int c_at) hx hb hts i_f_X3_skipBlanks_X3 hown hK hP 0 rfl (hts (.fieldLink RX3 31 "HushWatch$Reader" "at" "I") (List.mem_of_getElem? (i := 1) rfl)) rfl dX3_skipBlanks_1 ?_
  refine lv_aload_n hx hb dX3_skipBlanks_4 rfl (lv_at hl 0 rfl) ?_
  refine gt_X3_0 (v := .ref a_tape) hx hb hts i_f_X3_skipBlanks_X3 hown hK hP 0 rfl (hts (.fieldLink RX3 43 "HushWatch$Reader" "tape" "LHushWatch$Tape;") (List.mem_of_getElem? (i := 2) rfl)) rfl dX3_skipBlanks_5 ?_
  refine va_getN (D := E.1) (ci := 7) (v := .int c_tape_length) (C := RX6) (T := TX6) (N := 2) hx hb hts i_f_X3_skipBlanks_X6 hown hK hP 1 rfl rfl 1 (by decide) (nx hN 2 rfl) (fun _ h9 => h9) rfl dX3_skipBlanks_8 ?_
  refine lv_icmp_ge (tgt := 43) hx hb dX3_skipBlanks_11 (by decide) (fun c_1 => ?_) (fun c_1 => ?_)
  ·
    replace hF := ip c_1 hF
    cases hF
    exact hE c_at rfl H locs ls (hP.sub [0, 1, 2] rfl) (hD.sub [0, 1, 2] (by decide) rfl) hS (lv_sub hl [] rfl)
  ·
    replace hF := inn c_1 hF
    refine lv_aload_n hx hb dX3_skipBlanks_14 rfl (lv_at hl 0 rfl) ?_
    refine gt_X3_0 (v := .ref a_tape) hx hb hts i_f_X3_skipBlanks_X3 hown hK hP 0 rfl (hts (.fieldLink RX3 43 "HushWatch$Reader" "tape" "LHushWatch$Tape;") (List.mem_of_getElem? (i := 2) rfl)) rfl dX3_skipBlanks_15 ?_
    refine lv_aload_n hx hb dX3_skipBlanks_18 rfl (lv_at hl 0 rfl) ?_
    refine gt_X3_7 (v := .int c_at) hx hb hts i_f_X3_skipBlanks_X3 hown hK hP 0 rfl (hts (.fieldLink RX3 31 "HushWatch$Reader" "at" "I") (List.mem_of_getElem? (i := 1) rfl)) rfl dX3_skipBlanks_19 ?_
    replace hF := bd1_s hF
    obtain ⟨r_2, hc_3, hF⟩ := hF
    have hPc : va_P E.1 vwCl (w_X6_signAt E a_tape a_tape_bytes c_tape_length c_tape_bytes) H := hP.sub (ws' := [(a_tape, .inr (7, [.ref a_tape_bytes, .int c_tape_length])), (a_tape_bytes, .inl (E.2.2.1, 320, .inl c_tape_bytes))]) [1, 2] rfl
    have hrc := va_recv hK hPc (ci := 7) (q0 := 0) rfl rfl
    refine pE_i (va_runV (As := [.int c_at]) (rest := [])  ⟨hx, hb, hml, hown, hts⟩ (f_X6_signAt l E (a_ := a_tape) (a_bytes := a_tape_bytes) (p1 := c_at) (c_length := c_tape_length) (c_bytes := c_tape_bytes) hc_3) (cwV 1 hts g_f_X3_skipBlanks_f_X6_signAt_143 rfl rfl rfl hd_X6_signAt ⟨Nat.le_of_ble_eq_true rfl, Nat.le_of_ble_eq_true rfl⟩) ⟨pP.blind, hrc, (pP.pre ⟨hK, hN⟩ hPc)⟩ rfl rfl hl.1 rfl (lv_room (Nat.le_of_ble_eq_true rfl)) dX3_skipBlanks_22 ⟨Nat.le_of_ble_eq_true rfl, Nat.le_of_ble_eq_true rfl⟩) ?_
    refine lv_bipush (v := 32) hx hb dX3_skipBlanks_25 (by decide) ?_
    refine lv_icmp_ne (tgt := 43) hx hb dX3_skipBlanks_27 (by decide) (fun c_4 => ?_) (fun c_4 => ?_)
    ·
      replace hF := inn c_4 hF
      cases hF
      exact hE c_at rfl H locs ls (hP.sub [0, 1, 2] rfl) (hD.sub [0, 1, 2] (by decide) rfl) hS (lv_sub hl [] rfl)
    ·
      replace hF := ip c_4 hF
      refine lv_aload_n hx hb dX3_skipBlanks_30 rfl (lv_at hl 0 rfl) ?_
      refine lv_dup hx hb dX3_skipBlanks_31 rfl ?_
      refine gt_X3_7 (v := .int c_at) hx hb hts i_f_X3_skipBlanks_X3 hown hK hP 0 rfl (hts (.fieldLink RX3 31 "HushWatch$Reader" "at" "I") (List.mem_of_getElem? (i := 1) rfl)) rfl dX3_skipBlanks_32 ?_
      refine lv_iconst (v := 1) hx hb dX3_skipBlanks_35 (by decide) ?_
      refine lv_iadd hx hb dX3_skipBlanks_36 ?_
      refine pt_X3_7 (v := .int (c_at + (1 : Int32))) hx hb hts i_f_X3_skipBlanks_X3 hown hK hP hD hS 0 rfl (hts (.fieldLink RX3 31 "HushWatch$Reader" "at" "I") (List.mem_of_getElem? (i := 1) rfl)) rfl rfl (Nat.le_of_ble_eq_true rfl) dX3_skipBlanks_37 (fun H locs hP hD hS => ?_)
      replace hP : va_P E.1 vwCl [(a_, .inr (4, [.ref a_tape, .ref a_rules, .ref a_places, .ref a_steps, .int c_siteCount, .int c_stepCount, .int c_seenRules, .int (c_at + (1 : Int32)), .int c_wordStart, .int c_number, .int c_failed])), (a_tape, .inr (7, [.ref a_tape_bytes, .int c_tape_length])), (a_tape_bytes, .inl (E.2.2.1, 320, .inl c_tape_bytes))] H := hP
      replace hD : va_D A [(a_, .inr (4, [.ref a_tape, .ref a_rules, .ref a_places, .ref a_steps, .int c_siteCount, .int c_stepCount, .int c_seenRules, .int (c_at + (1 : Int32)), .int c_wordStart, .int c_number, .int c_failed])), (a_tape, .inr (7, [.ref a_tape_bytes, .int c_tape_length])), (a_tape_bytes, .inl (E.2.2.1, 320, .inl c_tape_bytes))] := hD
      refine lv_goto (tgt := 0) hx hb dX3_skipBlanks_40 (by decide) ?_
      cases hF
      exact hC (c_at + (1 : Int32)) rfl H locs ls (hP.sub [0, 1, 2] rfl) (hD.sub [0, 1, 2] (by decide) rfl) hS (lv_sub hl [0] rfl)

set_option maxHeartbeats 4000000 in
set_option maxRecDepth 100000 in
theorem lw_X3_skipBlanks_0 {p : Program} (l : Launch) {e : Env} {s : State} {m : MethodId} {below : List Frame} {meth : Method} {c : Code} {Q : State → Prop} (E : EE) (K : Nat) {a_ a_tape a_rules a_places a_steps a_tape_bytes : Nat} {c_siteCount : Int32} {c_stepCount : Int32} {c_seenRules : Int32} {c_wordStart : Int32} {c_number : Int32} {c_failed : Int32} {c_tape_length : Int32} {c_tape_bytes : Nat → Int32} (hx : p.tables.exec = Jvm.exec) (hb : c.code = cX3_skipBlanks) (hml : c.maxLocals = 1) (hown : s.vm.findClass RX3 = some m.cls) (hts : ∀ w ∈ v_f_X3_skipBlanks, w.before #[Value.ref a_] s = true) (hK : va_K E.1 vwCl (TY E) s) (hN : NX s) {A : Nat → Prop} (hA : ∀ q : Nat, s.heap.size ≤ q → A q) (j9 : Nat) (c_at : Int32) (c_at' : Int32) (hL : lpF (fun u9 : Int32 => B_X3_skipBlanks_0 c_tape_length c_tape_bytes u9) j9 c_at = some c_at') (hX : (∀ (H : Heap) (locs : List Loc) (ls : Array Slot), va_P E.1 vwCl (w_X3_skipBlanks E a_ a_tape a_rules a_places a_steps a_tape_bytes c_siteCount c_stepCount c_seenRules c_at' c_wordStart c_number c_failed c_tape_length c_tape_bytes) H → va_D A (w_X3_skipBlanks E a_ a_tape a_rules a_places a_steps a_tape_bytes c_siteCount c_stepCount c_seenRules c_at' c_wordStart c_number c_failed c_tape_length c_tape_bytes) → va_S A s.heap H locs → lv_has ls 1 [] → W p l e ({ frames := 1, cells := 0, slots := 0, locals := 21 } : Room) s m #[Value.ref a_] below meth c H locs 0 0 Q (F0 m 43 ls []))) : ∀ (H : Heap) (locs : List Loc) (ls : Array Slot), va_P E.1 vwCl (w_X3_skipBlanks E a_ a_tape a_rules a_places a_steps a_tape_bytes c_siteCount c_stepCount c_seenRules c_at c_wordStart c_number c_failed c_tape_length c_tape_bytes) H → va_D A (w_X3_skipBlanks E a_ a_tape a_rules a_places a_steps a_tape_bytes c_siteCount c_stepCount c_seenRules c_at c_wordStart c_number c_failed c_tape_length c_tape_bytes) → va_S A s.heap H locs → lv_has ls 1 [(0, .ref a_)] → W p l e ({ frames := 1, cells := 0, slots := 0, locals := 21 } : Room) s m #[Value.ref a_] below meth c H locs 0 0 Q (F0 m 0 ls []) := by
  exact lp_rule (P := (fun u9 : Int32 => ∀ (H : Heap) (locs : List Loc) (ls : Array Slot), va_P E.1 vwCl (w_X3_skipBlanks E a_ a_tape a_rules a_places a_steps a_tape_bytes c_siteCount c_stepCount c_seenRules u9 c_wordStart c_number c_failed c_tape_length c_tape_bytes) H → va_D A (w_X3_skipBlanks E a_ a_tape a_rules a_places a_steps a_tape_bytes c_siteCount c_stepCount c_seenRules u9 c_wordStart c_number c_failed c_tape_length c_tape_bytes) → va_S A s.heap H locs → lv_has ls 1 [(0, .ref a_)] → W p l e ({ frames := 1, cells := 0, slots := 0, locals := 21 } : Room) s m #[Value.ref a_] below meth c H locs 0 0 Q (F0 m 0 ls []))) (R := (fun r9 : Int32 => (∀ (H : Heap) (locs : List Loc) (ls : Array Slot), va_P E.1 vwCl (w_X3_skipBlanks E a_ a_tape a_rules a_places a_steps a_tape_bytes c_siteCount c_stepCount c_seenRules r9 c_wordStart c_number c_failed c_tape_length c_tape_bytes) H → va_D A (w_X3_skipBlanks E a_ a_tape a_rules a_places a_steps a_tape_bytes c_siteCount c_stepCount c_seenRules r9 c_wordStart c_number c_failed c_tape_length c_tape_bytes) → va_S A s.heap H locs → lv_has ls 1 [] → W p l e ({ frames := 1, cells := 0, slots := 0, locals := 21 } : Room) s m #[Value.ref a_] below meth c H locs 0 0 Q (F0 m 43 ls [])))) (fun u9 xx hF hC hE => wb_X3_skipBlanks_0 l E K (c_siteCount := c_siteCount) (c_stepCount := c_stepCount) (c_seenRules := c_seenRules) (c_wordStart := c_wordStart) (c_number := c_number) (c_failed := c_failed) (c_tape_length := c_tape_length) (c_tape_bytes := c_tape_bytes) (c_at := u9) hx hb hml hown hts hK hN hA (fun c_at q9 => hC _ q9) (fun c_at q9 => hE _ q9) hF) j9 c_at c_at' hL hX

set_option maxHeartbeats 4000000 in
set_option maxRecDepth 100000 in
theorem f_X3_skipBlanks (l : Launch) (E : EE) (sz : Nat) (K : Nat) {a_ a_tape a_rules a_places a_steps a_tape_bytes : Nat} {c_siteCount : Int32} {c_stepCount : Int32} {c_seenRules : Int32} {c_at : Int32} {c_wordStart : Int32} {c_number : Int32} {c_failed : Int32} {c_tape_length : Int32} {c_tape_bytes : Nat → Int32} {n_at : Int32} (hF : F_X3_skipBlanks K c_tape_bytes c_tape_length c_at = some n_at) : Met l yX3_skipBlanks v_f_X3_skipBlanks (({ frames := 1, cells := 0, slots := 0, locals := 21 } : Room)) (va_Pc [.ref a_] (pW E sz (w_X3_skipBlanks E a_ a_tape a_rules a_places a_steps a_tape_bytes c_siteCount c_stepCount c_seenRules c_at c_wordStart c_number c_failed c_tape_length c_tape_bytes))) (va_Qv (fun (_u : Unit) => True) (fun (_u : Unit) tt => va_P E.1 vwCl (w_X3_skipBlanks E a_ a_tape a_rules a_places a_steps a_tape_bytes c_siteCount c_stepCount c_seenRules n_at c_wordStart c_number c_failed c_tape_length c_tape_bytes) tt.heap ∧ va_D (va_A (w_X3_skipBlanks E a_ a_tape a_rules a_places a_steps a_tape_bytes c_siteCount c_stepCount c_seenRules c_at c_wordStart c_number c_failed c_tape_length c_tape_bytes) sz) (w_X3_skipBlanks E a_ a_tape a_rules a_places a_steps a_tape_bytes c_siteCount c_stepCount c_seenRules n_at c_wordStart c_number c_failed c_tape_length c_tape_bytes)) (va_A (w_X3_skipBlanks E a_ a_tape a_rules a_places a_steps a_tape_bytes c_siteCount c_stepCount c_seenRules c_at c_wordStart c_number c_failed c_tape_length c_tape_bytes) sz)) 0 0 (va_A (w_X3_skipBlanks E a_ a_tape a_rules a_places a_steps a_tape_bytes c_siteCount c_stepCount c_seenRules c_at c_wordStart c_number c_failed c_tape_length c_tape_bytes) sz) := by
  refine Met.ofW (cc := cX3_skipBlanks) (maxL := 1) (ret := none) (by decide) rfl ?_
  intro p e s m args below meth c s₁ B hml hv
  obtain ⟨rfl, hsz, ⟨hK, hN⟩, hP, hD0⟩ := hv
  have hx := B.exec
  have hb := B.bytes
  have hr := B.returns
  have hts := atoms_spec (ws := v_f_X3_skipBlanks) B.pre
  have hown : s.vm.findClass RX3 = some m.cls := own_of hd_X3_skipBlanks.1 (findClass_of_methodNamed B.named)
  have hlocks : meth.locks = false := B.notSynchronized
  subst hsz
  have hD := hD0.self (sz := s.heap.size)
  generalize hAe : va_A (w_X3_skipBlanks E a_ a_tape a_rules a_places a_steps a_tape_bytes c_siteCount c_stepCount c_seenRules c_at c_wordStart c_number c_failed c_tape_length c_tape_bytes) s.heap.size = A at hD ⊢
  have hA : ∀ q : Nat, s.heap.size ≤ q → A q := fun q h => by rw [← hAe]; exact Or.inr h
  have hS : va_S A s.heap s.heap [] := va_S.rf
  have hl := lv_entry ([.ref a_]) (n := 1) (Nat.le_of_ble_eq_true rfl)
  rw [lg_entry_eq]
  generalize (lg_sl ([.ref a_]) ++ List.replicate (1 - (lg_sl ([.ref a_])).length) Slot.unset).toArray = ls at hl ⊢
  have hl : lv_has ls 1 [(0, .ref a_)] := hl
  obtain ⟨Q, hQ⟩ : ∃ Q : State → Prop, Q = MQ below (va_Qv (fun (_u : Unit) => True) (fun (_u : Unit) tt => va_P E.1 vwCl (w_X3_skipBlanks E a_ a_tape a_rules a_places a_steps a_tape_bytes c_siteCount c_stepCount c_seenRules n_at c_wordStart c_number c_failed c_tape_length c_tape_bytes) tt.heap ∧ va_D A (w_X3_skipBlanks E a_ a_tape a_rules a_places a_steps a_tape_bytes c_siteCount c_stepCount c_seenRules n_at c_wordStart c_number c_failed c_tape_length c_tape_bytes)) A) #[Value.ref a_] s 0 0 A := ⟨_, rfl⟩
  rw [← hQ]
  change W p l e ({ frames := 1, cells := 0, slots := 0, locals := 21 } : Room) s m #[Value.ref a_] below meth c s.heap [] 0 0 Q (F0 m 0 ls [])
  suffices hh9 : ∀ (H : Heap) (locs : List Loc), va_P E.1 vwCl (w_X3_skipBlanks E a_ a_tape a_rules a_places a_steps a_tape_bytes c_siteCount c_stepCount c_seenRules c_at c_wordStart c_number c_failed c_tape_length c_tape_bytes) H → va_D A (w_X3_skipBlanks E a_ a_tape a_rules a_places a_steps a_tape_bytes c_siteCount c_stepCount c_seenRules c_at c_wordStart c_number c_failed c_tape_length c_tape_bytes) → va_S A s.heap H locs → W p l e ({ frames := 1, cells := 0, slots := 0, locals := 21 } : Room) s m #[Value.ref a_] below meth c H locs 0 0 Q (F0 m 0 ls []) from hh9 s.heap [] hP hD hS
  clear hP hD hS
  intro H locs hP hD hS
  replace hP : va_P E.1 vwCl [(a_, .inr (4, [.ref a_tape, .ref a_rules, .ref a_places, .ref a_steps, .int c_siteCount, .int c_stepCount, .int c_seenRules, .int c_at, .int c_wordStart, .int c_number, .int c_failed])), (a_tape, .inr (7, [.ref a_tape_bytes, .int c_tape_length])), (a_tape_bytes, .inl (E.2.2.1, 320, .inl c_tape_bytes))] H := hP
  replace hD : va_D A [(a_, .inr (4, [.ref a_tape, .ref a_rules, .ref a_places, .ref a_steps, .int c_siteCount, .int c_stepCount, .int c_seenRules, .int c_at, .int c_wordStart, .int c_number, .int c_failed])), (a_tape, .inr (7, [.ref a_tape_bytes, .int c_tape_length])), (a_tape_bytes, .inl (E.2.2.1, 320, .inl c_tape_bytes))] := hD
  unfold F_X3_skipBlanks at hF
  replace hF := bd1_s hF
  obtain ⟨c_at_5, hL_6, hF⟩ := hF
  refine lw_X3_skipBlanks_0 l E K (c_siteCount := c_siteCount) (c_stepCount := c_stepCount) (c_seenRules := c_seenRules) (c_wordStart := c_wordStart) (c_number := c_number) (c_failed := c_failed) (c_tape_length := c_tape_length) (c_tape_bytes := c_tape_bytes) hx hb hml hown hts hK hN hA K c_at c_at_5 hL_6 ?_ H locs ls (hP.sub [0, 1, 2] rfl) (hD.sub [0, 1, 2] (by decide) rfl) hS (lv_sub hl [0] rfl)
  ·
    intro H locs ls hP hD hS hl
    replace hP : va_P E.1 vwCl [(a_, .inr (4, [.ref a_tape, .ref a_rules, .ref a_places, .ref a_steps, .int c_siteCount, .int c_stepCount, .int c_seenRules, .int c_at_5, .int c_wordStart, .int c_number, .int c_failed])), (a_tape, .inr (7, [.ref a_tape_bytes, .int c_tape_length])), (a_tape_bytes, .inl (E.2.2.1, 320, .inl c_tape_bytes))] H := hP
    replace hD : va_D A [(a_, .inr (4, [.ref a_tape, .ref a_rules, .ref a_places, .ref a_steps, .int c_siteCount, .int c_stepCount, .int c_seenRules, .int c_at_5, .int c_wordStart, .int c_number, .int c_failed])), (a_tape, .inr (7, [.ref a_tape_bytes, .int c_tape_length])), (a_tape_bytes, .inl (E.2.2.1, 320, .inl c_tape_bytes))] := hD
    rw [hQ]
    have h9 := fin9 (P := fun u9 : Int32 => va_P E.1 vwCl (w_X3_skipBlanks E a_ a_tape a_rules a_places a_steps a_tape_bytes c_siteCount c_stepCount c_seenRules u9 c_wordStart c_number c_failed c_tape_length c_tape_bytes) H ∧ va_D A (w_X3_skipBlanks E a_ a_tape a_rules a_places a_steps a_tape_bytes c_siteCount c_stepCount c_seenRules u9 c_wordStart c_number c_failed c_tape_length c_tape_bytes)) hF ⟨hP, hD⟩
    obtain ⟨hP9, hD9⟩ := h9
    exact W.vret hx hb hr (fun tt ht hW => ⟨⟨(), rfl, trivial, ht ▸ hP9, hD9⟩, hS.F ht⟩) hS.2.2 dX3_skipBlanks_43

def F_X3_isAtEnd (K : Nat) (c_tape_bytes : Nat → Int32) (c_tape_length : Int32) (c_at : Int32) : Option (Int32 × Int32) :=
  bd1 (F_X3_skipBlanks K c_tape_bytes c_tape_length c_at) (fun w_1 => if w_1 < c_tape_length then some ((0 : Int32), w_1) else some ((1 : Int32), w_1))
abbrev w_X3_isAtEnd (E : EE) (a_ a_tape a_rules a_places a_steps a_tape_bytes : Nat) (c_siteCount : Int32) (c_stepCount : Int32) (c_seenRules : Int32) (c_at : Int32) (c_wordStart : Int32) (c_number : Int32) (c_failed : Int32) (c_tape_length : Int32) (c_tape_bytes : Nat → Int32) : va_W := [(a_, .inr (4, [.ref a_tape, .ref a_rules, .ref a_places, .ref a_steps, .int c_siteCount, .int c_stepCount, .int c_seenRules, .int c_at, .int c_wordStart, .int c_number, .int c_failed])), (a_tape, .inr (7, [.ref a_tape_bytes, .int c_tape_length])), (a_tape_bytes, .inl (E.2.2.1, 320, .inl c_tape_bytes))]
def v_f_X3_isAtEnd : List Cond := .code yX3_isAtEnd cX3_isAtEnd 1 (some .boolean) :: ([.fieldLink RX3 31 "HushWatch$Reader" "at" "I", .fieldLink RX3 43 "HushWatch$Reader" "tape" "LHushWatch$Tape;", .methodLink RX3 140 yX3_skipBlanks, .instanceMethod yX3_skipBlanks, .selects RX3 yX3_skipBlanks yX3_skipBlanks, .initialized RX3] ++ (v_f_X3_skipBlanks ++ (wsX30 ++ (wsX60 ++ ([])))))
theorem gw_f_X3_isAtEnd : v_f_X3_isAtEnd.all goodWord = true := by decide +kernel
theorem i_f_X3_isAtEnd_X3 : ∀ w ∈ wsX30, w ∈ v_f_X3_isAtEnd := fun _ h => List.mem_cons_of_mem _ (List.mem_append_right _ (List.mem_append_right _ (List.mem_append_left _ h)))
theorem i_f_X3_isAtEnd_X6 : ∀ w ∈ wsX60, w ∈ v_f_X3_isAtEnd := fun _ h => List.mem_cons_of_mem _ (List.mem_append_right _ (List.mem_append_right _ (List.mem_append_right _ (List.mem_append_left _ h))))
theorem g_f_X3_isAtEnd_f_X3_skipBlanks_140 : GoodIn v_f_X3_isAtEnd (wsV RX3 140 RX3 yX3_skipBlanks v_f_X3_skipBlanks) := goodIn_app (goodIn_of _ (by decide +kernel)) (goodIn_sub (fun _ h => List.mem_cons_of_mem _ (List.mem_append_right _ (List.mem_append_left _ h))) gw_f_X3_skipBlanks)
theorem hd_X3_isAtEnd : yX3_isAtEnd.cls = RX3 ∧ yX3_isAtEnd.cls ≠ "java/lang/invoke/MethodHandle" ∧ yX3_isAtEnd.cls ≠ "java/lang/invoke/VarHandle" ∧ (parseMethodDescriptor yX3_isAtEnd.desc).map (fun d => d.parameters.length) = some 0 := by decide +kernel
set_option maxHeartbeats 4000000 in
set_option maxRecDepth 100000 in
theorem f_X3_isAtEnd (l : Launch) (E : EE) (sz : Nat) (K : Nat) {a_ a_tape a_rules a_places a_steps a_tape_bytes : Nat} {c_siteCount : Int32} {c_stepCount : Int32} {c_seenRules : Int32} {c_at : Int32} {c_wordStart : Int32} {c_number : Int32} {c_failed : Int32} {c_tape_length : Int32} {c_tape_bytes : Nat → Int32} {rr : Int32} {n_at : Int32} (hF : F_X3_isAtEnd K c_tape_bytes c_tape_length c_at = some (rr, n_at)) : Met l yX3_isAtEnd v_f_X3_isAtEnd (({ frames := 2, cells := 0, slots := 0, locals := 41 } : Room)) (va_Pc [.ref a_] (pW E sz (w_X3_isAtEnd E a_ a_tape a_rules a_places a_steps a_tape_bytes c_siteCount c_stepCount c_seenRules c_at c_wordStart c_number c_failed c_tape_length c_tape_bytes))) (va_Qi (fun (q : Int32) (_u : Unit) => q = rr ∧ (q = 0 ∨ q = 1)) (fun (_u : Unit) tt => va_P E.1 vwCl (w_X3_isAtEnd E a_ a_tape a_rules a_places a_steps a_tape_bytes c_siteCount c_stepCount c_seenRules n_at c_wordStart c_number c_failed c_tape_length c_tape_bytes) tt.heap ∧ va_D (va_A (w_X3_isAtEnd E a_ a_tape a_rules a_places a_steps a_tape_bytes c_siteCount c_stepCount c_seenRules c_at c_wordStart c_number c_failed c_tape_length c_tape_bytes) sz) (w_X3_isAtEnd E a_ a_tape a_rules a_places a_steps a_tape_bytes c_siteCount c_stepCount c_seenRules n_at c_wordStart c_number c_failed c_tape_length c_tape_bytes)) (va_A (w_X3_isAtEnd E a_ a_tape a_rules a_places a_steps a_tape_bytes c_siteCount c_stepCount c_seenRules c_at c_wordStart c_number c_failed c_tape_length c_tape_bytes) sz)) 0 0 (va_A (w_X3_isAtEnd E a_ a_tape a_rules a_places a_steps a_tape_bytes c_siteCount c_stepCount c_seenRules c_at c_wordStart c_number c_failed c_tape_length c_tape_bytes) sz) := by
  refine Met.ofW (cc := cX3_isAtEnd) (maxL := 1) (ret := (some .boolean)) (by decide) rfl ?_
  intro p e s m args below meth c s₁ B hml hv
  obtain ⟨rfl, hsz, ⟨hK, hN⟩, hP, hD0⟩ := hv
  have hx := B.exec
  have hb := B.bytes
  have hr := B.returns
  have hts := atoms_spec (ws := v_f_X3_isAtEnd) B.pre
  have hown : s.vm.findClass RX3 = some m.cls := own_of hd_X3_isAtEnd.1 (findClass_of_methodNamed B.named)
  have hlocks : meth.locks = false := B.notSynchronized
  subst hsz
  have hD := hD0.self (sz := s.heap.size)
  generalize hAe : va_A (w_X3_isAtEnd E a_ a_tape a_rules a_places a_steps a_tape_bytes c_siteCount c_stepCount c_seenRules c_at c_wordStart c_number c_failed c_tape_length c_tape_bytes) s.heap.size = A at hD ⊢
  have hA : ∀ q : Nat, s.heap.size ≤ q → A q := fun q h => by rw [← hAe]; exact Or.inr h
  have hS : va_S A s.heap s.heap [] := va_S.rf
  have hl := lv_entry ([.ref a_]) (n := 1) (Nat.le_of_ble_eq_true rfl)
  rw [lg_entry_eq]
  generalize (lg_sl ([.ref a_]) ++ List.replicate (1 - (lg_sl ([.ref a_])).length) Slot.unset).toArray = ls at hl ⊢
  have hl : lv_has ls 1 [(0, .ref a_)] := hl
  obtain ⟨Q, hQ⟩ : ∃ Q : State → Prop, Q = MQ below (va_Qi (fun (q : Int32) (_u : Unit) => q = rr ∧ (q = 0 ∨ q = 1)) (fun (_u : Unit) tt => va_P E.1 vwCl (w_X3_isAtEnd E a_ a_tape a_rules a_places a_steps a_tape_bytes c_siteCount c_stepCount c_seenRules n_at c_wordStart c_number c_failed c_tape_length c_tape_bytes) tt.heap ∧ va_D A (w_X3_isAtEnd E a_ a_tape a_rules a_places a_steps a_tape_bytes c_siteCount c_stepCount c_seenRules n_at c_wordStart c_number c_failed c_tape_length c_tape_bytes)) A) #[Value.ref a_] s 0 0 A := ⟨_, rfl⟩
  rw [← hQ]
  change W p l e ({ frames := 2, cells := 0, slots := 0, locals := 41 } : Room) s m #[Value.ref a_] below meth c s.heap [] 0 0 Q (F0 m 0 ls [])
  suffices hh9 : ∀ (H : Heap) (locs : List Loc), va_P E.1 vwCl (w_X3_isAtEnd E a_ a_tape a_rules a_places a_steps a_tape_bytes c_siteCount c_stepCount c_seenRules c_at c_wordStart c_number c_failed c_tape_length c_tape_bytes) H → va_D A (w_X3_isAtEnd E a_ a_tape a_rules a_places a_steps a_tape_bytes c_siteCount c_stepCount c_seenRules c_at c_wordStart c_number c_failed c_tape_length c_tape_bytes) → va_S A s.heap H locs → W p l e ({ frames := 2, cells := 0, slots := 0, locals := 41 } : Room) s m #[Value.ref a_] below meth c H locs 0 0 Q (F0 m 0 ls []) from hh9 s.heap [] hP hD hS
  clear hP hD hS
  intro H locs hP hD hS
  replace hP : va_P E.1 vwCl [(a_, .inr (4, [.ref a_tape, .ref a_rules, .ref a_places, .ref a_steps, .int c_siteCount, .int c_stepCount, .int c_seenRules, .int c_at, .int c_wordStart, .int c_number, .int c_failed])), (a_tape, .inr (7, [.ref a_tape_bytes, .int c_tape_length])), (a_tape_bytes, .inl (E.2.2.1, 320, .inl c_tape_bytes))] H := hP
  replace hD : va_D A [(a_, .inr (4, [.ref a_tape, .ref a_rules, .ref a_places, .ref a_steps, .int c_siteCount, .int c_stepCount, .int c_seenRules, .int c_at, .int c_wordStart, .int c_number, .int c_failed])), (a_tape, .inr (7, [.ref a_tape_bytes, .int c_tape_length])), (a_tape_bytes, .inl (E.2.2.1, 320, .inl c_tape_bytes))] := hD
  unfold F_X3_isAtEnd at hF
  refine lv_aload_n hx hb dX3_isAtEnd_0 rfl (lv_at hl 0 rfl) ?_
  replace hF := bd1_s hF
  obtain ⟨w_1, hc_2, hF⟩ := hF
  obtain ⟨hPc, hDc, hFc⟩ := wcut (wc := (w_X3_skipBlanks E a_ a_tape a_rules a_places a_steps a_tape_bytes c_siteCount c_stepCount c_seenRules c_at c_wordStart c_number c_failed c_tape_length c_tape_bytes)) hP hD hS hA [0, 1, 2] (by decide) rfl
  have hrc := va_recv hK hPc (ci := 4) (q0 := 0) rfl rfl
  refine cE_v (wc := (w_X3_skipBlanks E a_ a_tape a_rules a_places a_steps a_tape_bytes c_siteCount c_stepCount c_seenRules c_at c_wordStart c_number c_failed c_tape_length c_tape_bytes)) (wr := []) (w1 := (w_X3_skipBlanks E a_ a_tape a_rules a_places a_steps a_tape_bytes c_siteCount c_stepCount c_seenRules w_1 c_wordStart c_number c_failed c_tape_length c_tape_bytes)) (va_runV (As := []) (rest := [])  ⟨hx, hb, hml, hown, hts⟩ (f_X3_skipBlanks l E H.size K (a_ := a_) (a_tape := a_tape) (a_rules := a_rules) (a_places := a_places) (a_steps := a_steps) (a_tape_bytes := a_tape_bytes) (c_siteCount := c_siteCount) (c_stepCount := c_stepCount) (c_seenRules := c_seenRules) (c_at := c_at) (c_wordStart := c_wordStart) (c_number := c_number) (c_failed := c_failed) (c_tape_length := c_tape_length) (c_tape_bytes := c_tape_bytes) hc_2) (cwV 0 hts g_f_X3_isAtEnd_f_X3_skipBlanks_140 rfl rfl rfl hd_X3_skipBlanks ⟨Nat.le_of_ble_eq_true rfl, Nat.le_of_ble_eq_true rfl⟩) ⟨pW.blind, hrc, (pW.pre ⟨hK, hN⟩ hPc hDc)⟩ rfl rfl hl.1 rfl (lv_room (Nat.le_of_ble_eq_true rfl)) dX3_isAtEnd_1 ⟨Nat.le_of_ble_eq_true rfl, Nat.le_of_ble_eq_true rfl⟩) hS hFc hP hD [0, 1, 2] [] rfl rfl (by decide) (by decide) (fun H locs hP hD hS => ?_)
  replace hP : va_P E.1 vwCl [(a_, .inr (4, [.ref a_tape, .ref a_rules, .ref a_places, .ref a_steps, .int c_siteCount, .int c_stepCount, .int c_seenRules, .int w_1, .int c_wordStart, .int c_number, .int c_failed])), (a_tape, .inr (7, [.ref a_tape_bytes, .int c_tape_length])), (a_tape_bytes, .inl (E.2.2.1, 320, .inl c_tape_bytes))] H := hP
  replace hD : va_D A [(a_, .inr (4, [.ref a_tape, .ref a_rules, .ref a_places, .ref a_steps, .int c_siteCount, .int c_stepCount, .int c_seenRules, .int w_1, .int c_wordStart, .int c_number, .int c_failed])), (a_tape, .inr (7, [.ref a_tape_bytes, .int c_tape_length])), (a_tape_bytes, .inl (E.2.2.1, 320, .inl c_tape_bytes))] := hD
  refine lv_aload_n hx hb dX3_isAtEnd_4 rfl (lv_at hl 0 rfl) ?_
  refine gt_X3_7 (v := .int w_1) hx hb hts i_f_X3_isAtEnd_X3 hown hK hP 0 rfl (hts (.fieldLink RX3 31 "HushWatch$Reader" "at" "I") (List.mem_of_getElem? (i := 1) rfl)) rfl dX3_isAtEnd_5 ?_
  refine lv_aload_n hx hb dX3_isAtEnd_8 rfl (lv_at hl 0 rfl) ?_
  refine gt_X3_0 (v := .ref a_tape) hx hb hts i_f_X3_isAtEnd_X3 hown hK hP 0 rfl (hts (.fieldLink RX3 43 "HushWatch$Reader" "tape" "LHushWatch$Tape;") (List.mem_of_getElem? (i := 2) rfl)) rfl dX3_isAtEnd_9 ?_
  refine va_getN (D := E.1) (ci := 7) (v := .int c_tape_length) (C := RX6) (T := TX6) (N := 2) hx hb hts i_f_X3_isAtEnd_X6 hown hK hP 1 rfl rfl 1 (by decide) (nx hN 2 rfl) (fun _ h9 => h9) rfl dX3_isAtEnd_12 ?_
  refine lv_icmp_lt (tgt := 22) hx hb dX3_isAtEnd_15 (by decide) (fun c_3 => ?_) (fun c_3 => ?_)
  ·
    replace hF := ip c_3 hF
    refine lv_iconst (v := 0) hx hb dX3_isAtEnd_22 (by decide) ?_
    rw [hQ]
    have h9 := fin9 (P := fun u9 : Int32 × Int32 => (0 : Int32) = u9.1 ∧ va_P E.1 vwCl (w_X3_isAtEnd E a_ a_tape a_rules a_places a_steps a_tape_bytes c_siteCount c_stepCount c_seenRules u9.2 c_wordStart c_number c_failed c_tape_length c_tape_bytes) H ∧ va_D A (w_X3_isAtEnd E a_ a_tape a_rules a_places a_steps a_tape_bytes c_siteCount c_stepCount c_seenRules u9.2 c_wordStart c_number c_failed c_tape_length c_tape_bytes)) hF ⟨rfl, hP, hD⟩
    obtain ⟨e9_0, hP9, hD9⟩ := h9
    exact W.zret (v := (0 : Int32)) hx hb hr rfl (fun tt ht hW => ⟨⟨_, (), rfl, ⟨e9_0, Or.inl rfl⟩, ht ▸ hP9, hD9⟩, hS.F ht⟩) hS.2.2 dX3_isAtEnd_23
  ·
    replace hF := inn c_3 hF
    refine lv_iconst (v := 1) hx hb dX3_isAtEnd_18 (by decide) ?_
    refine lv_goto (tgt := 23) hx hb dX3_isAtEnd_19 (by decide) ?_
    rw [hQ]
    have h9 := fin9 (P := fun u9 : Int32 × Int32 => (1 : Int32) = u9.1 ∧ va_P E.1 vwCl (w_X3_isAtEnd E a_ a_tape a_rules a_places a_steps a_tape_bytes c_siteCount c_stepCount c_seenRules u9.2 c_wordStart c_number c_failed c_tape_length c_tape_bytes) H ∧ va_D A (w_X3_isAtEnd E a_ a_tape a_rules a_places a_steps a_tape_bytes c_siteCount c_stepCount c_seenRules u9.2 c_wordStart c_number c_failed c_tape_length c_tape_bytes)) hF ⟨rfl, hP, hD⟩
    obtain ⟨e9_0, hP9, hD9⟩ := h9
    exact W.zret (v := (1 : Int32)) hx hb hr rfl (fun tt ht hW => ⟨⟨_, (), rfl, ⟨e9_0, Or.inr rfl⟩, ht ▸ hP9, hD9⟩, hS.F ht⟩) hS.2.2 dX3_isAtEnd_23

def F_X3_isDigit (p0 : Int32) : Option (Int32) :=
  if p0 < (48 : Int32) then some (0 : Int32) else if (57 : Int32) < p0 then some (0 : Int32) else some (1 : Int32)

def v_f_X3_isDigit : List Cond := .code yX3_isDigit cX3_isDigit 1 (some .boolean) :: ([] ++ ([]))
theorem gw_f_X3_isDigit : v_f_X3_isDigit.all goodWord = true := by decide +kernel
theorem hd_X3_isDigit : yX3_isDigit.cls = RX3 ∧ yX3_isDigit.cls ≠ "java/lang/invoke/MethodHandle" ∧ yX3_isDigit.cls ≠ "java/lang/invoke/VarHandle" ∧ (parseMethodDescriptor yX3_isDigit.desc).map (fun d => d.parameters.length) = some 1 := by decide +kernel
set_option maxHeartbeats 4000000 in
set_option maxRecDepth 100000 in
theorem f_X3_isDigit (l : Launch) (E : EE) {p0 : Int32} {rr : Int32} (hF : F_X3_isDigit p0 = some rr) : Met l yX3_isDigit v_f_X3_isDigit (({ frames := 0, cells := 0, slots := 0, locals := 0 } : Room)) (va_Pc [.int p0] (pP E [])) (vp_Si (fun q : Int32 => q = rr ∧ (q = 0 ∨ q = 1))) 0 0 (fun _ => False) := by
  refine Met.ofW (cc := cX3_isDigit) (maxL := 1) (ret := (some .boolean)) (by decide) rfl ?_
  intro p e s m args below meth c s₁ B hml hv
  obtain ⟨rfl, ⟨hK, hN⟩, hP⟩ := hv
  have hx := B.exec
  have hb := B.bytes
  have hr := B.returns
  have hts := atoms_spec (ws := v_f_X3_isDigit) B.pre
  have hown : s.vm.findClass RX3 = some m.cls := own_of hd_X3_isDigit.1 (findClass_of_methodNamed B.named)
  have hlocks : meth.locks = false := B.notSynchronized
  replace hP : va_P E.1 vwCl [] s.heap := hP
  have hl := lv_entry ([.int p0]) (n := 1) (Nat.le_of_ble_eq_true rfl)
  rw [lg_entry_eq]
  generalize (lg_sl ([.int p0]) ++ List.replicate (1 - (lg_sl ([.int p0])).length) Slot.unset).toArray = ls at hl ⊢
  have hl : lv_has ls 1 [(0, .int p0)] := hl
  obtain ⟨Q, hQ⟩ : ∃ Q : State → Prop, Q = MQ below (vp_Si (fun q : Int32 => q = rr ∧ (q = 0 ∨ q = 1))) #[Value.int p0] s 0 0 (fun _ => False) := ⟨_, rfl⟩
  rw [← hQ]
  change W p l e ({ frames := 0, cells := 0, slots := 0, locals := 0 } : Room) s m #[Value.int p0] below meth c s.heap [] 0 0 Q (F0 m 0 ls [])
  unfold F_X3_isDigit at hF
  refine lv_iload_n hx hb dX3_isDigit_0 rfl (lv_at hl 0 rfl) ?_
  refine lv_bipush (v := 48) hx hb dX3_isDigit_1 (by decide) ?_
  refine lv_icmp_lt (tgt := 16) hx hb dX3_isDigit_3 (by decide) (fun c_1 => ?_) (fun c_1 => ?_)
  ·
    replace hF := ip c_1 hF
    refine lv_iconst (v := 0) hx hb dX3_isDigit_16 (by decide) ?_
    rw [hQ]
    obtain e9_0 := inj1 hF
    exact W.zret (v := (0 : Int32)) hx hb hr rfl (fun tt ht hW => ⟨_, rfl, ⟨e9_0, Or.inl rfl⟩, ht⟩) (fun _ h => by cases h) dX3_isDigit_17
  ·
    replace hF := inn c_1 hF
    refine lv_iload_n hx hb dX3_isDigit_6 rfl (lv_at hl 0 rfl) ?_
    refine lv_bipush (v := 57) hx hb dX3_isDigit_7 (by decide) ?_
    refine lv_icmp_gt (tgt := 16) hx hb dX3_isDigit_9 (by decide) (fun c_2 => ?_) (fun c_2 => ?_)
    ·
      replace hF := ip c_2 hF
      refine lv_iconst (v := 0) hx hb dX3_isDigit_16 (by decide) ?_
      rw [hQ]
      obtain e9_0 := inj1 hF
      exact W.zret (v := (0 : Int32)) hx hb hr rfl (fun tt ht hW => ⟨_, rfl, ⟨e9_0, Or.inl rfl⟩, ht⟩) (fun _ h => by cases h) dX3_isDigit_17
    ·
      replace hF := inn c_2 hF
      refine lv_iconst (v := 1) hx hb dX3_isDigit_12 (by decide) ?_
      refine lv_goto (tgt := 17) hx hb dX3_isDigit_13 (by decide) ?_
      rw [hQ]
      obtain e9_0 := inj1 hF
      exact W.zret (v := (1 : Int32)) hx hb hr rfl (fun tt ht hW => ⟨_, rfl, ⟨e9_0, Or.inr rfl⟩, ht⟩) (fun _ h => by cases h) dX3_isDigit_17

def F_X3_isLetter (p0 : Int32) : Option (Int32) :=
  if p0 < (97 : Int32) then some (0 : Int32) else if (122 : Int32) < p0 then some (0 : Int32) else some (1 : Int32)

def v_f_X3_isLetter : List Cond := .code yX3_isLetter cX3_isLetter 1 (some .boolean) :: ([] ++ ([]))
theorem gw_f_X3_isLetter : v_f_X3_isLetter.all goodWord = true := by decide +kernel
theorem hd_X3_isLetter : yX3_isLetter.cls = RX3 ∧ yX3_isLetter.cls ≠ "java/lang/invoke/MethodHandle" ∧ yX3_isLetter.cls ≠ "java/lang/invoke/VarHandle" ∧ (parseMethodDescriptor yX3_isLetter.desc).map (fun d => d.parameters.length) = some 1 := by decide +kernel
set_option maxHeartbeats 4000000 in
set_option maxRecDepth 100000 in
theorem f_X3_isLetter (l : Launch) (E : EE) {p0 : Int32} {rr : Int32} (hF : F_X3_isLetter p0 = some rr) : Met l yX3_isLetter v_f_X3_isLetter (({ frames := 0, cells := 0, slots := 0, locals := 0 } : Room)) (va_Pc [.int p0] (pP E [])) (vp_Si (fun q : Int32 => q = rr ∧ (q = 0 ∨ q = 1))) 0 0 (fun _ => False) := by
  refine Met.ofW (cc := cX3_isLetter) (maxL := 1) (ret := (some .boolean)) (by decide) rfl ?_
  intro p e s m args below meth c s₁ B hml hv
  obtain ⟨rfl, ⟨hK, hN⟩, hP⟩ := hv
  have hx := B.exec
  have hb := B.bytes
  have hr := B.returns
  have hts := atoms_spec (ws := v_f_X3_isLetter) B.pre
  have hown : s.vm.findClass RX3 = some m.cls := own_of hd_X3_isLetter.1 (findClass_of_methodNamed B.named)
  have hlocks : meth.locks = false := B.notSynchronized
  replace hP : va_P E.1 vwCl [] s.heap := hP
  have hl := lv_entry ([.int p0]) (n := 1) (Nat.le_of_ble_eq_true rfl)
  rw [lg_entry_eq]
  generalize (lg_sl ([.int p0]) ++ List.replicate (1 - (lg_sl ([.int p0])).length) Slot.unset).toArray = ls at hl ⊢
  have hl : lv_has ls 1 [(0, .int p0)] := hl
  obtain ⟨Q, hQ⟩ : ∃ Q : State → Prop, Q = MQ below (vp_Si (fun q : Int32 => q = rr ∧ (q = 0 ∨ q = 1))) #[Value.int p0] s 0 0 (fun _ => False) := ⟨_, rfl⟩
  rw [← hQ]
  change W p l e ({ frames := 0, cells := 0, slots := 0, locals := 0 } : Room) s m #[Value.int p0] below meth c s.heap [] 0 0 Q (F0 m 0 ls [])
  unfold F_X3_isLetter at hF
  refine lv_iload_n hx hb dX3_isLetter_0 rfl (lv_at hl 0 rfl) ?_
  refine lv_bipush (v := 97) hx hb dX3_isLetter_1 (by decide) ?_
  refine lv_icmp_lt (tgt := 16) hx hb dX3_isLetter_3 (by decide) (fun c_1 => ?_) (fun c_1 => ?_)
  ·
    replace hF := ip c_1 hF
    refine lv_iconst (v := 0) hx hb dX3_isLetter_16 (by decide) ?_
    rw [hQ]
    obtain e9_0 := inj1 hF
    exact W.zret (v := (0 : Int32)) hx hb hr rfl (fun tt ht hW => ⟨_, rfl, ⟨e9_0, Or.inl rfl⟩, ht⟩) (fun _ h => by cases h) dX3_isLetter_17
  ·
    replace hF := inn c_1 hF
    refine lv_iload_n hx hb dX3_isLetter_6 rfl (lv_at hl 0 rfl) ?_
    refine lv_bipush (v := 122) hx hb dX3_isLetter_7 (by decide) ?_
    refine lv_icmp_gt (tgt := 16) hx hb dX3_isLetter_9 (by decide) (fun c_2 => ?_) (fun c_2 => ?_)
    ·
      replace hF := ip c_2 hF
      refine lv_iconst (v := 0) hx hb dX3_isLetter_16 (by decide) ?_
      rw [hQ]
      obtain e9_0 := inj1 hF
      exact W.zret (v := (0 : Int32)) hx hb hr rfl (fun tt ht hW => ⟨_, rfl, ⟨e9_0, Or.inl rfl⟩, ht⟩) (fun _ h => by cases h) dX3_isLetter_17
    ·
      replace hF := inn c_2 hF
      refine lv_iconst (v := 1) hx hb dX3_isLetter_12 (by decide) ?_
      refine lv_goto (tgt := 17) hx hb dX3_isLetter_13 (by decide) ?_
      rw [hQ]
      obtain e9_0 := inj1 hF
      exact W.zret (v := (1 : Int32)) hx hb hr rfl (fun tt ht hW => ⟨_, rfl, ⟨e9_0, Or.inr rfl⟩, ht⟩) (fun _ h => by cases h) dX3_isLetter_17

def B_X3_isWord_20 (p1 : Nat) (c_wordStart : Int32) (c_tape_length : Int32) (c_tape_bytes : Nat → Int32) (x2 : Int32) : Option ((Int32) ⊕ (Nat)) :=
  ltF p1 15 (bd1 (F_J0_length_8abf5 p1) (fun r_5 => if r_5 ≤ x2 then some (.inr 1) else bd1 (F_X6_signAt (c_wordStart + x2) c_tape_bytes c_tape_length) (fun r_9 => ltF p1 15 (bd1 (F_J0_charAt_5068e p1 x2) (fun r_11 => if r_9 = r_11 then some (.inl (x2 + (1 : Int32))) else some (.inr 0))))))
def F_X3_isWord (K : Nat) (p1 : Nat) (c_tape_bytes : Nat → Int32) (c_tape_length : Int32) (c_at : Int32) (c_wordStart : Int32) : Option (Int32) :=
  ltF p1 15 (bd1 (F_J0_length_8abf5 p1) (fun r_1 => if c_at - c_wordStart = r_1 then bd1 (lpF (fun u9 : Int32 => B_X3_isWord_20 p1 c_wordStart c_tape_length c_tape_bytes u9) K (0 : Int32)) (fun t_16 => if t_16 = 0 then some (0 : Int32) else if t_16 = 1 then some (1 : Int32) else none) else some (0 : Int32)))
abbrev w_X3_isWord (E : EE) (a_ a_tape a_rules a_places a_steps a_tape_bytes : Nat) (c_siteCount : Int32) (c_stepCount : Int32) (c_seenRules : Int32) (c_at : Int32) (c_wordStart : Int32) (c_number : Int32) (c_failed : Int32) (c_tape_length : Int32) (c_tape_bytes : Nat → Int32) : va_W := [(a_, .inr (4, [.ref a_tape, .ref a_rules, .ref a_places, .ref a_steps, .int c_siteCount, .int c_stepCount, .int c_seenRules, .int c_at, .int c_wordStart, .int c_number, .int c_failed])), (a_tape, .inr (7, [.ref a_tape_bytes, .int c_tape_length])), (a_tape_bytes, .inl (E.2.2.1, 320, .inl c_tape_bytes))]
def v_f_X3_isWord : List Cond := .code yX3_isWord cX3_isWord 3 (some .boolean) :: ([.fieldLink RX3 31 "HushWatch$Reader" "at" "I", .fieldLink RX3 34 "HushWatch$Reader" "wordStart" "I", .fieldLink RX3 43 "HushWatch$Reader" "tape" "LHushWatch$Tape;", .methodLink RX3 150 yJ0_length_8abf5, .instanceMethod yJ0_length_8abf5, .selects RJ0 yJ0_length_8abf5 yJ0_length_8abf5, .initialized RJ0, .methodLink RX3 143 yX6_signAt, .instanceMethod yX6_signAt, .selects RX6 yX6_signAt yX6_signAt, .initialized RX6, .methodLink RX3 154 yJ0_charAt_5068e, .instanceMethod yJ0_charAt_5068e, .selects RJ0 yJ0_charAt_5068e yJ0_charAt_5068e] ++ (wsX30 ++ (v_f_J0_length_8abf5 ++ (v_f_X6_signAt ++ (v_f_J0_charAt_5068e ++ ([]))))))
theorem gw_f_X3_isWord : v_f_X3_isWord.all goodWord = true := by decide +kernel
theorem i_f_X3_isWord_X3 : ∀ w ∈ wsX30, w ∈ v_f_X3_isWord := fun _ h => List.mem_cons_of_mem _ (List.mem_append_right _ (List.mem_append_left _ h))
theorem g_f_X3_isWord_f_J0_length_8abf5_150 : GoodIn v_f_X3_isWord (wsV RX3 150 RJ0 yJ0_length_8abf5 v_f_J0_length_8abf5) := goodIn_app (goodIn_of _ (by decide +kernel)) (goodIn_sub (fun _ h => List.mem_cons_of_mem _ (List.mem_append_right _ (List.mem_append_right _ (List.mem_append_left _ h)))) gw_f_J0_length_8abf5)
theorem g_f_X3_isWord_f_X6_signAt_143 : GoodIn v_f_X3_isWord (wsV RX3 143 RX6 yX6_signAt v_f_X6_signAt) := goodIn_app (goodIn_of _ (by decide +kernel)) (goodIn_sub (fun _ h => List.mem_cons_of_mem _ (List.mem_append_right _ (List.mem_append_right _ (List.mem_append_right _ (List.mem_append_left _ h))))) gw_f_X6_signAt)
theorem g_f_X3_isWord_f_J0_charAt_5068e_154 : GoodIn v_f_X3_isWord (wsV RX3 154 RJ0 yJ0_charAt_5068e v_f_J0_charAt_5068e) := goodIn_app (goodIn_of _ (by decide +kernel)) (goodIn_sub (fun _ h => List.mem_cons_of_mem _ (List.mem_append_right _ (List.mem_append_right _ (List.mem_append_right _ (List.mem_append_right _ (List.mem_append_left _ h)))))) gw_f_J0_charAt_5068e)
theorem hd_X3_isWord : yX3_isWord.cls = RX3 ∧ yX3_isWord.cls ≠ "java/lang/invoke/MethodHandle" ∧ yX3_isWord.cls ≠ "java/lang/invoke/VarHandle" ∧ (parseMethodDescriptor yX3_isWord.desc).map (fun d => d.parameters.length) = some 1 := by decide +kernel
set_option maxHeartbeats 4000000 in
set_option maxRecDepth 100000 in
theorem wb_X3_isWord_20 {p : Program} (l : Launch) {e : Env} {s : State} {m : MethodId} {below : List Frame} {meth : Method} {c : Code} {Q : State → Prop} (E : EE) (K : Nat) {z9 : Nat → Nat} {a_ a_tape a_rules a_places a_steps a_tape_bytes : Nat} {p1 : Nat} {c_siteCount : Int32} {c_stepCount : Int32} {c_seenRules : Int32} {c_at : Int32} {c_wordStart : Int32} {c_number : Int32} {c_failed : Int32} {c_tape_length : Int32} {c_tape_bytes : Nat → Int32} {x2 : Int32} (hx : p.tables.exec = Jvm.exec) (hb : c.code = cX3_isWord) (hml : c.maxLocals = 3) (hown : s.vm.findClass RX3 = some m.cls) (hts : ∀ w ∈ v_f_X3_isWord, w.before #[Value.ref a_, Value.ref (z9 (20 + p1))] s = true) (hK : va_K E.1 vwCl (TY E) s) (hN : NX s) (hZ : ZZ z9 (fun _ => False) s s.heap) {xx : (Int32) ⊕ (Nat)} (hC : ∀ (x2 : Int32), xx = .inl x2 → ∀ (ls : Array Slot), lv_has ls 3 [(0, .ref a_), (1, .ref (z9 (20 + p1))), (2, .int x2)] → W p l e ({ frames := 4, cells := 0, slots := 0, locals := 85 } : Room) s m #[Value.ref a_, Value.ref (z9 (20 + p1))] below meth c s.heap [] 0 0 Q (F0 m 20 ls [])) (hE : ∀ (t9 : Nat), xx = .inr t9 → ((t9 = 0 → ∀ (ls : Array Slot), lv_has ls 3 [] → W p l e ({ frames := 4, cells := 0, slots := 0, locals := 85 } : Room) s m #[Value.ref a_, Value.ref (z9 (20 + p1))] below meth c s.heap [] 0 0 Q (F0 m 49 ls [])) ∧ (t9 = 1 → ∀ (ls : Array Slot), lv_has ls 3 [] → W p l e ({ frames := 4, cells := 0, slots := 0, locals := 85 } : Room) s m #[Value.ref a_, Value.ref (z9 (20 + p1))] below meth c s.heap [] 0 0 Q (F0 m 57 ls [])))) (hF : B_X3_isWord_20 p1 c_wordStart c_tape_length c_tape_bytes x2 = some xx) (hP : va_P E.1 vwCl (w_X3_isWord E a_ a_tape a_rules a_places a_steps a_tape_bytes c_siteCount c_stepCount c_seenRules c_at c_wordStart c_number c_failed c_tape_length c_tape_bytes) s.heap) : ∀ (ls : Array Slot), lv_has ls 3 [(0, .ref a_), (1, .ref (z9 (20 + p1))), (2, .int x2)] → W p l e ({ frames := 4, cells := 0, slots := 0, locals := 85 } : Room) s m #[Value.ref a_, Value.ref (z9 (20 + p1))] below meth c s.heap [] 0 0 Q (F0 m 20 ls []) := by
  unfold B_X3_isWord_20 at hF
  replace hP : va_P E.1 vwCl [(a_, .inr (4, [.ref a_tape, .ref a_rules, .ref a_places, .ref a_steps, .int c_siteCount, .int c_stepCount, .int c_seenRules, .int c_at, .int c_wordStart, .int c_number, .int c_failed])), (a_tape, .inr (7, [.ref a_tape_bytes, .int c_tape_length])), (a_tape_bytes, .inl (E.2.2.1, 320, .inl c_tape_bytes))] s.heap := hP
  intro ls hl
  refine lv_iload_n hx hb dX3_isWord_20 rfl (lv_at hl 2 rfl) ?_
  refine lv_aload_n hx hb dX3_isWord_21 rfl (lv_at hl 1 rfl) ?_
  replace hF := ltF_s hF
  obtain ⟨hs_6, hF⟩ := hF
  replace hF := bd1_s hF
  obtain ⟨r_5, hc_7, hF⟩ := hF
  have hPc : va_P E.1 vwCl [] s.heap := fun k q h => by simp at h
  refine pE_i (va_runV (As := []) (rest := [.int x2])  ⟨hx, hb, hml, hown, hts⟩ (f_J0_length_8abf5 l E z9 (p0 := p1) hc_7) (cwV 0 hts g_f_X3_isWord_f_J0_length_8abf5_150 rfl rfl rfl hd_J0_length_8abf5 ⟨Nat.le_of_ble_eq_true rfl, Nat.le_of_ble_eq_true rfl⟩) ⟨qPZ.blind, vk_recv hZ.2.2.2.1 hs_6 (va_S.rf), (qPZ.pre0 ⟨hK, hN⟩ hPc hZ)⟩ rfl rfl hl.1 rfl (lv_room (Nat.le_of_ble_eq_true rfl)) dX3_isWord_22 ⟨Nat.le_of_ble_eq_true rfl, Nat.le_of_ble_eq_true rfl⟩) ?_
  refine lv_icmp_ge (tgt := 57) hx hb dX3_isWord_25 (by decide) (fun c_8 => ?_) (fun c_8 => ?_)
  ·
    replace hF := ip c_8 hF
    cases hF
    exact (hE 1  rfl).2 rfl ls (lv_sub hl [] rfl)
  ·
    replace hF := inn c_8 hF
    refine lv_aload_n hx hb dX3_isWord_28 rfl (lv_at hl 0 rfl) ?_
    refine gt_X3_0 (v := .ref a_tape) hx hb hts i_f_X3_isWord_X3 hown hK hP 0 rfl (hts (.fieldLink RX3 43 "HushWatch$Reader" "tape" "LHushWatch$Tape;") (List.mem_of_getElem? (i := 3) rfl)) rfl dX3_isWord_29 ?_
    refine lv_aload_n hx hb dX3_isWord_32 rfl (lv_at hl 0 rfl) ?_
    refine gt_X3_8 (v := .int c_wordStart) hx hb hts i_f_X3_isWord_X3 hown hK hP 0 rfl (hts (.fieldLink RX3 34 "HushWatch$Reader" "wordStart" "I") (List.mem_of_getElem? (i := 2) rfl)) rfl dX3_isWord_33 ?_
    refine lv_iload_n hx hb dX3_isWord_36 rfl (lv_at hl 2 rfl) ?_
    refine lv_iadd hx hb dX3_isWord_37 ?_
    replace hF := bd1_s hF
    obtain ⟨r_9, hc_10, hF⟩ := hF
    have hPc : va_P E.1 vwCl (w_X6_signAt E a_tape a_tape_bytes c_tape_length c_tape_bytes) s.heap := hP.sub (ws' := [(a_tape, .inr (7, [.ref a_tape_bytes, .int c_tape_length])), (a_tape_bytes, .inl (E.2.2.1, 320, .inl c_tape_bytes))]) [1, 2] rfl
    have hrc := va_recv hK hPc (ci := 7) (q0 := 0) rfl rfl
    refine pE_i (va_runV (As := [.int (c_wordStart + x2)]) (rest := [])  ⟨hx, hb, hml, hown, hts⟩ (f_X6_signAt l E (a_ := a_tape) (a_bytes := a_tape_bytes) (p1 := c_wordStart + x2) (c_length := c_tape_length) (c_bytes := c_tape_bytes) hc_10) (cwV 1 hts g_f_X3_isWord_f_X6_signAt_143 rfl rfl rfl hd_X6_signAt ⟨Nat.le_of_ble_eq_true rfl, Nat.le_of_ble_eq_true rfl⟩) ⟨pP.blind, hrc, (pP.pre ⟨hK, hN⟩ hPc)⟩ rfl rfl hl.1 rfl (lv_room (Nat.le_of_ble_eq_true rfl)) dX3_isWord_38 ⟨Nat.le_of_ble_eq_true rfl, Nat.le_of_ble_eq_true rfl⟩) ?_
    refine lv_aload_n hx hb dX3_isWord_41 rfl (lv_at hl 1 rfl) ?_
    refine lv_iload_n hx hb dX3_isWord_42 rfl (lv_at hl 2 rfl) ?_
    replace hF := ltF_s hF
    obtain ⟨hs_12, hF⟩ := hF
    replace hF := bd1_s hF
    obtain ⟨r_11, hc_13, hF⟩ := hF
    have hPc : va_P E.1 vwCl [] s.heap := fun k q h => by simp at h
    refine pE_c (va_runV (As := [.int x2]) (rest := [.int r_9])  ⟨hx, hb, hml, hown, hts⟩ (f_J0_charAt_5068e l E z9 (p0 := p1) (p1 := x2) hc_13) (cwV 1 hts g_f_X3_isWord_f_J0_charAt_5068e_154 rfl rfl rfl hd_J0_charAt_5068e ⟨Nat.le_of_ble_eq_true rfl, Nat.le_of_ble_eq_true rfl⟩) ⟨qPZ.blind, vk_recv hZ.2.2.2.1 hs_12 (va_S.rf), (qPZ.pre0 ⟨hK, hN⟩ hPc hZ)⟩ rfl rfl hl.1 rfl (lv_room (Nat.le_of_ble_eq_true rfl)) dX3_isWord_43 ⟨Nat.le_of_ble_eq_true rfl, Nat.le_of_ble_eq_true rfl⟩) (fun hb_14 => ?_)
    refine lv_icmp_eq (tgt := 51) hx hb dX3_isWord_46 (by decide) (fun c_15 => ?_) (fun c_15 => ?_)
    ·
      replace hF := ip c_15 hF
      refine lv_iinc (v := x2 + (1 : Int32)) (lv' := [(2, .int (x2 + (1 : Int32))), (0, .ref a_), (1, .ref (z9 (20 + p1)))]) hx hb dX3_isWord_51 hl (k := 2) rfl (rfl) (by decide) rfl (fun ls hl => ?_)
      refine lv_goto (tgt := 20) hx hb dX3_isWord_54 (by decide) ?_
      cases hF
      exact hC (x2 + (1 : Int32)) rfl ls (lv_sub hl [1, 2, 0] rfl)
    ·
      replace hF := inn c_15 hF
      cases hF
      exact (hE 0  rfl).1 rfl ls (lv_sub hl [] rfl)

set_option maxHeartbeats 4000000 in
set_option maxRecDepth 100000 in
theorem lw_X3_isWord_20 {p : Program} (l : Launch) {e : Env} {s : State} {m : MethodId} {below : List Frame} {meth : Method} {c : Code} {Q : State → Prop} (E : EE) (K : Nat) {z9 : Nat → Nat} {a_ a_tape a_rules a_places a_steps a_tape_bytes : Nat} {p1 : Nat} {c_siteCount : Int32} {c_stepCount : Int32} {c_seenRules : Int32} {c_at : Int32} {c_wordStart : Int32} {c_number : Int32} {c_failed : Int32} {c_tape_length : Int32} {c_tape_bytes : Nat → Int32} (hx : p.tables.exec = Jvm.exec) (hb : c.code = cX3_isWord) (hml : c.maxLocals = 3) (hown : s.vm.findClass RX3 = some m.cls) (hts : ∀ w ∈ v_f_X3_isWord, w.before #[Value.ref a_, Value.ref (z9 (20 + p1))] s = true) (hK : va_K E.1 vwCl (TY E) s) (hN : NX s) (hZ : ZZ z9 (fun _ => False) s s.heap) (hP : va_P E.1 vwCl (w_X3_isWord E a_ a_tape a_rules a_places a_steps a_tape_bytes c_siteCount c_stepCount c_seenRules c_at c_wordStart c_number c_failed c_tape_length c_tape_bytes) s.heap) (j9 : Nat) (x2 : Int32) (t9' : Nat) (hL : lpF (fun u9 : Int32 => B_X3_isWord_20 p1 c_wordStart c_tape_length c_tape_bytes u9) j9 x2 = some t9') (hX : (t9' = 0 → ∀ (ls : Array Slot), lv_has ls 3 [] → W p l e ({ frames := 4, cells := 0, slots := 0, locals := 85 } : Room) s m #[Value.ref a_, Value.ref (z9 (20 + p1))] below meth c s.heap [] 0 0 Q (F0 m 49 ls [])) ∧ (t9' = 1 → ∀ (ls : Array Slot), lv_has ls 3 [] → W p l e ({ frames := 4, cells := 0, slots := 0, locals := 85 } : Room) s m #[Value.ref a_, Value.ref (z9 (20 + p1))] below meth c s.heap [] 0 0 Q (F0 m 57 ls []))) : ∀ (ls : Array Slot), lv_has ls 3 [(0, .ref a_), (1, .ref (z9 (20 + p1))), (2, .int x2)] → W p l e ({ frames := 4, cells := 0, slots := 0, locals := 85 } : Room) s m #[Value.ref a_, Value.ref (z9 (20 + p1))] below meth c s.heap [] 0 0 Q (F0 m 20 ls []) := by
  exact lp_rule (P := (fun u9 : Int32 => ∀ (ls : Array Slot), lv_has ls 3 [(0, .ref a_), (1, .ref (z9 (20 + p1))), (2, .int u9)] → W p l e ({ frames := 4, cells := 0, slots := 0, locals := 85 } : Room) s m #[Value.ref a_, Value.ref (z9 (20 + p1))] below meth c s.heap [] 0 0 Q (F0 m 20 ls []))) (R := (fun r9 : Nat => (r9 = 0 → ∀ (ls : Array Slot), lv_has ls 3 [] → W p l e ({ frames := 4, cells := 0, slots := 0, locals := 85 } : Room) s m #[Value.ref a_, Value.ref (z9 (20 + p1))] below meth c s.heap [] 0 0 Q (F0 m 49 ls [])) ∧ (r9 = 1 → ∀ (ls : Array Slot), lv_has ls 3 [] → W p l e ({ frames := 4, cells := 0, slots := 0, locals := 85 } : Room) s m #[Value.ref a_, Value.ref (z9 (20 + p1))] below meth c s.heap [] 0 0 Q (F0 m 57 ls [])))) (fun u9 xx hF hC hE => wb_X3_isWord_20 l E K (p1 := p1) (c_siteCount := c_siteCount) (c_stepCount := c_stepCount) (c_seenRules := c_seenRules) (c_at := c_at) (c_wordStart := c_wordStart) (c_number := c_number) (c_failed := c_failed) (c_tape_length := c_tape_length) (c_tape_bytes := c_tape_bytes) (x2 := u9) hx hb hml hown hts hK hN hZ (fun x2 q9 => hC _ q9) (fun t9 q9 => hE _ q9) hF hP) j9 x2 t9' hL hX

set_option maxHeartbeats 4000000 in
set_option maxRecDepth 100000 in
theorem f_X3_isWord (l : Launch) (E : EE) (K : Nat) (z9 : Nat → Nat) {a_ a_tape a_rules a_places a_steps a_tape_bytes : Nat} {p1 : Nat} {c_siteCount : Int32} {c_stepCount : Int32} {c_seenRules : Int32} {c_at : Int32} {c_wordStart : Int32} {c_number : Int32} {c_failed : Int32} {c_tape_length : Int32} {c_tape_bytes : Nat → Int32} {rr : Int32} (hF : F_X3_isWord K p1 c_tape_bytes c_tape_length c_at c_wordStart = some rr) : Met l yX3_isWord v_f_X3_isWord (({ frames := 4, cells := 0, slots := 0, locals := 85 } : Room)) (va_Pc [.ref a_, .ref (z9 (20 + p1))] (qPZ E z9 (w_X3_isWord E a_ a_tape a_rules a_places a_steps a_tape_bytes c_siteCount c_stepCount c_seenRules c_at c_wordStart c_number c_failed c_tape_length c_tape_bytes))) (vp_Si (fun q : Int32 => q = rr ∧ (q = 0 ∨ q = 1))) 0 0 (fun _ => False) := by
  refine Met.ofW (cc := cX3_isWord) (maxL := 3) (ret := (some .boolean)) (by decide) rfl ?_
  intro p e s m args below meth c s₁ B hml hv
  obtain ⟨rfl, ⟨hK, hN⟩, hP, hZ⟩ := hv
  have hx := B.exec
  have hb := B.bytes
  have hr := B.returns
  have hts := atoms_spec (ws := v_f_X3_isWord) B.pre
  have hown : s.vm.findClass RX3 = some m.cls := own_of hd_X3_isWord.1 (findClass_of_methodNamed B.named)
  have hlocks : meth.locks = false := B.notSynchronized
  replace hP : va_P E.1 vwCl [(a_, .inr (4, [.ref a_tape, .ref a_rules, .ref a_places, .ref a_steps, .int c_siteCount, .int c_stepCount, .int c_seenRules, .int c_at, .int c_wordStart, .int c_number, .int c_failed])), (a_tape, .inr (7, [.ref a_tape_bytes, .int c_tape_length])), (a_tape_bytes, .inl (E.2.2.1, 320, .inl c_tape_bytes))] s.heap := hP
  have hl := lv_entry ([.ref a_, .ref (z9 (20 + p1))]) (n := 3) (Nat.le_of_ble_eq_true rfl)
  rw [lg_entry_eq]
  generalize (lg_sl ([.ref a_, .ref (z9 (20 + p1))]) ++ List.replicate (3 - (lg_sl ([.ref a_, .ref (z9 (20 + p1))])).length) Slot.unset).toArray = ls at hl ⊢
  have hl : lv_has ls 3 [(0, .ref a_), (1, .ref (z9 (20 + p1)))] := hl
  obtain ⟨Q, hQ⟩ : ∃ Q : State → Prop, Q = MQ below (vp_Si (fun q : Int32 => q = rr ∧ (q = 0 ∨ q = 1))) #[Value.ref a_, Value.ref (z9 (20 + p1))] s 0 0 (fun _ => False) := ⟨_, rfl⟩
  rw [← hQ]
  change W p l e ({ frames := 4, cells := 0, slots := 0, locals := 85 } : Room) s m #[Value.ref a_, Value.ref (z9 (20 + p1))] below meth c s.heap [] 0 0 Q (F0 m 0 ls [])
  unfold F_X3_isWord at hF
  refine lv_aload_n hx hb dX3_isWord_0 rfl (lv_at hl 0 rfl) ?_
  refine gt_X3_7 (v := .int c_at) hx hb hts i_f_X3_isWord_X3 hown hK hP 0 rfl (hts (.fieldLink RX3 31 "HushWatch$Reader" "at" "I") (List.mem_of_getElem? (i := 1) rfl)) rfl dX3_isWord_1 ?_
  refine lv_aload_n hx hb dX3_isWord_4 rfl (lv_at hl 0 rfl) ?_
  refine gt_X3_8 (v := .int c_wordStart) hx hb hts i_f_X3_isWord_X3 hown hK hP 0 rfl (hts (.fieldLink RX3 34 "HushWatch$Reader" "wordStart" "I") (List.mem_of_getElem? (i := 2) rfl)) rfl dX3_isWord_5 ?_
  refine lv_isub hx hb dX3_isWord_8 ?_
  refine lv_aload_n hx hb dX3_isWord_9 rfl (lv_at hl 1 rfl) ?_
  replace hF := ltF_s hF
  obtain ⟨hs_2, hF⟩ := hF
  replace hF := bd1_s hF
  obtain ⟨r_1, hc_3, hF⟩ := hF
  have hPc : va_P E.1 vwCl [] s.heap := fun k q h => by simp at h
  refine pE_i (va_runV (As := []) (rest := [.int (c_at - c_wordStart)])  ⟨hx, hb, hml, hown, hts⟩ (f_J0_length_8abf5 l E z9 (p0 := p1) hc_3) (cwV 0 hts g_f_X3_isWord_f_J0_length_8abf5_150 rfl rfl rfl hd_J0_length_8abf5 ⟨Nat.le_of_ble_eq_true rfl, Nat.le_of_ble_eq_true rfl⟩) ⟨qPZ.blind, vk_recv hZ.2.2.2.1 hs_2 (va_S.rf), (qPZ.pre0 ⟨hK, hN⟩ hPc hZ)⟩ rfl rfl hl.1 rfl (lv_room (Nat.le_of_ble_eq_true rfl)) dX3_isWord_10 ⟨Nat.le_of_ble_eq_true rfl, Nat.le_of_ble_eq_true rfl⟩) ?_
  refine lv_icmp_eq (tgt := 18) hx hb dX3_isWord_13 (by decide) (fun c_4 => ?_) (fun c_4 => ?_)
  ·
    replace hF := ip c_4 hF
    refine lv_iconst (v := 0) hx hb dX3_isWord_18 (by decide) ?_
    refine lv_istore_n (lv' := [(2, .int (0 : Int32)), (0, .ref a_), (1, .ref (z9 (20 + p1)))]) hx hb dX3_isWord_19 rfl hl (by decide) rfl (fun ls hl => ?_)
    replace hF := bd1_s hF
    obtain ⟨t_16, hL_17, hF⟩ := hF
    refine lw_X3_isWord_20 l E K (p1 := p1) (c_siteCount := c_siteCount) (c_stepCount := c_stepCount) (c_seenRules := c_seenRules) (c_at := c_at) (c_wordStart := c_wordStart) (c_number := c_number) (c_failed := c_failed) (c_tape_length := c_tape_length) (c_tape_bytes := c_tape_bytes) hx hb hml hown hts hK hN hZ hP K (0 : Int32) t_16 hL_17 ⟨?_, ?_⟩ ls (lv_sub hl [1, 2, 0] rfl)
    ·
      intro t9
      replace hF := ip t9 hF
      intro ls hl
      refine lv_iconst (v := 0) hx hb dX3_isWord_49 (by decide) ?_
      rw [hQ]
      obtain e9_0 := inj1 hF
      exact W.zret (v := (0 : Int32)) hx hb hr rfl (fun tt ht hW => ⟨_, rfl, ⟨e9_0, Or.inl rfl⟩, ht⟩) (fun _ h => by cases h) dX3_isWord_50
    ·
      intro t9
      replace hF := inn (show ¬ t_16 = 0 by omega) hF
      replace hF := ip t9 hF
      intro ls hl
      refine lv_iconst (v := 1) hx hb dX3_isWord_57 (by decide) ?_
      rw [hQ]
      obtain e9_0 := inj1 hF
      exact W.zret (v := (1 : Int32)) hx hb hr rfl (fun tt ht hW => ⟨_, rfl, ⟨e9_0, Or.inr rfl⟩, ht⟩) (fun _ h => by cases h) dX3_isWord_58
  ·
    replace hF := inn c_4 hF
    refine lv_iconst (v := 0) hx hb dX3_isWord_16 (by decide) ?_
    rw [hQ]
    obtain e9_0 := inj1 hF
    exact W.zret (v := (0 : Int32)) hx hb hr rfl (fun tt ht hW => ⟨_, rfl, ⟨e9_0, Or.inl rfl⟩, ht⟩) (fun _ h => by cases h) dX3_isWord_17

def F_X3_lawOfWord (K : Nat) (c_tape_bytes : Nat → Int32) (c_tape_length : Int32) (c_at : Int32) (c_wordStart : Int32) : Option (Int32) :=
  bd1 (F_X3_isWord K 4 c_tape_bytes c_tape_length c_at c_wordStart) (fun r_1 => if r_1 = (0 : Int32) then bd1 (F_X3_isWord K 5 c_tape_bytes c_tape_length c_at c_wordStart) (fun r_5 => if r_5 = (0 : Int32) then bd1 (F_X3_isWord K 6 c_tape_bytes c_tape_length c_at c_wordStart) (fun r_9 => if r_9 = (0 : Int32) then bd1 (F_X3_isWord K 7 c_tape_bytes c_tape_length c_at c_wordStart) (fun r_13 => if r_13 = (0 : Int32) then some (-1 : Int32) else some (3 : Int32)) else some (2 : Int32)) else some (1 : Int32)) else some (0 : Int32))
abbrev w_X3_lawOfWord (E : EE) (a_ a_tape a_rules a_places a_steps a_tape_bytes : Nat) (c_siteCount : Int32) (c_stepCount : Int32) (c_seenRules : Int32) (c_at : Int32) (c_wordStart : Int32) (c_number : Int32) (c_failed : Int32) (c_tape_length : Int32) (c_tape_bytes : Nat → Int32) : va_W := [(a_, .inr (4, [.ref a_tape, .ref a_rules, .ref a_places, .ref a_steps, .int c_siteCount, .int c_stepCount, .int c_seenRules, .int c_at, .int c_wordStart, .int c_number, .int c_failed])), (a_tape, .inr (7, [.ref a_tape_bytes, .int c_tape_length])), (a_tape_bytes, .inl (E.2.2.1, 320, .inl c_tape_bytes))]
def v_f_X3_lawOfWord : List Cond := .code yX3_lawOfWord cX3_lawOfWord 1 (some .int) :: ([.methodLink RX3 76 yX3_isWord, .instanceMethod yX3_isWord, .selects RX3 yX3_isWord yX3_isWord, .initialized RX3] ++ (v_f_X3_isWord ++ ([])))
theorem gw_f_X3_lawOfWord : v_f_X3_lawOfWord.all goodWord = true := by decide +kernel
theorem g_f_X3_lawOfWord_f_X3_isWord_76 : GoodIn v_f_X3_lawOfWord (wsV RX3 76 RX3 yX3_isWord v_f_X3_isWord) := goodIn_app (goodIn_of _ (by decide +kernel)) (goodIn_sub (fun _ h => List.mem_cons_of_mem _ (List.mem_append_right _ (List.mem_append_left _ h))) gw_f_X3_isWord)
theorem hd_X3_lawOfWord : yX3_lawOfWord.cls = RX3 ∧ yX3_lawOfWord.cls ≠ "java/lang/invoke/MethodHandle" ∧ yX3_lawOfWord.cls ≠ "java/lang/invoke/VarHandle" ∧ (parseMethodDescriptor yX3_lawOfWord.desc).map (fun d => d.parameters.length) = some 0 := by decide +kernel
set_option maxHeartbeats 4000000 in
set_option maxRecDepth 100000 in
theorem f_X3_lawOfWord (l : Launch) (E : EE) (K : Nat) (z9 : Nat → Nat) {a_ a_tape a_rules a_places a_steps a_tape_bytes : Nat} {c_siteCount : Int32} {c_stepCount : Int32} {c_seenRules : Int32} {c_at : Int32} {c_wordStart : Int32} {c_number : Int32} {c_failed : Int32} {c_tape_length : Int32} {c_tape_bytes : Nat → Int32} {rr : Int32} (hF : F_X3_lawOfWord K c_tape_bytes c_tape_length c_at c_wordStart = some rr) : Met l yX3_lawOfWord v_f_X3_lawOfWord (({ frames := 5, cells := 0, slots := 0, locals := 107 } : Room)) (va_Pc [.ref a_] (qPZ E z9 (w_X3_lawOfWord E a_ a_tape a_rules a_places a_steps a_tape_bytes c_siteCount c_stepCount c_seenRules c_at c_wordStart c_number c_failed c_tape_length c_tape_bytes))) (vp_Si (fun q : Int32 => q = rr)) 0 0 (fun _ => False) := by
  refine Met.ofW (cc := cX3_lawOfWord) (maxL := 1) (ret := (some .int)) (by decide) rfl ?_
  intro p e s m args below meth c s₁ B hml hv
  obtain ⟨rfl, ⟨hK, hN⟩, hP, hZ⟩ := hv
  have hx := B.exec
  have hb := B.bytes
  have hr := B.returns
  have hts := atoms_spec (ws := v_f_X3_lawOfWord) B.pre
  have hown : s.vm.findClass RX3 = some m.cls := own_of hd_X3_lawOfWord.1 (findClass_of_methodNamed B.named)
  have hlocks : meth.locks = false := B.notSynchronized
  replace hP : va_P E.1 vwCl [(a_, .inr (4, [.ref a_tape, .ref a_rules, .ref a_places, .ref a_steps, .int c_siteCount, .int c_stepCount, .int c_seenRules, .int c_at, .int c_wordStart, .int c_number, .int c_failed])), (a_tape, .inr (7, [.ref a_tape_bytes, .int c_tape_length])), (a_tape_bytes, .inl (E.2.2.1, 320, .inl c_tape_bytes))] s.heap := hP
  have hl := lv_entry ([.ref a_]) (n := 1) (Nat.le_of_ble_eq_true rfl)
  rw [lg_entry_eq]
  generalize (lg_sl ([.ref a_]) ++ List.replicate (1 - (lg_sl ([.ref a_])).length) Slot.unset).toArray = ls at hl ⊢
  have hl : lv_has ls 1 [(0, .ref a_)] := hl
  obtain ⟨Q, hQ⟩ : ∃ Q : State → Prop, Q = MQ below (vp_Si (fun q : Int32 => q = rr)) #[Value.ref a_] s 0 0 (fun _ => False) := ⟨_, rfl⟩
  rw [← hQ]
  change W p l e ({ frames := 5, cells := 0, slots := 0, locals := 107 } : Room) s m #[Value.ref a_] below meth c s.heap [] 0 0 Q (F0 m 0 ls [])
  unfold F_X3_lawOfWord at hF
  refine lv_aload_n hx hb dX3_lawOfWord_0 rfl (lv_at hl 0 rfl) ?_
  refine va_ldcS hx hb hown (ZZ.s4 hZ) dX3_lawOfWord_1 ?_
  replace hF := bd1_s hF
  obtain ⟨r_1, hc_2, hF⟩ := hF
  have hPc : va_P E.1 vwCl (w_X3_isWord E a_ a_tape a_rules a_places a_steps a_tape_bytes c_siteCount c_stepCount c_seenRules c_at c_wordStart c_number c_failed c_tape_length c_tape_bytes) s.heap := hP.sub (ws' := [(a_, .inr (4, [.ref a_tape, .ref a_rules, .ref a_places, .ref a_steps, .int c_siteCount, .int c_stepCount, .int c_seenRules, .int c_at, .int c_wordStart, .int c_number, .int c_failed])), (a_tape, .inr (7, [.ref a_tape_bytes, .int c_tape_length])), (a_tape_bytes, .inl (E.2.2.1, 320, .inl c_tape_bytes))]) [0, 1, 2] rfl
  have hrc := va_recv hK hPc (ci := 4) (q0 := 0) rfl rfl
  refine pE_z (va_runV (As := [.ref (z9 (20 + 4))]) (rest := [])  ⟨hx, hb, hml, hown, hts⟩ (f_X3_isWord l E K z9 (a_ := a_) (a_tape := a_tape) (a_rules := a_rules) (a_places := a_places) (a_steps := a_steps) (a_tape_bytes := a_tape_bytes) (p1 := 4) (c_siteCount := c_siteCount) (c_stepCount := c_stepCount) (c_seenRules := c_seenRules) (c_at := c_at) (c_wordStart := c_wordStart) (c_number := c_number) (c_failed := c_failed) (c_tape_length := c_tape_length) (c_tape_bytes := c_tape_bytes) hc_2) (cwV 1 hts g_f_X3_lawOfWord_f_X3_isWord_76 rfl rfl rfl hd_X3_isWord ⟨Nat.le_of_ble_eq_true rfl, Nat.le_of_ble_eq_true rfl⟩) ⟨qPZ.blind, hrc, (qPZ.pre0 ⟨hK, hN⟩ hPc hZ)⟩ rfl rfl hl.1 rfl (lv_room (Nat.le_of_ble_eq_true rfl)) dX3_lawOfWord_3 ⟨Nat.le_of_ble_eq_true rfl, Nat.le_of_ble_eq_true rfl⟩) (fun hb_3 => ?_)
  refine lv_if_eq (tgt := 11) hx hb dX3_lawOfWord_6 (by decide) (fun c_4 => ?_) (fun c_4 => ?_)
  ·
    replace hF := ip c_4 hF
    refine lv_aload_n hx hb dX3_lawOfWord_11 rfl (lv_at hl 0 rfl) ?_
    refine va_ldcS hx hb hown (ZZ.s5 hZ) dX3_lawOfWord_12 ?_
    replace hF := bd1_s hF
    obtain ⟨r_5, hc_6, hF⟩ := hF
    have hPc : va_P E.1 vwCl (w_X3_isWord E a_ a_tape a_rules a_places a_steps a_tape_bytes c_siteCount c_stepCount c_seenRules c_at c_wordStart c_number c_failed c_tape_length c_tape_bytes) s.heap := hP.sub (ws' := [(a_, .inr (4, [.ref a_tape, .ref a_rules, .ref a_places, .ref a_steps, .int c_siteCount, .int c_stepCount, .int c_seenRules, .int c_at, .int c_wordStart, .int c_number, .int c_failed])), (a_tape, .inr (7, [.ref a_tape_bytes, .int c_tape_length])), (a_tape_bytes, .inl (E.2.2.1, 320, .inl c_tape_bytes))]) [0, 1, 2] rfl
    have hrc := va_recv hK hPc (ci := 4) (q0 := 0) rfl rfl
    refine pE_z (va_runV (As := [.ref (z9 (20 + 5))]) (rest := [])  ⟨hx, hb, hml, hown, hts⟩ (f_X3_isWord l E K z9 (a_ := a_) (a_tape := a_tape) (a_rules := a_rules) (a_places := a_places) (a_steps := a_steps) (a_tape_bytes := a_tape_bytes) (p1 := 5) (c_siteCount := c_siteCount) (c_stepCount := c_stepCount) (c_seenRules := c_seenRules) (c_at := c_at) (c_wordStart := c_wordStart) (c_number := c_number) (c_failed := c_failed) (c_tape_length := c_tape_length) (c_tape_bytes := c_tape_bytes) hc_6) (cwV 1 hts g_f_X3_lawOfWord_f_X3_isWord_76 rfl rfl rfl hd_X3_isWord ⟨Nat.le_of_ble_eq_true rfl, Nat.le_of_ble_eq_true rfl⟩) ⟨qPZ.blind, hrc, (qPZ.pre0 ⟨hK, hN⟩ hPc hZ)⟩ rfl rfl hl.1 rfl (lv_room (Nat.le_of_ble_eq_true rfl)) dX3_lawOfWord_14 ⟨Nat.le_of_ble_eq_true rfl, Nat.le_of_ble_eq_true rfl⟩) (fun hb_7 => ?_)
    refine lv_if_eq (tgt := 22) hx hb dX3_lawOfWord_17 (by decide) (fun c_8 => ?_) (fun c_8 => ?_)
    ·
      replace hF := ip c_8 hF
      refine lv_aload_n hx hb dX3_lawOfWord_22 rfl (lv_at hl 0 rfl) ?_
      refine va_ldcS hx hb hown (ZZ.s6 hZ) dX3_lawOfWord_23 ?_
      replace hF := bd1_s hF
      obtain ⟨r_9, hc_10, hF⟩ := hF
      have hPc : va_P E.1 vwCl (w_X3_isWord E a_ a_tape a_rules a_places a_steps a_tape_bytes c_siteCount c_stepCount c_seenRules c_at c_wordStart c_number c_failed c_tape_length c_tape_bytes) s.heap := hP.sub (ws' := [(a_, .inr (4, [.ref a_tape, .ref a_rules, .ref a_places, .ref a_steps, .int c_siteCount, .int c_stepCount, .int c_seenRules, .int c_at, .int c_wordStart, .int c_number, .int c_failed])), (a_tape, .inr (7, [.ref a_tape_bytes, .int c_tape_length])), (a_tape_bytes, .inl (E.2.2.1, 320, .inl c_tape_bytes))]) [0, 1, 2] rfl
      have hrc := va_recv hK hPc (ci := 4) (q0 := 0) rfl rfl
      refine pE_z (va_runV (As := [.ref (z9 (20 + 6))]) (rest := [])  ⟨hx, hb, hml, hown, hts⟩ (f_X3_isWord l E K z9 (a_ := a_) (a_tape := a_tape) (a_rules := a_rules) (a_places := a_places) (a_steps := a_steps) (a_tape_bytes := a_tape_bytes) (p1 := 6) (c_siteCount := c_siteCount) (c_stepCount := c_stepCount) (c_seenRules := c_seenRules) (c_at := c_at) (c_wordStart := c_wordStart) (c_number := c_number) (c_failed := c_failed) (c_tape_length := c_tape_length) (c_tape_bytes := c_tape_bytes) hc_10) (cwV 1 hts g_f_X3_lawOfWord_f_X3_isWord_76 rfl rfl rfl hd_X3_isWord ⟨Nat.le_of_ble_eq_true rfl, Nat.le_of_ble_eq_true rfl⟩) ⟨qPZ.blind, hrc, (qPZ.pre0 ⟨hK, hN⟩ hPc hZ)⟩ rfl rfl hl.1 rfl (lv_room (Nat.le_of_ble_eq_true rfl)) dX3_lawOfWord_25 ⟨Nat.le_of_ble_eq_true rfl, Nat.le_of_ble_eq_true rfl⟩) (fun hb_11 => ?_)
      refine lv_if_eq (tgt := 33) hx hb dX3_lawOfWord_28 (by decide) (fun c_12 => ?_) (fun c_12 => ?_)
      ·
        replace hF := ip c_12 hF
        refine lv_aload_n hx hb dX3_lawOfWord_33 rfl (lv_at hl 0 rfl) ?_
        refine va_ldcS hx hb hown (ZZ.s7 hZ) dX3_lawOfWord_34 ?_
        replace hF := bd1_s hF
        obtain ⟨r_13, hc_14, hF⟩ := hF
        have hPc : va_P E.1 vwCl (w_X3_isWord E a_ a_tape a_rules a_places a_steps a_tape_bytes c_siteCount c_stepCount c_seenRules c_at c_wordStart c_number c_failed c_tape_length c_tape_bytes) s.heap := hP.sub (ws' := [(a_, .inr (4, [.ref a_tape, .ref a_rules, .ref a_places, .ref a_steps, .int c_siteCount, .int c_stepCount, .int c_seenRules, .int c_at, .int c_wordStart, .int c_number, .int c_failed])), (a_tape, .inr (7, [.ref a_tape_bytes, .int c_tape_length])), (a_tape_bytes, .inl (E.2.2.1, 320, .inl c_tape_bytes))]) [0, 1, 2] rfl
        have hrc := va_recv hK hPc (ci := 4) (q0 := 0) rfl rfl
        refine pE_z (va_runV (As := [.ref (z9 (20 + 7))]) (rest := [])  ⟨hx, hb, hml, hown, hts⟩ (f_X3_isWord l E K z9 (a_ := a_) (a_tape := a_tape) (a_rules := a_rules) (a_places := a_places) (a_steps := a_steps) (a_tape_bytes := a_tape_bytes) (p1 := 7) (c_siteCount := c_siteCount) (c_stepCount := c_stepCount) (c_seenRules := c_seenRules) (c_at := c_at) (c_wordStart := c_wordStart) (c_number := c_number) (c_failed := c_failed) (c_tape_length := c_tape_length) (c_tape_bytes := c_tape_bytes) hc_14) (cwV 1 hts g_f_X3_lawOfWord_f_X3_isWord_76 rfl rfl rfl hd_X3_isWord ⟨Nat.le_of_ble_eq_true rfl, Nat.le_of_ble_eq_true rfl⟩) ⟨qPZ.blind, hrc, (qPZ.pre0 ⟨hK, hN⟩ hPc hZ)⟩ rfl rfl hl.1 rfl (lv_room (Nat.le_of_ble_eq_true rfl)) dX3_lawOfWord_36 ⟨Nat.le_of_ble_eq_true rfl, Nat.le_of_ble_eq_true rfl⟩) (fun hb_15 => ?_)
        refine lv_if_eq (tgt := 46) hx hb dX3_lawOfWord_39 (by decide) (fun c_16 => ?_) (fun c_16 => ?_)
        ·
          replace hF := ip c_16 hF
          refine lv_iconst (v := -1) hx hb dX3_lawOfWord_46 (by decide) ?_
          rw [hQ]
          obtain e9_0 := inj1 hF
          exact W.iret (v := (-1 : Int32)) hx hb hr (fun tt ht hW => ⟨_, rfl, e9_0, ht⟩) (fun _ h => by cases h) dX3_lawOfWord_47
        ·
          replace hF := inn c_16 hF
          refine lv_iconst (v := 3) hx hb dX3_lawOfWord_42 (by decide) ?_
          refine lv_goto (tgt := 47) hx hb dX3_lawOfWord_43 (by decide) ?_
          rw [hQ]
          obtain e9_0 := inj1 hF
          exact W.iret (v := (3 : Int32)) hx hb hr (fun tt ht hW => ⟨_, rfl, e9_0, ht⟩) (fun _ h => by cases h) dX3_lawOfWord_47
      ·
        replace hF := inn c_12 hF
        refine lv_iconst (v := 2) hx hb dX3_lawOfWord_31 (by decide) ?_
        rw [hQ]
        obtain e9_0 := inj1 hF
        exact W.iret (v := (2 : Int32)) hx hb hr (fun tt ht hW => ⟨_, rfl, e9_0, ht⟩) (fun _ h => by cases h) dX3_lawOfWord_32
    ·
      replace hF := inn c_8 hF
      refine lv_iconst (v := 1) hx hb dX3_lawOfWord_20 (by decide) ?_
      rw [hQ]
      obtain e9_0 := inj1 hF
      exact W.iret (v := (1 : Int32)) hx hb hr (fun tt ht hW => ⟨_, rfl, e9_0, ht⟩) (fun _ h => by cases h) dX3_lawOfWord_21
  ·
    replace hF := inn c_4 hF
    refine lv_iconst (v := 0) hx hb dX3_lawOfWord_9 (by decide) ?_
    rw [hQ]
    obtain e9_0 := inj1 hF
    exact W.iret (v := (0 : Int32)) hx hb hr (fun tt ht hW => ⟨_, rfl, e9_0, ht⟩) (fun _ h => by cases h) dX3_lawOfWord_10

def F_X3_putInStep (p1 : Int32) (p2 : Int32) (c_steps : Nat → Int32) (c_stepCount : Int32) : Option ((Nat → Int32)) :=
  if (12 : Int32) ≤ c_stepCount then some c_steps else if p1 < (0 : Int32) then some c_steps else if (4 : Int32) ≤ p1 then some c_steps else ixF ((c_stepCount * (4 : Int32)) + p1) 48 (nmF (upd c_steps ((c_stepCount * (4 : Int32)) + p1).toNatClampNeg p2) (fun f_5 => some f_5))
abbrev w_X3_putInStep (E : EE) (a_ a_tape a_rules a_places a_steps : Nat) (c_siteCount : Int32) (c_stepCount : Int32) (c_seenRules : Int32) (c_at : Int32) (c_wordStart : Int32) (c_number : Int32) (c_failed : Int32) (c_steps : Nat → Int32) : va_W := [(a_, .inr (4, [.ref a_tape, .ref a_rules, .ref a_places, .ref a_steps, .int c_siteCount, .int c_stepCount, .int c_seenRules, .int c_at, .int c_wordStart, .int c_number, .int c_failed])), (a_steps, .inl (E.2.1, 48, .inl c_steps))]
def v_f_X3_putInStep : List Cond := .code yX3_putInStep cX3_putInStep 3 none :: ([.fieldLink RX3 25 "HushWatch$Reader" "stepCount" "I", .fieldLink RX3 18 "HushWatch$Reader" "steps" "[I"] ++ (wsX30 ++ ([])))
theorem gw_f_X3_putInStep : v_f_X3_putInStep.all goodWord = true := by decide +kernel
theorem i_f_X3_putInStep_X3 : ∀ w ∈ wsX30, w ∈ v_f_X3_putInStep := fun _ h => List.mem_cons_of_mem _ (List.mem_append_right _ (List.mem_append_left _ h))
theorem hd_X3_putInStep : yX3_putInStep.cls = RX3 ∧ yX3_putInStep.cls ≠ "java/lang/invoke/MethodHandle" ∧ yX3_putInStep.cls ≠ "java/lang/invoke/VarHandle" ∧ (parseMethodDescriptor yX3_putInStep.desc).map (fun d => d.parameters.length) = some 2 := by decide +kernel
set_option maxHeartbeats 4000000 in
set_option maxRecDepth 100000 in
theorem f_X3_putInStep (l : Launch) (E : EE) (sz : Nat) {a_ a_tape a_rules a_places a_steps : Nat} {p1 : Int32} {p2 : Int32} {c_siteCount : Int32} {c_stepCount : Int32} {c_seenRules : Int32} {c_at : Int32} {c_wordStart : Int32} {c_number : Int32} {c_failed : Int32} {c_steps : Nat → Int32} {n_steps : Nat → Int32} (hF : F_X3_putInStep p1 p2 c_steps c_stepCount = some n_steps) : Met l yX3_putInStep v_f_X3_putInStep (({ frames := 0, cells := 0, slots := 0, locals := 0 } : Room)) (va_Pc [.ref a_, .int p1, .int p2] (pW E sz (w_X3_putInStep E a_ a_tape a_rules a_places a_steps c_siteCount c_stepCount c_seenRules c_at c_wordStart c_number c_failed c_steps))) (va_Qv (fun (_u : Unit) => True) (fun (_u : Unit) tt => va_P E.1 vwCl (w_X3_putInStep E a_ a_tape a_rules a_places a_steps c_siteCount c_stepCount c_seenRules c_at c_wordStart c_number c_failed n_steps) tt.heap ∧ va_D (va_A (w_X3_putInStep E a_ a_tape a_rules a_places a_steps c_siteCount c_stepCount c_seenRules c_at c_wordStart c_number c_failed c_steps) sz) (w_X3_putInStep E a_ a_tape a_rules a_places a_steps c_siteCount c_stepCount c_seenRules c_at c_wordStart c_number c_failed n_steps)) (va_A (w_X3_putInStep E a_ a_tape a_rules a_places a_steps c_siteCount c_stepCount c_seenRules c_at c_wordStart c_number c_failed c_steps) sz)) 0 0 (va_A (w_X3_putInStep E a_ a_tape a_rules a_places a_steps c_siteCount c_stepCount c_seenRules c_at c_wordStart c_number c_failed c_steps) sz) := by
  refine Met.ofW (cc := cX3_putInStep) (maxL := 3) (ret := none) (by decide) rfl ?_
  intro p e s m args below meth c s₁ B hml hv
  obtain ⟨rfl, hsz, ⟨hK, hN⟩, hP, hD0⟩ := hv
  have hx := B.exec
  have hb := B.bytes
  have hr := B.returns
  have hts := atoms_spec (ws := v_f_X3_putInStep) B.pre
  have hown : s.vm.findClass RX3 = some m.cls := own_of hd_X3_putInStep.1 (findClass_of_methodNamed B.named)
  have hlocks : meth.locks = false := B.notSynchronized
  subst hsz
  have hD := hD0.self (sz := s.heap.size)
  generalize hAe : va_A (w_X3_putInStep E a_ a_tape a_rules a_places a_steps c_siteCount c_stepCount c_seenRules c_at c_wordStart c_number c_failed c_steps) s.heap.size = A at hD ⊢
  have hA : ∀ q : Nat, s.heap.size ≤ q → A q := fun q h => by rw [← hAe]; exact Or.inr h
  have hS : va_S A s.heap s.heap [] := va_S.rf
  have hl := lv_entry ([.ref a_, .int p1, .int p2]) (n := 3) (Nat.le_of_ble_eq_true rfl)
  rw [lg_entry_eq]
  generalize (lg_sl ([.ref a_, .int p1, .int p2]) ++ List.replicate (3 - (lg_sl ([.ref a_, .int p1, .int p2])).length) Slot.unset).toArray = ls at hl ⊢
  have hl : lv_has ls 3 [(0, .ref a_), (1, .int p1), (2, .int p2)] := hl
  obtain ⟨Q, hQ⟩ : ∃ Q : State → Prop, Q = MQ below (va_Qv (fun (_u : Unit) => True) (fun (_u : Unit) tt => va_P E.1 vwCl (w_X3_putInStep E a_ a_tape a_rules a_places a_steps c_siteCount c_stepCount c_seenRules c_at c_wordStart c_number c_failed n_steps) tt.heap ∧ va_D A (w_X3_putInStep E a_ a_tape a_rules a_places a_steps c_siteCount c_stepCount c_seenRules c_at c_wordStart c_number c_failed n_steps)) A) #[Value.ref a_, Value.int p1, Value.int p2] s 0 0 A := ⟨_, rfl⟩
  rw [← hQ]
  change W p l e ({ frames := 0, cells := 0, slots := 0, locals := 0 } : Room) s m #[Value.ref a_, Value.int p1, Value.int p2] below meth c s.heap [] 0 0 Q (F0 m 0 ls [])
  suffices hh9 : ∀ (H : Heap) (locs : List Loc), va_P E.1 vwCl (w_X3_putInStep E a_ a_tape a_rules a_places a_steps c_siteCount c_stepCount c_seenRules c_at c_wordStart c_number c_failed c_steps) H → va_D A (w_X3_putInStep E a_ a_tape a_rules a_places a_steps c_siteCount c_stepCount c_seenRules c_at c_wordStart c_number c_failed c_steps) → va_S A s.heap H locs → W p l e ({ frames := 0, cells := 0, slots := 0, locals := 0 } : Room) s m #[Value.ref a_, Value.int p1, Value.int p2] below meth c H locs 0 0 Q (F0 m 0 ls []) from hh9 s.heap [] hP hD hS
  clear hP hD hS
  intro H locs hP hD hS
  replace hP : va_P E.1 vwCl [(a_, .inr (4, [.ref a_tape, .ref a_rules, .ref a_places, .ref a_steps, .int c_siteCount, .int c_stepCount, .int c_seenRules, .int c_at, .int c_wordStart, .int c_number, .int c_failed])), (a_steps, .inl (E.2.1, 48, .inl c_steps))] H := hP
  replace hD : va_D A [(a_, .inr (4, [.ref a_tape, .ref a_rules, .ref a_places, .ref a_steps, .int c_siteCount, .int c_stepCount, .int c_seenRules, .int c_at, .int c_wordStart, .int c_number, .int c_failed])), (a_steps, .inl (E.2.1, 48, .inl c_steps))] := hD
  unfold F_X3_putInStep at hF
  refine lv_aload_n hx hb dX3_putInStep_0 rfl (lv_at hl 0 rfl) ?_
  refine gt_X3_5 (v := .int c_stepCount) hx hb hts i_f_X3_putInStep_X3 hown hK hP 0 rfl (hts (.fieldLink RX3 25 "HushWatch$Reader" "stepCount" "I") (List.mem_of_getElem? (i := 1) rfl)) rfl dX3_putInStep_1 ?_
  refine lv_bipush (v := 12) hx hb dX3_putInStep_4 (by decide) ?_
  refine lv_icmp_ge (tgt := 32) hx hb dX3_putInStep_6 (by decide) (fun c_1 => ?_) (fun c_1 => ?_)
  ·
    replace hF := ip c_1 hF
    rw [hQ]
    have h9 := fin9 (P := fun u9 : (Nat → Int32) => va_P E.1 vwCl (w_X3_putInStep E a_ a_tape a_rules a_places a_steps c_siteCount c_stepCount c_seenRules c_at c_wordStart c_number c_failed u9) H ∧ va_D A (w_X3_putInStep E a_ a_tape a_rules a_places a_steps c_siteCount c_stepCount c_seenRules c_at c_wordStart c_number c_failed u9)) hF ⟨hP, hD⟩
    obtain ⟨hP9, hD9⟩ := h9
    exact W.vret hx hb hr (fun tt ht hW => ⟨⟨(), rfl, trivial, ht ▸ hP9, hD9⟩, hS.F ht⟩) hS.2.2 dX3_putInStep_32
  ·
    replace hF := inn c_1 hF
    refine lv_iload_n hx hb dX3_putInStep_9 rfl (lv_at hl 1 rfl) ?_
    refine lv_if_lt (tgt := 32) hx hb dX3_putInStep_10 (by decide) (fun c_2 => ?_) (fun c_2 => ?_)
    ·
      replace hF := ip c_2 hF
      rw [hQ]
      have h9 := fin9 (P := fun u9 : (Nat → Int32) => va_P E.1 vwCl (w_X3_putInStep E a_ a_tape a_rules a_places a_steps c_siteCount c_stepCount c_seenRules c_at c_wordStart c_number c_failed u9) H ∧ va_D A (w_X3_putInStep E a_ a_tape a_rules a_places a_steps c_siteCount c_stepCount c_seenRules c_at c_wordStart c_number c_failed u9)) hF ⟨hP, hD⟩
      obtain ⟨hP9, hD9⟩ := h9
      exact W.vret hx hb hr (fun tt ht hW => ⟨⟨(), rfl, trivial, ht ▸ hP9, hD9⟩, hS.F ht⟩) hS.2.2 dX3_putInStep_32
    ·
      replace hF := inn c_2 hF
      refine lv_iload_n hx hb dX3_putInStep_13 rfl (lv_at hl 1 rfl) ?_
      refine lv_iconst (v := 4) hx hb dX3_putInStep_14 (by decide) ?_
      refine lv_icmp_ge (tgt := 32) hx hb dX3_putInStep_15 (by decide) (fun c_3 => ?_) (fun c_3 => ?_)
      ·
        replace hF := ip c_3 hF
        rw [hQ]
        have h9 := fin9 (P := fun u9 : (Nat → Int32) => va_P E.1 vwCl (w_X3_putInStep E a_ a_tape a_rules a_places a_steps c_siteCount c_stepCount c_seenRules c_at c_wordStart c_number c_failed u9) H ∧ va_D A (w_X3_putInStep E a_ a_tape a_rules a_places a_steps c_siteCount c_stepCount c_seenRules c_at c_wordStart c_number c_failed u9)) hF ⟨hP, hD⟩
        obtain ⟨hP9, hD9⟩ := h9
        exact W.vret hx hb hr (fun tt ht hW => ⟨⟨(), rfl, trivial, ht ▸ hP9, hD9⟩, hS.F ht⟩) hS.2.2 dX3_putInStep_32
      ·
        replace hF := inn c_3 hF
        refine lv_aload_n hx hb dX3_putInStep_18 rfl (lv_at hl 0 rfl) ?_
        refine gt_X3_3 (v := .ref a_steps) hx hb hts i_f_X3_putInStep_X3 hown hK hP 0 rfl (hts (.fieldLink RX3 18 "HushWatch$Reader" "steps" "[I") (List.mem_of_getElem? (i := 2) rfl)) rfl dX3_putInStep_19 ?_
        refine lv_aload_n hx hb dX3_putInStep_22 rfl (lv_at hl 0 rfl) ?_
        refine gt_X3_5 (v := .int c_stepCount) hx hb hts i_f_X3_putInStep_X3 hown hK hP 0 rfl (hts (.fieldLink RX3 25 "HushWatch$Reader" "stepCount" "I") (List.mem_of_getElem? (i := 1) rfl)) rfl dX3_putInStep_23 ?_
        refine lv_iconst (v := 4) hx hb dX3_putInStep_26 (by decide) ?_
        refine lv_imul hx hb dX3_putInStep_27 ?_
        refine lv_iload_n hx hb dX3_putInStep_28 rfl (lv_at hl 1 rfl) ?_
        refine lv_iadd hx hb dX3_putInStep_29 ?_
        refine lv_iload_n hx hb dX3_putInStep_30 rfl (lv_at hl 2 rfl) ?_
        replace hF := ix_s hF
        obtain ⟨hi_4, hF⟩ := hF
        refine va_iast hx hb hK hP hD hS 1 0 rfl rfl hi_4 dX3_putInStep_31 (fun H locs hP hD hS => ?_)
        replace hP : va_P E.1 vwCl [(a_, .inr (4, [.ref a_tape, .ref a_rules, .ref a_places, .ref a_steps, .int c_siteCount, .int c_stepCount, .int c_seenRules, .int c_at, .int c_wordStart, .int c_number, .int c_failed])), (a_steps, .inl (E.2.1, 48, .inl (upd c_steps ((c_stepCount * (4 : Int32)) + p1).toNatClampNeg p2)))] H := hP
        replace hD : va_D A [(a_, .inr (4, [.ref a_tape, .ref a_rules, .ref a_places, .ref a_steps, .int c_siteCount, .int c_stepCount, .int c_seenRules, .int c_at, .int c_wordStart, .int c_number, .int c_failed])), (a_steps, .inl (E.2.1, 48, .inl (upd c_steps ((c_stepCount * (4 : Int32)) + p1).toNatClampNeg p2)))] := hD
        replace hF := nm_s hF
        obtain ⟨f_5, hf_5, hF⟩ := hF
        rw [← hf_5] at hP hD
        rw [hQ]
        have h9 := fin9 (P := fun u9 : (Nat → Int32) => va_P E.1 vwCl (w_X3_putInStep E a_ a_tape a_rules a_places a_steps c_siteCount c_stepCount c_seenRules c_at c_wordStart c_number c_failed u9) H ∧ va_D A (w_X3_putInStep E a_ a_tape a_rules a_places a_steps c_siteCount c_stepCount c_seenRules c_at c_wordStart c_number c_failed u9)) hF ⟨hP, hD⟩
        obtain ⟨hP9, hD9⟩ := h9
        exact W.vret hx hb hr (fun tt ht hW => ⟨⟨(), rfl, trivial, ht ▸ hP9, hD9⟩, hS.F ht⟩) hS.2.2 dX3_putInStep_32

def B_X3_readWord_12 (c_tape_length : Int32) (c_tape_bytes : Nat → Int32) (c_at : Int32) : Option ((Int32) ⊕ (Int32)) :=
  if c_tape_length ≤ c_at then some (.inr c_at) else bd1 (F_X6_signAt c_at c_tape_bytes c_tape_length) (fun r_4 => bd1 (F_X3_isLetter r_4) (fun r_6 => if r_6 = (0 : Int32) then some (.inr c_at) else some (.inl (c_at + (1 : Int32)))))
def J_X3_readWord_56 (c_at : Int32) (c_wordStart : Int32) (c_failed : Int32) : Option (Int32 × Int32 × Int32 × Int32) :=
  if c_wordStart < c_at then some ((1 : Int32), c_at, c_wordStart, c_failed) else bd2 (F_X3_failAt c_at c_failed) (fun r_13 w_14 => if r_13 = (0 : Int32) then some ((0 : Int32), c_at, c_wordStart, w_14) else some ((1 : Int32), c_at, c_wordStart, w_14))
def F_X3_readWord (K : Nat) (c_tape_bytes : Nat → Int32) (c_tape_length : Int32) (c_at : Int32) (c_wordStart : Int32) (c_failed : Int32) : Option (Int32 × Int32 × Int32 × Int32) :=
  bd1 (F_X3_skipBlanks K c_tape_bytes c_tape_length c_at) (fun w_1 => bd1 (lpF (fun u9 : Int32 => B_X3_readWord_12 c_tape_length c_tape_bytes u9) K w_1) (fun c_at_10 => J_X3_readWord_56 c_at_10 w_1 c_failed))
abbrev w_X3_readWord (E : EE) (a_ a_tape a_rules a_places a_steps a_tape_bytes : Nat) (c_siteCount : Int32) (c_stepCount : Int32) (c_seenRules : Int32) (c_at : Int32) (c_wordStart : Int32) (c_number : Int32) (c_failed : Int32) (c_tape_length : Int32) (c_tape_bytes : Nat → Int32) : va_W := [(a_, .inr (4, [.ref a_tape, .ref a_rules, .ref a_places, .ref a_steps, .int c_siteCount, .int c_stepCount, .int c_seenRules, .int c_at, .int c_wordStart, .int c_number, .int c_failed])), (a_tape, .inr (7, [.ref a_tape_bytes, .int c_tape_length])), (a_tape_bytes, .inl (E.2.2.1, 320, .inl c_tape_bytes))]
def v_f_X3_readWord : List Cond := .code yX3_readWord cX3_readWord 1 (some .boolean) :: ([.fieldLink RX3 31 "HushWatch$Reader" "at" "I", .fieldLink RX3 34 "HushWatch$Reader" "wordStart" "I", .fieldLink RX3 43 "HushWatch$Reader" "tape" "LHushWatch$Tape;", .methodLink RX3 140 yX3_skipBlanks, .instanceMethod yX3_skipBlanks, .selects RX3 yX3_skipBlanks yX3_skipBlanks, .initialized RX3, .methodLink RX3 143 yX6_signAt, .instanceMethod yX6_signAt, .selects RX6 yX6_signAt yX6_signAt, .initialized RX6, .methodLink RX3 147 yX3_isLetter, .static yX3_isLetter, .methodLink RX3 87 yX3_failAt, .instanceMethod yX3_failAt, .selects RX3 yX3_failAt yX3_failAt] ++ (v_f_X3_skipBlanks ++ (wsX30 ++ (wsX60 ++ (v_f_X6_signAt ++ (v_f_X3_isLetter ++ (v_f_X3_failAt ++ ([]))))))))
theorem gw_f_X3_readWord : v_f_X3_readWord.all goodWord = true := by decide +kernel
theorem i_f_X3_readWord_X3 : ∀ w ∈ wsX30, w ∈ v_f_X3_readWord := fun _ h => List.mem_cons_of_mem _ (List.mem_append_right _ (List.mem_append_right _ (List.mem_append_left _ h)))
theorem i_f_X3_readWord_X6 : ∀ w ∈ wsX60, w ∈ v_f_X3_readWord := fun _ h => List.mem_cons_of_mem _ (List.mem_append_right _ (List.mem_append_right _ (List.mem_append_right _ (List.mem_append_left _ h))))
theorem g_f_X3_readWord_f_X3_skipBlanks_140 : GoodIn v_f_X3_readWord (wsV RX3 140 RX3 yX3_skipBlanks v_f_X3_skipBlanks) := goodIn_app (goodIn_of _ (by decide +kernel)) (goodIn_sub (fun _ h => List.mem_cons_of_mem _ (List.mem_append_right _ (List.mem_append_left _ h))) gw_f_X3_skipBlanks)
theorem g_f_X3_readWord_f_X6_signAt_143 : GoodIn v_f_X3_readWord (wsV RX3 143 RX6 yX6_signAt v_f_X6_signAt) := goodIn_app (goodIn_of _ (by decide +kernel)) (goodIn_sub (fun _ h => List.mem_cons_of_mem _ (List.mem_append_right _ (List.mem_append_right _ (List.mem_append_right _ (List.mem_append_right _ (List.mem_append_left _ h)))))) gw_f_X6_signAt)
theorem g_f_X3_readWord_f_X3_isLetter_147 : GoodIn v_f_X3_readWord (va_wsS RX3 147 yX3_isLetter v_f_X3_isLetter) := goodIn_app (goodIn_of _ (by decide +kernel)) (goodIn_sub (fun _ h => List.mem_cons_of_mem _ (List.mem_append_right _ (List.mem_append_right _ (List.mem_append_right _ (List.mem_append_right _ (List.mem_append_right _ (List.mem_append_left _ h))))))) gw_f_X3_isLetter)
theorem g_f_X3_readWord_f_X3_failAt_87 : GoodIn v_f_X3_readWord (wsV RX3 87 RX3 yX3_failAt v_f_X3_failAt) := goodIn_app (goodIn_of _ (by decide +kernel)) (goodIn_sub (fun _ h => List.mem_cons_of_mem _ (List.mem_append_right _ (List.mem_append_right _ (List.mem_append_right _ (List.mem_append_right _ (List.mem_append_right _ (List.mem_append_right _ (List.mem_append_left _ h)))))))) gw_f_X3_failAt)
theorem hd_X3_readWord : yX3_readWord.cls = RX3 ∧ yX3_readWord.cls ≠ "java/lang/invoke/MethodHandle" ∧ yX3_readWord.cls ≠ "java/lang/invoke/VarHandle" ∧ (parseMethodDescriptor yX3_readWord.desc).map (fun d => d.parameters.length) = some 0 := by decide +kernel
set_option maxHeartbeats 4000000 in
set_option maxRecDepth 100000 in
theorem wb_X3_readWord_12 {p : Program} (l : Launch) {e : Env} {s : State} {m : MethodId} {below : List Frame} {meth : Method} {c : Code} {Q : State → Prop} (E : EE) (K : Nat) {a_ a_tape a_rules a_places a_steps a_tape_bytes : Nat} {c_siteCount : Int32} {c_stepCount : Int32} {c_seenRules : Int32} {c_number : Int32} {c_tape_length : Int32} {c_tape_bytes : Nat → Int32} {c_at : Int32} {c_wordStart : Int32} {c_failed : Int32} (hx : p.tables.exec = Jvm.exec) (hb : c.code = cX3_readWord) (hml : c.maxLocals = 1) (hown : s.vm.findClass RX3 = some m.cls) (hts : ∀ w ∈ v_f_X3_readWord, w.before #[Value.ref a_] s = true) (hK : va_K E.1 vwCl (TY E) s) (hN : NX s) {A : Nat → Prop} (hA : ∀ q : Nat, s.heap.size ≤ q → A q) {xx : (Int32) ⊕ (Int32)} (hC : ∀ (c_at : Int32), xx = .inl c_at → ∀ (H : Heap) (locs : List Loc) (ls : Array Slot), va_P E.1 vwCl (w_X3_readWord E a_ a_tape a_rules a_places a_steps a_tape_bytes c_siteCount c_stepCount c_seenRules c_at c_wordStart c_number c_failed c_tape_length c_tape_bytes) H → va_D A (w_X3_readWord E a_ a_tape a_rules a_places a_steps a_tape_bytes c_siteCount c_stepCount c_seenRules c_at c_wordStart c_number c_failed c_tape_length c_tape_bytes) → va_S A s.heap H locs → lv_has ls 1 [(0, .ref a_)] → W p l e ({ frames := 2, cells := 0, slots := 0, locals := 41 } : Room) s m #[Value.ref a_] below meth c H locs 0 0 Q (F0 m 12 ls [])) (hE : ∀ (c_at : Int32), xx = .inr c_at → ((∀ (H : Heap) (locs : List Loc) (ls : Array Slot), va_P E.1 vwCl (w_X3_readWord E a_ a_tape a_rules a_places a_steps a_tape_bytes c_siteCount c_stepCount c_seenRules c_at c_wordStart c_number c_failed c_tape_length c_tape_bytes) H → va_D A (w_X3_readWord E a_ a_tape a_rules a_places a_steps a_tape_bytes c_siteCount c_stepCount c_seenRules c_at c_wordStart c_number c_failed c_tape_length c_tape_bytes) → va_S A s.heap H locs → lv_has ls 1 [(0, .ref a_)] → W p l e ({ frames := 2, cells := 0, slots := 0, locals := 41 } : Room) s m #[Value.ref a_] below meth c H locs 0 0 Q (F0 m 56 ls [])))) (hF : B_X3_readWord_12 c_tape_length c_tape_bytes c_at = some xx) : ∀ (H : Heap) (locs : List Loc) (ls : Array Slot), va_P E.1 vwCl (w_X3_readWord E a_ a_tape a_rules a_places a_steps a_tape_bytes c_siteCount c_stepCount c_seenRules c_at c_wordStart c_number c_failed c_tape_length c_tape_bytes) H → va_D A (w_X3_readWord E a_ a_tape a_rules a_places a_steps a_tape_bytes c_siteCount c_stepCount c_seenRules c_at c_wordStart c_number c_failed c_tape_length c_tape_bytes) → va_S A s.heap H locs → lv_has ls 1 [(0, .ref a_)] → W p l e ({ frames := 2, cells := 0, slots := 0, locals := 41 } : Room) s m #[Value.ref a_] below meth c H locs 0 0 Q (F0 m 12 ls []) := by
  unfold B_X3_readWord_12 at hF
  intro H locs ls hP hD hS hl
  replace hP : va_P E.1 vwCl [(a_, .inr (4, [.ref a_tape, .ref a_rules, .ref a_places, .ref a_steps, .int c_siteCount, .int c_stepCount, .int c_seenRules, .int c_at, .int c_wordStart, .int c_number, .int c_failed])), (a_tape, .inr (7, [.ref a_tape_bytes, .int c_tape_length])), (a_tape_bytes, .inl (E.2.2.1, 320, .inl c_tape_bytes))] H := hP
  replace hD : va_D A [(a_, .inr (4, [.ref a_tape, .ref a_rules, .ref a_places, .ref a_steps, .int c_siteCount, .int c_stepCount, .int c_seenRules, .int c_at, .int c_wordStart, .int c_number, .int c_failed])), (a_tape, .inr (7, [.ref a_tape_bytes, .int c_tape_length])), (a_tape_bytes, .inl (E.2.2.1, 320, .inl c_tape_bytes))] := hD
  refine lv_aload_n hx hb dX3_readWord_12 rfl (lv_at hl 0 rfl) ?_
  refine gt_X3_7 (v := .int c_at) hx hb hts i_f_X3_readWord_X3 hown hK hP 0 rfl (hts (.fieldLink RX3 31 "HushWatch$Reader" "at" "I") (List.mem_of_getElem? (i := 1) rfl)) rfl dX3_readWord_13 ?_
  refine lv_aload_n hx hb dX3_readWord_16 rfl (lv_at hl 0 rfl) ?_
  refine gt_X3_0 (v := .ref a_tape) hx hb hts i_f_X3_readWord_X3 hown hK hP 0 rfl (hts (.fieldLink RX3 43 "HushWatch$Reader" "tape" "LHushWatch$Tape;") (List.mem_of_getElem? (i := 3) rfl)) rfl dX3_readWord_17 ?_
  refine va_getN (D := E.1) (ci := 7) (v := .int c_tape_length) (C := RX6) (T := TX6) (N := 2) hx hb hts i_f_X3_readWord_X6 hown hK hP 1 rfl rfl 1 (by decide) (nx hN 2 rfl) (fun _ h9 => h9) rfl dX3_readWord_20 ?_
  refine lv_icmp_ge (tgt := 56) hx hb dX3_readWord_23 (by decide) (fun c_3 => ?_) (fun c_3 => ?_)
  ·
    replace hF := ip c_3 hF
    cases hF
    exact hE c_at rfl H locs ls (hP.sub [0, 1, 2] rfl) (hD.sub [0, 1, 2] (by decide) rfl) hS (lv_sub hl [0] rfl)
  ·
    replace hF := inn c_3 hF
    refine lv_aload_n hx hb dX3_readWord_26 rfl (lv_at hl 0 rfl) ?_
    refine gt_X3_0 (v := .ref a_tape) hx hb hts i_f_X3_readWord_X3 hown hK hP 0 rfl (hts (.fieldLink RX3 43 "HushWatch$Reader" "tape" "LHushWatch$Tape;") (List.mem_of_getElem? (i := 3) rfl)) rfl dX3_readWord_27 ?_
    refine lv_aload_n hx hb dX3_readWord_30 rfl (lv_at hl 0 rfl) ?_
    refine gt_X3_7 (v := .int c_at) hx hb hts i_f_X3_readWord_X3 hown hK hP 0 rfl (hts (.fieldLink RX3 31 "HushWatch$Reader" "at" "I") (List.mem_of_getElem? (i := 1) rfl)) rfl dX3_readWord_31 ?_
    replace hF := bd1_s hF
    obtain ⟨r_4, hc_5, hF⟩ := hF
    have hPc : va_P E.1 vwCl (w_X6_signAt E a_tape a_tape_bytes c_tape_length c_tape_bytes) H := hP.sub (ws' := [(a_tape, .inr (7, [.ref a_tape_bytes, .int c_tape_length])), (a_tape_bytes, .inl (E.2.2.1, 320, .inl c_tape_bytes))]) [1, 2] rfl
    have hrc := va_recv hK hPc (ci := 7) (q0 := 0) rfl rfl
    refine pE_i (va_runV (As := [.int c_at]) (rest := [])  ⟨hx, hb, hml, hown, hts⟩ (f_X6_signAt l E (a_ := a_tape) (a_bytes := a_tape_bytes) (p1 := c_at) (c_length := c_tape_length) (c_bytes := c_tape_bytes) hc_5) (cwV 1 hts g_f_X3_readWord_f_X6_signAt_143 rfl rfl rfl hd_X6_signAt ⟨Nat.le_of_ble_eq_true rfl, Nat.le_of_ble_eq_true rfl⟩) ⟨pP.blind, hrc, (pP.pre ⟨hK, hN⟩ hPc)⟩ rfl rfl hl.1 rfl (lv_room (Nat.le_of_ble_eq_true rfl)) dX3_readWord_34 ⟨Nat.le_of_ble_eq_true rfl, Nat.le_of_ble_eq_true rfl⟩) ?_
    replace hF := bd1_s hF
    obtain ⟨r_6, hc_7, hF⟩ := hF
    have hPc : va_P E.1 vwCl [] H := fun k q h => by simp at h
    refine pE_z (va_runS (As := [.int r_4]) (rest := [])  ⟨hx, hb, hml, hown, hts⟩ (f_X3_isLetter l E (p0 := r_4) hc_7) (va_cwS 1 hts g_f_X3_readWord_f_X3_isLetter_147 rfl rfl rfl hd_X3_isLetter.2 ⟨Nat.le_of_ble_eq_true rfl, Nat.le_of_ble_eq_true rfl⟩) ⟨pP.blind, (pP.pre ⟨hK, hN⟩ hPc)⟩ rfl rfl hl.1 rfl (lv_room (Nat.le_of_ble_eq_true rfl)) dX3_readWord_37 ⟨Nat.le_of_ble_eq_true rfl, Nat.le_of_ble_eq_true rfl⟩) (fun hb_8 => ?_)
    refine lv_if_eq (tgt := 56) hx hb dX3_readWord_40 (by decide) (fun c_9 => ?_) (fun c_9 => ?_)
    ·
      replace hF := ip c_9 hF
      cases hF
      exact hE c_at rfl H locs ls (hP.sub [0, 1, 2] rfl) (hD.sub [0, 1, 2] (by decide) rfl) hS (lv_sub hl [0] rfl)
    ·
      replace hF := inn c_9 hF
      refine lv_aload_n hx hb dX3_readWord_43 rfl (lv_at hl 0 rfl) ?_
      refine lv_dup hx hb dX3_readWord_44 rfl ?_
      refine gt_X3_7 (v := .int c_at) hx hb hts i_f_X3_readWord_X3 hown hK hP 0 rfl (hts (.fieldLink RX3 31 "HushWatch$Reader" "at" "I") (List.mem_of_getElem? (i := 1) rfl)) rfl dX3_readWord_45 ?_
      refine lv_iconst (v := 1) hx hb dX3_readWord_48 (by decide) ?_
      refine lv_iadd hx hb dX3_readWord_49 ?_
      refine pt_X3_7 (v := .int (c_at + (1 : Int32))) hx hb hts i_f_X3_readWord_X3 hown hK hP hD hS 0 rfl (hts (.fieldLink RX3 31 "HushWatch$Reader" "at" "I") (List.mem_of_getElem? (i := 1) rfl)) rfl rfl (Nat.le_of_ble_eq_true rfl) dX3_readWord_50 (fun H locs hP hD hS => ?_)
      replace hP : va_P E.1 vwCl [(a_, .inr (4, [.ref a_tape, .ref a_rules, .ref a_places, .ref a_steps, .int c_siteCount, .int c_stepCount, .int c_seenRules, .int (c_at + (1 : Int32)), .int c_wordStart, .int c_number, .int c_failed])), (a_tape, .inr (7, [.ref a_tape_bytes, .int c_tape_length])), (a_tape_bytes, .inl (E.2.2.1, 320, .inl c_tape_bytes))] H := hP
      replace hD : va_D A [(a_, .inr (4, [.ref a_tape, .ref a_rules, .ref a_places, .ref a_steps, .int c_siteCount, .int c_stepCount, .int c_seenRules, .int (c_at + (1 : Int32)), .int c_wordStart, .int c_number, .int c_failed])), (a_tape, .inr (7, [.ref a_tape_bytes, .int c_tape_length])), (a_tape_bytes, .inl (E.2.2.1, 320, .inl c_tape_bytes))] := hD
      refine lv_goto (tgt := 12) hx hb dX3_readWord_53 (by decide) ?_
      cases hF
      exact hC (c_at + (1 : Int32)) rfl H locs ls (hP.sub [0, 1, 2] rfl) (hD.sub [0, 1, 2] (by decide) rfl) hS (lv_sub hl [0] rfl)

set_option maxHeartbeats 4000000 in
set_option maxRecDepth 100000 in
theorem lw_X3_readWord_12 {p : Program} (l : Launch) {e : Env} {s : State} {m : MethodId} {below : List Frame} {meth : Method} {c : Code} {Q : State → Prop} (E : EE) (K : Nat) {a_ a_tape a_rules a_places a_steps a_tape_bytes : Nat} {c_siteCount : Int32} {c_stepCount : Int32} {c_seenRules : Int32} {c_number : Int32} {c_tape_length : Int32} {c_tape_bytes : Nat → Int32} {c_wordStart : Int32} {c_failed : Int32} (hx : p.tables.exec = Jvm.exec) (hb : c.code = cX3_readWord) (hml : c.maxLocals = 1) (hown : s.vm.findClass RX3 = some m.cls) (hts : ∀ w ∈ v_f_X3_readWord, w.before #[Value.ref a_] s = true) (hK : va_K E.1 vwCl (TY E) s) (hN : NX s) {A : Nat → Prop} (hA : ∀ q : Nat, s.heap.size ≤ q → A q) (j9 : Nat) (c_at : Int32) (c_at' : Int32) (hL : lpF (fun u9 : Int32 => B_X3_readWord_12 c_tape_length c_tape_bytes u9) j9 c_at = some c_at') (hX : (∀ (H : Heap) (locs : List Loc) (ls : Array Slot), va_P E.1 vwCl (w_X3_readWord E a_ a_tape a_rules a_places a_steps a_tape_bytes c_siteCount c_stepCount c_seenRules c_at' c_wordStart c_number c_failed c_tape_length c_tape_bytes) H → va_D A (w_X3_readWord E a_ a_tape a_rules a_places a_steps a_tape_bytes c_siteCount c_stepCount c_seenRules c_at' c_wordStart c_number c_failed c_tape_length c_tape_bytes) → va_S A s.heap H locs → lv_has ls 1 [(0, .ref a_)] → W p l e ({ frames := 2, cells := 0, slots := 0, locals := 41 } : Room) s m #[Value.ref a_] below meth c H locs 0 0 Q (F0 m 56 ls []))) : ∀ (H : Heap) (locs : List Loc) (ls : Array Slot), va_P E.1 vwCl (w_X3_readWord E a_ a_tape a_rules a_places a_steps a_tape_bytes c_siteCount c_stepCount c_seenRules c_at c_wordStart c_number c_failed c_tape_length c_tape_bytes) H → va_D A (w_X3_readWord E a_ a_tape a_rules a_places a_steps a_tape_bytes c_siteCount c_stepCount c_seenRules c_at c_wordStart c_number c_failed c_tape_length c_tape_bytes) → va_S A s.heap H locs → lv_has ls 1 [(0, .ref a_)] → W p l e ({ frames := 2, cells := 0, slots := 0, locals := 41 } : Room) s m #[Value.ref a_] below meth c H locs 0 0 Q (F0 m 12 ls []) := by
  exact lp_rule (P := (fun u9 : Int32 => ∀ (H : Heap) (locs : List Loc) (ls : Array Slot), va_P E.1 vwCl (w_X3_readWord E a_ a_tape a_rules a_places a_steps a_tape_bytes c_siteCount c_stepCount c_seenRules u9 c_wordStart c_number c_failed c_tape_length c_tape_bytes) H → va_D A (w_X3_readWord E a_ a_tape a_rules a_places a_steps a_tape_bytes c_siteCount c_stepCount c_seenRules u9 c_wordStart c_number c_failed c_tape_length c_tape_bytes) → va_S A s.heap H locs → lv_has ls 1 [(0, .ref a_)] → W p l e ({ frames := 2, cells := 0, slots := 0, locals := 41 } : Room) s m #[Value.ref a_] below meth c H locs 0 0 Q (F0 m 12 ls []))) (R := (fun r9 : Int32 => (∀ (H : Heap) (locs : List Loc) (ls : Array Slot), va_P E.1 vwCl (w_X3_readWord E a_ a_tape a_rules a_places a_steps a_tape_bytes c_siteCount c_stepCount c_seenRules r9 c_wordStart c_number c_failed c_tape_length c_tape_bytes) H → va_D A (w_X3_readWord E a_ a_tape a_rules a_places a_steps a_tape_bytes c_siteCount c_stepCount c_seenRules r9 c_wordStart c_number c_failed c_tape_length c_tape_bytes) → va_S A s.heap H locs → lv_has ls 1 [(0, .ref a_)] → W p l e ({ frames := 2, cells := 0, slots := 0, locals := 41 } : Room) s m #[Value.ref a_] below meth c H locs 0 0 Q (F0 m 56 ls [])))) (fun u9 xx hF hC hE => wb_X3_readWord_12 l E K (c_siteCount := c_siteCount) (c_stepCount := c_stepCount) (c_seenRules := c_seenRules) (c_number := c_number) (c_tape_length := c_tape_length) (c_tape_bytes := c_tape_bytes) (c_at := u9) (c_wordStart := c_wordStart) (c_failed := c_failed) hx hb hml hown hts hK hN hA (fun c_at q9 => hC _ q9) (fun c_at q9 => hE _ q9) hF) j9 c_at c_at' hL hX

set_option maxHeartbeats 4000000 in
set_option maxRecDepth 100000 in
theorem j_X3_readWord_56 {p : Program} (l : Launch) {e : Env} {s : State} {m : MethodId} {below : List Frame} {meth : Method} {c : Code} {Q : State → Prop} (E : EE) (K : Nat) {a_ a_tape a_rules a_places a_steps a_tape_bytes : Nat} {c_siteCount : Int32} {c_stepCount : Int32} {c_seenRules : Int32} {c_number : Int32} {c_tape_length : Int32} {c_tape_bytes : Nat → Int32} {c_at : Int32} {c_wordStart : Int32} {c_failed : Int32} (hx : p.tables.exec = Jvm.exec) (hb : c.code = cX3_readWord) (hml : c.maxLocals = 1) (hown : s.vm.findClass RX3 = some m.cls) (hts : ∀ w ∈ v_f_X3_readWord, w.before #[Value.ref a_] s = true) (hK : va_K E.1 vwCl (TY E) s) (hN : NX s) {A : Nat → Prop} (hA : ∀ q : Nat, s.heap.size ≤ q → A q) {rr : Int32} {n_at : Int32} {n_wordStart : Int32} {n_failed : Int32} (hr : meth.sig.returnType = (some .boolean)) (hlocks : meth.locks = false) (hQ : Q = MQ below (va_Qi (fun (q : Int32) (_u : Unit) => q = rr ∧ (q = 0 ∨ q = 1)) (fun (_u : Unit) tt => va_P E.1 vwCl (w_X3_readWord E a_ a_tape a_rules a_places a_steps a_tape_bytes c_siteCount c_stepCount c_seenRules n_at n_wordStart c_number n_failed c_tape_length c_tape_bytes) tt.heap ∧ va_D A (w_X3_readWord E a_ a_tape a_rules a_places a_steps a_tape_bytes c_siteCount c_stepCount c_seenRules n_at n_wordStart c_number n_failed c_tape_length c_tape_bytes)) A) #[Value.ref a_] s 0 0 A) (hF : J_X3_readWord_56 c_at c_wordStart c_failed = some (rr, n_at, n_wordStart, n_failed)) : ∀ (H : Heap) (locs : List Loc) (ls : Array Slot), va_P E.1 vwCl (w_X3_readWord E a_ a_tape a_rules a_places a_steps a_tape_bytes c_siteCount c_stepCount c_seenRules c_at c_wordStart c_number c_failed c_tape_length c_tape_bytes) H → va_D A (w_X3_readWord E a_ a_tape a_rules a_places a_steps a_tape_bytes c_siteCount c_stepCount c_seenRules c_at c_wordStart c_number c_failed c_tape_length c_tape_bytes) → va_S A s.heap H locs → lv_has ls 1 [(0, .ref a_)] → W p l e ({ frames := 2, cells := 0, slots := 0, locals := 41 } : Room) s m #[Value.ref a_] below meth c H locs 0 0 Q (F0 m 56 ls []) := by
  unfold J_X3_readWord_56 at hF
  intro H locs ls hP hD hS hl
  replace hP : va_P E.1 vwCl [(a_, .inr (4, [.ref a_tape, .ref a_rules, .ref a_places, .ref a_steps, .int c_siteCount, .int c_stepCount, .int c_seenRules, .int c_at, .int c_wordStart, .int c_number, .int c_failed])), (a_tape, .inr (7, [.ref a_tape_bytes, .int c_tape_length])), (a_tape_bytes, .inl (E.2.2.1, 320, .inl c_tape_bytes))] H := hP
  replace hD : va_D A [(a_, .inr (4, [.ref a_tape, .ref a_rules, .ref a_places, .ref a_steps, .int c_siteCount, .int c_stepCount, .int c_seenRules, .int c_at, .int c_wordStart, .int c_number, .int c_failed])), (a_tape, .inr (7, [.ref a_tape_bytes, .int c_tape_length])), (a_tape_bytes, .inl (E.2.2.1, 320, .inl c_tape_bytes))] := hD
  refine lv_aload_n hx hb dX3_readWord_56 rfl (lv_at hl 0 rfl) ?_
  refine gt_X3_7 (v := .int c_at) hx hb hts i_f_X3_readWord_X3 hown hK hP 0 rfl (hts (.fieldLink RX3 31 "HushWatch$Reader" "at" "I") (List.mem_of_getElem? (i := 1) rfl)) rfl dX3_readWord_57 ?_
  refine lv_aload_n hx hb dX3_readWord_60 rfl (lv_at hl 0 rfl) ?_
  refine gt_X3_8 (v := .int c_wordStart) hx hb hts i_f_X3_readWord_X3 hown hK hP 0 rfl (hts (.fieldLink RX3 34 "HushWatch$Reader" "wordStart" "I") (List.mem_of_getElem? (i := 2) rfl)) rfl dX3_readWord_61 ?_
  refine lv_icmp_gt (tgt := 78) hx hb dX3_readWord_64 (by decide) (fun c_12 => ?_) (fun c_12 => ?_)
  ·
    replace hF := ip c_12 hF
    refine lv_iconst (v := 1) hx hb dX3_readWord_78 (by decide) ?_
    refine lv_goto (tgt := 83) hx hb dX3_readWord_79 (by decide) ?_
    rw [hQ]
    have h9 := fin9 (P := fun u9 : Int32 × Int32 × Int32 × Int32 => (1 : Int32) = u9.1 ∧ va_P E.1 vwCl (w_X3_readWord E a_ a_tape a_rules a_places a_steps a_tape_bytes c_siteCount c_stepCount c_seenRules u9.2.1 u9.2.2.1 c_number u9.2.2.2 c_tape_length c_tape_bytes) H ∧ va_D A (w_X3_readWord E a_ a_tape a_rules a_places a_steps a_tape_bytes c_siteCount c_stepCount c_seenRules u9.2.1 u9.2.2.1 c_number u9.2.2.2 c_tape_length c_tape_bytes)) hF ⟨rfl, hP, hD⟩
    obtain ⟨e9_0, hP9, hD9⟩ := h9
    exact W.zret (v := (1 : Int32)) hx hb hr rfl (fun tt ht hW => ⟨⟨_, (), rfl, ⟨e9_0, Or.inr rfl⟩, ht ▸ hP9, hD9⟩, hS.F ht⟩) hS.2.2 dX3_readWord_83
  ·
    replace hF := inn c_12 hF
    refine lv_aload_n hx hb dX3_readWord_67 rfl (lv_at hl 0 rfl) ?_
    refine lv_aload_n hx hb dX3_readWord_68 rfl (lv_at hl 0 rfl) ?_
    refine gt_X3_7 (v := .int c_at) hx hb hts i_f_X3_readWord_X3 hown hK hP 0 rfl (hts (.fieldLink RX3 31 "HushWatch$Reader" "at" "I") (List.mem_of_getElem? (i := 1) rfl)) rfl dX3_readWord_69 ?_
    replace hF := bd2_s hF
    obtain ⟨r_13, w_14, hc_15, hF⟩ := hF
    obtain ⟨hPc, hDc, hFc⟩ := wcut (wc := (w_X3_failAt E a_ a_tape a_rules a_places a_steps c_siteCount c_stepCount c_seenRules c_at c_wordStart c_number c_failed)) hP hD hS hA [0] (by decide) rfl
    have hrc := va_recv hK hPc (ci := 4) (q0 := 0) rfl rfl
    refine cE_z (wc := (w_X3_failAt E a_ a_tape a_rules a_places a_steps c_siteCount c_stepCount c_seenRules c_at c_wordStart c_number c_failed)) (wr := [(a_tape, .inr (7, [.ref a_tape_bytes, .int c_tape_length])), (a_tape_bytes, .inl (E.2.2.1, 320, .inl c_tape_bytes))]) (w1 := (w_X3_failAt E a_ a_tape a_rules a_places a_steps c_siteCount c_stepCount c_seenRules c_at c_wordStart c_number w_14)) (va_runV (As := [.int c_at]) (rest := [])  ⟨hx, hb, hml, hown, hts⟩ (f_X3_failAt l E H.size (a_ := a_) (a_tape := a_tape) (a_rules := a_rules) (a_places := a_places) (a_steps := a_steps) (p1 := c_at) (c_siteCount := c_siteCount) (c_stepCount := c_stepCount) (c_seenRules := c_seenRules) (c_at := c_at) (c_wordStart := c_wordStart) (c_number := c_number) (c_failed := c_failed) hc_15) (cwV 1 hts g_f_X3_readWord_f_X3_failAt_87 rfl rfl rfl hd_X3_failAt ⟨Nat.le_of_ble_eq_true rfl, Nat.le_of_ble_eq_true rfl⟩) ⟨pW.blind, hrc, (pW.pre ⟨hK, hN⟩ hPc hDc)⟩ rfl rfl hl.1 rfl (lv_room (Nat.le_of_ble_eq_true rfl)) dX3_readWord_72 ⟨Nat.le_of_ble_eq_true rfl, Nat.le_of_ble_eq_true rfl⟩) hS hFc hP hD [0] [1, 2] rfl rfl (by decide) (by decide) (fun hb_16 H locs hP hD hS => ?_)
    replace hP : va_P E.1 vwCl [(a_tape, .inr (7, [.ref a_tape_bytes, .int c_tape_length])), (a_tape_bytes, .inl (E.2.2.1, 320, .inl c_tape_bytes)), (a_, .inr (4, [.ref a_tape, .ref a_rules, .ref a_places, .ref a_steps, .int c_siteCount, .int c_stepCount, .int c_seenRules, .int c_at, .int c_wordStart, .int c_number, .int w_14]))] H := hP
    replace hD : va_D A [(a_tape, .inr (7, [.ref a_tape_bytes, .int c_tape_length])), (a_tape_bytes, .inl (E.2.2.1, 320, .inl c_tape_bytes)), (a_, .inr (4, [.ref a_tape, .ref a_rules, .ref a_places, .ref a_steps, .int c_siteCount, .int c_stepCount, .int c_seenRules, .int c_at, .int c_wordStart, .int c_number, .int w_14]))] := hD
    refine lv_if_eq (tgt := 82) hx hb dX3_readWord_75 (by decide) (fun c_17 => ?_) (fun c_17 => ?_)
    ·
      replace hF := ip c_17 hF
      refine lv_iconst (v := 0) hx hb dX3_readWord_82 (by decide) ?_
      rw [hQ]
      have h9 := fin9 (P := fun u9 : Int32 × Int32 × Int32 × Int32 => (0 : Int32) = u9.1 ∧ va_P E.1 vwCl (w_X3_readWord E a_ a_tape a_rules a_places a_steps a_tape_bytes c_siteCount c_stepCount c_seenRules u9.2.1 u9.2.2.1 c_number u9.2.2.2 c_tape_length c_tape_bytes) H ∧ va_D A (w_X3_readWord E a_ a_tape a_rules a_places a_steps a_tape_bytes c_siteCount c_stepCount c_seenRules u9.2.1 u9.2.2.1 c_number u9.2.2.2 c_tape_length c_tape_bytes)) hF ⟨rfl, hP.sub [2, 0, 1] rfl, hD.sub [2, 0, 1] (by decide) rfl⟩
      obtain ⟨e9_0, hP9, hD9⟩ := h9
      exact W.zret (v := (0 : Int32)) hx hb hr rfl (fun tt ht hW => ⟨⟨_, (), rfl, ⟨e9_0, Or.inl rfl⟩, ht ▸ hP9, hD9⟩, hS.F ht⟩) hS.2.2 dX3_readWord_83
    ·
      replace hF := inn c_17 hF
      refine lv_iconst (v := 1) hx hb dX3_readWord_78 (by decide) ?_
      refine lv_goto (tgt := 83) hx hb dX3_readWord_79 (by decide) ?_
      rw [hQ]
      have h9 := fin9 (P := fun u9 : Int32 × Int32 × Int32 × Int32 => (1 : Int32) = u9.1 ∧ va_P E.1 vwCl (w_X3_readWord E a_ a_tape a_rules a_places a_steps a_tape_bytes c_siteCount c_stepCount c_seenRules u9.2.1 u9.2.2.1 c_number u9.2.2.2 c_tape_length c_tape_bytes) H ∧ va_D A (w_X3_readWord E a_ a_tape a_rules a_places a_steps a_tape_bytes c_siteCount c_stepCount c_seenRules u9.2.1 u9.2.2.1 c_number u9.2.2.2 c_tape_length c_tape_bytes)) hF ⟨rfl, hP.sub [2, 0, 1] rfl, hD.sub [2, 0, 1] (by decide) rfl⟩
      obtain ⟨e9_0, hP9, hD9⟩ := h9
      exact W.zret (v := (1 : Int32)) hx hb hr rfl (fun tt ht hW => ⟨⟨_, (), rfl, ⟨e9_0, Or.inr rfl⟩, ht ▸ hP9, hD9⟩, hS.F ht⟩) hS.2.2 dX3_readWord_83

set_option maxHeartbeats 4000000 in
set_option maxRecDepth 100000 in
theorem f_X3_readWord (l : Launch) (E : EE) (sz : Nat) (K : Nat) {a_ a_tape a_rules a_places a_steps a_tape_bytes : Nat} {c_siteCount : Int32} {c_stepCount : Int32} {c_seenRules : Int32} {c_at : Int32} {c_wordStart : Int32} {c_number : Int32} {c_failed : Int32} {c_tape_length : Int32} {c_tape_bytes : Nat → Int32} {rr : Int32} {n_at : Int32} {n_wordStart : Int32} {n_failed : Int32} (hF : F_X3_readWord K c_tape_bytes c_tape_length c_at c_wordStart c_failed = some (rr, n_at, n_wordStart, n_failed)) : Met l yX3_readWord v_f_X3_readWord (({ frames := 2, cells := 0, slots := 0, locals := 41 } : Room)) (va_Pc [.ref a_] (pW E sz (w_X3_readWord E a_ a_tape a_rules a_places a_steps a_tape_bytes c_siteCount c_stepCount c_seenRules c_at c_wordStart c_number c_failed c_tape_length c_tape_bytes))) (va_Qi (fun (q : Int32) (_u : Unit) => q = rr ∧ (q = 0 ∨ q = 1)) (fun (_u : Unit) tt => va_P E.1 vwCl (w_X3_readWord E a_ a_tape a_rules a_places a_steps a_tape_bytes c_siteCount c_stepCount c_seenRules n_at n_wordStart c_number n_failed c_tape_length c_tape_bytes) tt.heap ∧ va_D (va_A (w_X3_readWord E a_ a_tape a_rules a_places a_steps a_tape_bytes c_siteCount c_stepCount c_seenRules c_at c_wordStart c_number c_failed c_tape_length c_tape_bytes) sz) (w_X3_readWord E a_ a_tape a_rules a_places a_steps a_tape_bytes c_siteCount c_stepCount c_seenRules n_at n_wordStart c_number n_failed c_tape_length c_tape_bytes)) (va_A (w_X3_readWord E a_ a_tape a_rules a_places a_steps a_tape_bytes c_siteCount c_stepCount c_seenRules c_at c_wordStart c_number c_failed c_tape_length c_tape_bytes) sz)) 0 0 (va_A (w_X3_readWord E a_ a_tape a_rules a_places a_steps a_tape_bytes c_siteCount c_stepCount c_seenRules c_at c_wordStart c_number c_failed c_tape_length c_tape_bytes) sz) := by
  refine Met.ofW (cc := cX3_readWord) (maxL := 1) (ret := (some .boolean)) (by decide) rfl ?_
  intro p e s m args below meth c s₁ B hml hv
  obtain ⟨rfl, hsz, ⟨hK, hN⟩, hP, hD0⟩ := hv
  have hx := B.exec
  have hb := B.bytes
  have hr := B.returns
  have hts := atoms_spec (ws := v_f_X3_readWord) B.pre
  have hown : s.vm.findClass RX3 = some m.cls := own_of hd_X3_readWord.1 (findClass_of_methodNamed B.named)
  have hlocks : meth.locks = false := B.notSynchronized
  subst hsz
  have hD := hD0.self (sz := s.heap.size)
  generalize hAe : va_A (w_X3_readWord E a_ a_tape a_rules a_places a_steps a_tape_bytes c_siteCount c_stepCount c_seenRules c_at c_wordStart c_number c_failed c_tape_length c_tape_bytes) s.heap.size = A at hD ⊢
  have hA : ∀ q : Nat, s.heap.size ≤ q → A q := fun q h => by rw [← hAe]; exact Or.inr h
  have hS : va_S A s.heap s.heap [] := va_S.rf
  have hl := lv_entry ([.ref a_]) (n := 1) (Nat.le_of_ble_eq_true rfl)
  rw [lg_entry_eq]
  generalize (lg_sl ([.ref a_]) ++ List.replicate (1 - (lg_sl ([.ref a_])).length) Slot.unset).toArray = ls at hl ⊢
  have hl : lv_has ls 1 [(0, .ref a_)] := hl
  obtain ⟨Q, hQ⟩ : ∃ Q : State → Prop, Q = MQ below (va_Qi (fun (q : Int32) (_u : Unit) => q = rr ∧ (q = 0 ∨ q = 1)) (fun (_u : Unit) tt => va_P E.1 vwCl (w_X3_readWord E a_ a_tape a_rules a_places a_steps a_tape_bytes c_siteCount c_stepCount c_seenRules n_at n_wordStart c_number n_failed c_tape_length c_tape_bytes) tt.heap ∧ va_D A (w_X3_readWord E a_ a_tape a_rules a_places a_steps a_tape_bytes c_siteCount c_stepCount c_seenRules n_at n_wordStart c_number n_failed c_tape_length c_tape_bytes)) A) #[Value.ref a_] s 0 0 A := ⟨_, rfl⟩
  rw [← hQ]
  change W p l e ({ frames := 2, cells := 0, slots := 0, locals := 41 } : Room) s m #[Value.ref a_] below meth c s.heap [] 0 0 Q (F0 m 0 ls [])
  suffices hh9 : ∀ (H : Heap) (locs : List Loc), va_P E.1 vwCl (w_X3_readWord E a_ a_tape a_rules a_places a_steps a_tape_bytes c_siteCount c_stepCount c_seenRules c_at c_wordStart c_number c_failed c_tape_length c_tape_bytes) H → va_D A (w_X3_readWord E a_ a_tape a_rules a_places a_steps a_tape_bytes c_siteCount c_stepCount c_seenRules c_at c_wordStart c_number c_failed c_tape_length c_tape_bytes) → va_S A s.heap H locs → W p l e ({ frames := 2, cells := 0, slots := 0, locals := 41 } : Room) s m #[Value.ref a_] below meth c H locs 0 0 Q (F0 m 0 ls []) from hh9 s.heap [] hP hD hS
  clear hP hD hS
  intro H locs hP hD hS
  replace hP : va_P E.1 vwCl [(a_, .inr (4, [.ref a_tape, .ref a_rules, .ref a_places, .ref a_steps, .int c_siteCount, .int c_stepCount, .int c_seenRules, .int c_at, .int c_wordStart, .int c_number, .int c_failed])), (a_tape, .inr (7, [.ref a_tape_bytes, .int c_tape_length])), (a_tape_bytes, .inl (E.2.2.1, 320, .inl c_tape_bytes))] H := hP
  replace hD : va_D A [(a_, .inr (4, [.ref a_tape, .ref a_rules, .ref a_places, .ref a_steps, .int c_siteCount, .int c_stepCount, .int c_seenRules, .int c_at, .int c_wordStart, .int c_number, .int c_failed])), (a_tape, .inr (7, [.ref a_tape_bytes, .int c_tape_length])), (a_tape_bytes, .inl (E.2.2.1, 320, .inl c_tape_bytes))] := hD
  unfold F_X3_readWord at hF
  refine lv_aload_n hx hb dX3_readWord_0 rfl (lv_at hl 0 rfl) ?_
  replace hF := bd1_s hF
  obtain ⟨w_1, hc_2, hF⟩ := hF
  obtain ⟨hPc, hDc, hFc⟩ := wcut (wc := (w_X3_skipBlanks E a_ a_tape a_rules a_places a_steps a_tape_bytes c_siteCount c_stepCount c_seenRules c_at c_wordStart c_number c_failed c_tape_length c_tape_bytes)) hP hD hS hA [0, 1, 2] (by decide) rfl
  have hrc := va_recv hK hPc (ci := 4) (q0 := 0) rfl rfl
  refine cE_v (wc := (w_X3_skipBlanks E a_ a_tape a_rules a_places a_steps a_tape_bytes c_siteCount c_stepCount c_seenRules c_at c_wordStart c_number c_failed c_tape_length c_tape_bytes)) (wr := []) (w1 := (w_X3_skipBlanks E a_ a_tape a_rules a_places a_steps a_tape_bytes c_siteCount c_stepCount c_seenRules w_1 c_wordStart c_number c_failed c_tape_length c_tape_bytes)) (va_runV (As := []) (rest := [])  ⟨hx, hb, hml, hown, hts⟩ (f_X3_skipBlanks l E H.size K (a_ := a_) (a_tape := a_tape) (a_rules := a_rules) (a_places := a_places) (a_steps := a_steps) (a_tape_bytes := a_tape_bytes) (c_siteCount := c_siteCount) (c_stepCount := c_stepCount) (c_seenRules := c_seenRules) (c_at := c_at) (c_wordStart := c_wordStart) (c_number := c_number) (c_failed := c_failed) (c_tape_length := c_tape_length) (c_tape_bytes := c_tape_bytes) hc_2) (cwV 0 hts g_f_X3_readWord_f_X3_skipBlanks_140 rfl rfl rfl hd_X3_skipBlanks ⟨Nat.le_of_ble_eq_true rfl, Nat.le_of_ble_eq_true rfl⟩) ⟨pW.blind, hrc, (pW.pre ⟨hK, hN⟩ hPc hDc)⟩ rfl rfl hl.1 rfl (lv_room (Nat.le_of_ble_eq_true rfl)) dX3_readWord_1 ⟨Nat.le_of_ble_eq_true rfl, Nat.le_of_ble_eq_true rfl⟩) hS hFc hP hD [0, 1, 2] [] rfl rfl (by decide) (by decide) (fun H locs hP hD hS => ?_)
  replace hP : va_P E.1 vwCl [(a_, .inr (4, [.ref a_tape, .ref a_rules, .ref a_places, .ref a_steps, .int c_siteCount, .int c_stepCount, .int c_seenRules, .int w_1, .int c_wordStart, .int c_number, .int c_failed])), (a_tape, .inr (7, [.ref a_tape_bytes, .int c_tape_length])), (a_tape_bytes, .inl (E.2.2.1, 320, .inl c_tape_bytes))] H := hP
  replace hD : va_D A [(a_, .inr (4, [.ref a_tape, .ref a_rules, .ref a_places, .ref a_steps, .int c_siteCount, .int c_stepCount, .int c_seenRules, .int w_1, .int c_wordStart, .int c_number, .int c_failed])), (a_tape, .inr (7, [.ref a_tape_bytes, .int c_tape_length])), (a_tape_bytes, .inl (E.2.2.1, 320, .inl c_tape_bytes))] := hD
  refine lv_aload_n hx hb dX3_readWord_4 rfl (lv_at hl 0 rfl) ?_
  refine lv_aload_n hx hb dX3_readWord_5 rfl (lv_at hl 0 rfl) ?_
  refine gt_X3_7 (v := .int w_1) hx hb hts i_f_X3_readWord_X3 hown hK hP 0 rfl (hts (.fieldLink RX3 31 "HushWatch$Reader" "at" "I") (List.mem_of_getElem? (i := 1) rfl)) rfl dX3_readWord_6 ?_
  refine pt_X3_8 (v := .int w_1) hx hb hts i_f_X3_readWord_X3 hown hK hP hD hS 0 rfl (hts (.fieldLink RX3 34 "HushWatch$Reader" "wordStart" "I") (List.mem_of_getElem? (i := 2) rfl)) rfl rfl (Nat.le_of_ble_eq_true rfl) dX3_readWord_9 (fun H locs hP hD hS => ?_)
  replace hP : va_P E.1 vwCl [(a_, .inr (4, [.ref a_tape, .ref a_rules, .ref a_places, .ref a_steps, .int c_siteCount, .int c_stepCount, .int c_seenRules, .int w_1, .int w_1, .int c_number, .int c_failed])), (a_tape, .inr (7, [.ref a_tape_bytes, .int c_tape_length])), (a_tape_bytes, .inl (E.2.2.1, 320, .inl c_tape_bytes))] H := hP
  replace hD : va_D A [(a_, .inr (4, [.ref a_tape, .ref a_rules, .ref a_places, .ref a_steps, .int c_siteCount, .int c_stepCount, .int c_seenRules, .int w_1, .int w_1, .int c_number, .int c_failed])), (a_tape, .inr (7, [.ref a_tape_bytes, .int c_tape_length])), (a_tape_bytes, .inl (E.2.2.1, 320, .inl c_tape_bytes))] := hD
  replace hF := bd1_s hF
  obtain ⟨c_at_10, hL_11, hF⟩ := hF
  refine lw_X3_readWord_12 l E K (c_siteCount := c_siteCount) (c_stepCount := c_stepCount) (c_seenRules := c_seenRules) (c_number := c_number) (c_tape_length := c_tape_length) (c_tape_bytes := c_tape_bytes) (c_wordStart := w_1) (c_failed := c_failed) hx hb hml hown hts hK hN hA K w_1 c_at_10 hL_11 ?_ H locs ls (hP.sub [0, 1, 2] rfl) (hD.sub [0, 1, 2] (by decide) rfl) hS (lv_sub hl [0] rfl)
  ·
    intro H locs ls hP hD hS hl
    replace hP : va_P E.1 vwCl [(a_, .inr (4, [.ref a_tape, .ref a_rules, .ref a_places, .ref a_steps, .int c_siteCount, .int c_stepCount, .int c_seenRules, .int c_at_10, .int w_1, .int c_number, .int c_failed])), (a_tape, .inr (7, [.ref a_tape_bytes, .int c_tape_length])), (a_tape_bytes, .inl (E.2.2.1, 320, .inl c_tape_bytes))] H := hP
    replace hD : va_D A [(a_, .inr (4, [.ref a_tape, .ref a_rules, .ref a_places, .ref a_steps, .int c_siteCount, .int c_stepCount, .int c_seenRules, .int c_at_10, .int w_1, .int c_number, .int c_failed])), (a_tape, .inr (7, [.ref a_tape_bytes, .int c_tape_length])), (a_tape_bytes, .inl (E.2.2.1, 320, .inl c_tape_bytes))] := hD
    exact j_X3_readWord_56 l E K (c_siteCount := c_siteCount) (c_stepCount := c_stepCount) (c_seenRules := c_seenRules) (c_number := c_number) (c_tape_length := c_tape_length) (c_tape_bytes := c_tape_bytes) (c_at := c_at_10) (c_wordStart := w_1) (c_failed := c_failed) hx hb hml hown hts hK hN hA hr hlocks hQ hF H locs ls (hP.sub [0, 1, 2] rfl) (hD.sub [0, 1, 2] (by decide) rfl) hS (lv_sub hl [0] rfl)
end
-- 27.rd01
section
def dl_X3_readSign_27_rd01_0 : List (Nat × Instr × Nat) := [(0, .aload_n 0, 1), (1, .invokevirtual 140, 3), (4, .aload_n 0, 1), (5, .getfield 43, 3), (8, .aload_n 0, 1), (9, .getfield 31, 3), (12, .invokevirtual 143, 3), (15, .iload_n 1, 1), (16, .if_icmp .eq 12, 3), (28, .aload_n 0, 1), (29, .dup, 1), (30, .getfield 31, 3), (33, .iconst 1, 1), (34, .iadd, 1), (35, .putfield 31, 3), (38, .iconst 1, 1), (39, .ireturn, 1), (19, .aload_n 0, 1), (20, .aload_n 0, 1), (21, .getfield 31, 3), (24, .invokevirtual 87, 3), (27, .ireturn, 1)]
set_option maxRecDepth 100000 in
theorem dall_X3_readSign_27_rd01_0 : dchk cX3_readSign dl_X3_readSign_27_rd01_0 = true := by decide +kernel
theorem dX3_readSign_0 : decode cX3_readSign 0 = .ok (.aload_n 0, 1) := dchk_at dall_X3_readSign_27_rd01_0 (k := 0) rfl
theorem dX3_readSign_1 : decode cX3_readSign 1 = .ok (.invokevirtual 140, 3) := dchk_at dall_X3_readSign_27_rd01_0 (k := 1) rfl
theorem dX3_readSign_4 : decode cX3_readSign 4 = .ok (.aload_n 0, 1) := dchk_at dall_X3_readSign_27_rd01_0 (k := 2) rfl
theorem dX3_readSign_5 : decode cX3_readSign 5 = .ok (.getfield 43, 3) := dchk_at dall_X3_readSign_27_rd01_0 (k := 3) rfl
theorem dX3_readSign_8 : decode cX3_readSign 8 = .ok (.aload_n 0, 1) := dchk_at dall_X3_readSign_27_rd01_0 (k := 4) rfl
theorem dX3_readSign_9 : decode cX3_readSign 9 = .ok (.getfield 31, 3) := dchk_at dall_X3_readSign_27_rd01_0 (k := 5) rfl
theorem dX3_readSign_12 : decode cX3_readSign 12 = .ok (.invokevirtual 143, 3) := dchk_at dall_X3_readSign_27_rd01_0 (k := 6) rfl
theorem dX3_readSign_15 : decode cX3_readSign 15 = .ok (.iload_n 1, 1) := dchk_at dall_X3_readSign_27_rd01_0 (k := 7) rfl
theorem dX3_readSign_16 : decode cX3_readSign 16 = .ok (.if_icmp .eq 12, 3) := dchk_at dall_X3_readSign_27_rd01_0 (k := 8) rfl
theorem dX3_readSign_28 : decode cX3_readSign 28 = .ok (.aload_n 0, 1) := dchk_at dall_X3_readSign_27_rd01_0 (k := 9) rfl
theorem dX3_readSign_29 : decode cX3_readSign 29 = .ok (.dup, 1) := dchk_at dall_X3_readSign_27_rd01_0 (k := 10) rfl
theorem dX3_readSign_30 : decode cX3_readSign 30 = .ok (.getfield 31, 3) := dchk_at dall_X3_readSign_27_rd01_0 (k := 11) rfl
theorem dX3_readSign_33 : decode cX3_readSign 33 = .ok (.iconst 1, 1) := dchk_at dall_X3_readSign_27_rd01_0 (k := 12) rfl
theorem dX3_readSign_34 : decode cX3_readSign 34 = .ok (.iadd, 1) := dchk_at dall_X3_readSign_27_rd01_0 (k := 13) rfl
theorem dX3_readSign_35 : decode cX3_readSign 35 = .ok (.putfield 31, 3) := dchk_at dall_X3_readSign_27_rd01_0 (k := 14) rfl
theorem dX3_readSign_38 : decode cX3_readSign 38 = .ok (.iconst 1, 1) := dchk_at dall_X3_readSign_27_rd01_0 (k := 15) rfl
theorem dX3_readSign_39 : decode cX3_readSign 39 = .ok (.ireturn, 1) := dchk_at dall_X3_readSign_27_rd01_0 (k := 16) rfl
theorem dX3_readSign_19 : decode cX3_readSign 19 = .ok (.aload_n 0, 1) := dchk_at dall_X3_readSign_27_rd01_0 (k := 17) rfl
theorem dX3_readSign_20 : decode cX3_readSign 20 = .ok (.aload_n 0, 1) := dchk_at dall_X3_readSign_27_rd01_0 (k := 18) rfl
theorem dX3_readSign_21 : decode cX3_readSign 21 = .ok (.getfield 31, 3) := dchk_at dall_X3_readSign_27_rd01_0 (k := 19) rfl
theorem dX3_readSign_24 : decode cX3_readSign 24 = .ok (.invokevirtual 87, 3) := dchk_at dall_X3_readSign_27_rd01_0 (k := 20) rfl
theorem dX3_readSign_27 : decode cX3_readSign 27 = .ok (.ireturn, 1) := dchk_at dall_X3_readSign_27_rd01_0 (k := 21) rfl
def dl_X3_readNumber_27_rd01_0 : List (Nat × Instr × Nat) := [(56, .aload_n 0, 1), (57, .getfield 31, 3), (60, .aload_n 0, 1), (61, .getfield 43, 3), (64, .getfield 59, 3), (67, .if_icmp .ge 67, 3), (70, .aload_n 0, 1), (71, .getfield 43, 3), (74, .aload_n 0, 1), (75, .getfield 31, 3), (78, .invokevirtual 143, 3), (81, .invokestatic 158, 3), (84, .ifCond .eq 50, 3), (87, .aload_n 0, 1), (88, .getfield 31, 3), (91, .iload 5, 2), (93, .isub, 1), (94, .bipush 7, 2), (96, .if_icmp .ge 25, 3), (121, .aload_n 0, 1), (122, .dup, 1), (123, .getfield 31, 3), (126, .iconst 1, 1), (127, .iadd, 1), (128, .putfield 31, 3), (131, .goto (-75), 3), (99, .iload 6, 2), (101, .bipush 10, 2), (103, .imul, 1), (104, .aload_n 0, 1), (105, .getfield 43, 3), (108, .aload_n 0, 1), (109, .getfield 31, 3), (112, .invokevirtual 143, 3), (115, .iadd, 1), (116, .bipush 48, 2), (118, .isub, 1), (119, .istore 6, 2), (157, .putfield 37, 3), (160, .iload 7, 2), (162, .iconst 1, 1), (163, .if_icmp .lt 26, 3), (189, .aload_n 0, 1), (190, .iload_n 3, 1), (191, .invokevirtual 87, 3), (194, .ireturn, 1), (166, .iload 7, 2), (168, .bipush 7, 2), (170, .if_icmp .gt 19, 3), (173, .aload_n 0, 1)]
set_option maxRecDepth 100000 in
theorem dall_X3_readNumber_27_rd01_0 : dchk cX3_readNumber dl_X3_readNumber_27_rd01_0 = true := by decide +kernel
theorem dX3_readNumber_56 : decode cX3_readNumber 56 = .ok (.aload_n 0, 1) := dchk_at dall_X3_readNumber_27_rd01_0 (k := 0) rfl
theorem dX3_readNumber_57 : decode cX3_readNumber 57 = .ok (.getfield 31, 3) := dchk_at dall_X3_readNumber_27_rd01_0 (k := 1) rfl
theorem dX3_readNumber_60 : decode cX3_readNumber 60 = .ok (.aload_n 0, 1) := dchk_at dall_X3_readNumber_27_rd01_0 (k := 2) rfl
theorem dX3_readNumber_61 : decode cX3_readNumber 61 = .ok (.getfield 43, 3) := dchk_at dall_X3_readNumber_27_rd01_0 (k := 3) rfl
theorem dX3_readNumber_64 : decode cX3_readNumber 64 = .ok (.getfield 59, 3) := dchk_at dall_X3_readNumber_27_rd01_0 (k := 4) rfl
theorem dX3_readNumber_67 : decode cX3_readNumber 67 = .ok (.if_icmp .ge 67, 3) := dchk_at dall_X3_readNumber_27_rd01_0 (k := 5) rfl
theorem dX3_readNumber_70 : decode cX3_readNumber 70 = .ok (.aload_n 0, 1) := dchk_at dall_X3_readNumber_27_rd01_0 (k := 6) rfl
theorem dX3_readNumber_71 : decode cX3_readNumber 71 = .ok (.getfield 43, 3) := dchk_at dall_X3_readNumber_27_rd01_0 (k := 7) rfl
theorem dX3_readNumber_74 : decode cX3_readNumber 74 = .ok (.aload_n 0, 1) := dchk_at dall_X3_readNumber_27_rd01_0 (k := 8) rfl
theorem dX3_readNumber_75 : decode cX3_readNumber 75 = .ok (.getfield 31, 3) := dchk_at dall_X3_readNumber_27_rd01_0 (k := 9) rfl
theorem dX3_readNumber_78 : decode cX3_readNumber 78 = .ok (.invokevirtual 143, 3) := dchk_at dall_X3_readNumber_27_rd01_0 (k := 10) rfl
theorem dX3_readNumber_81 : decode cX3_readNumber 81 = .ok (.invokestatic 158, 3) := dchk_at dall_X3_readNumber_27_rd01_0 (k := 11) rfl
theorem dX3_readNumber_84 : decode cX3_readNumber 84 = .ok (.ifCond .eq 50, 3) := dchk_at dall_X3_readNumber_27_rd01_0 (k := 12) rfl
theorem dX3_readNumber_87 : decode cX3_readNumber 87 = .ok (.aload_n 0, 1) := dchk_at dall_X3_readNumber_27_rd01_0 (k := 13) rfl
theorem dX3_readNumber_88 : decode cX3_readNumber 88 = .ok (.getfield 31, 3) := dchk_at dall_X3_readNumber_27_rd01_0 (k := 14) rfl
theorem dX3_readNumber_91 : decode cX3_readNumber 91 = .ok (.iload 5, 2) := dchk_at dall_X3_readNumber_27_rd01_0 (k := 15) rfl
theorem dX3_readNumber_93 : decode cX3_readNumber 93 = .ok (.isub, 1) := dchk_at dall_X3_readNumber_27_rd01_0 (k := 16) rfl
theorem dX3_readNumber_94 : decode cX3_readNumber 94 = .ok (.bipush 7, 2) := dchk_at dall_X3_readNumber_27_rd01_0 (k := 17) rfl
theorem dX3_readNumber_96 : decode cX3_readNumber 96 = .ok (.if_icmp .ge 25, 3) := dchk_at dall_X3_readNumber_27_rd01_0 (k := 18) rfl
theorem dX3_readNumber_121 : decode cX3_readNumber 121 = .ok (.aload_n 0, 1) := dchk_at dall_X3_readNumber_27_rd01_0 (k := 19) rfl
theorem dX3_readNumber_122 : decode cX3_readNumber 122 = .ok (.dup, 1) := dchk_at dall_X3_readNumber_27_rd01_0 (k := 20) rfl
theorem dX3_readNumber_123 : decode cX3_readNumber 123 = .ok (.getfield 31, 3) := dchk_at dall_X3_readNumber_27_rd01_0 (k := 21) rfl
theorem dX3_readNumber_126 : decode cX3_readNumber 126 = .ok (.iconst 1, 1) := dchk_at dall_X3_readNumber_27_rd01_0 (k := 22) rfl
theorem dX3_readNumber_127 : decode cX3_readNumber 127 = .ok (.iadd, 1) := dchk_at dall_X3_readNumber_27_rd01_0 (k := 23) rfl
theorem dX3_readNumber_128 : decode cX3_readNumber 128 = .ok (.putfield 31, 3) := dchk_at dall_X3_readNumber_27_rd01_0 (k := 24) rfl
theorem dX3_readNumber_131 : decode cX3_readNumber 131 = .ok (.goto (-75), 3) := dchk_at dall_X3_readNumber_27_rd01_0 (k := 25) rfl
theorem dX3_readNumber_99 : decode cX3_readNumber 99 = .ok (.iload 6, 2) := dchk_at dall_X3_readNumber_27_rd01_0 (k := 26) rfl
theorem dX3_readNumber_101 : decode cX3_readNumber 101 = .ok (.bipush 10, 2) := dchk_at dall_X3_readNumber_27_rd01_0 (k := 27) rfl
theorem dX3_readNumber_103 : decode cX3_readNumber 103 = .ok (.imul, 1) := dchk_at dall_X3_readNumber_27_rd01_0 (k := 28) rfl
theorem dX3_readNumber_104 : decode cX3_readNumber 104 = .ok (.aload_n 0, 1) := dchk_at dall_X3_readNumber_27_rd01_0 (k := 29) rfl
theorem dX3_readNumber_105 : decode cX3_readNumber 105 = .ok (.getfield 43, 3) := dchk_at dall_X3_readNumber_27_rd01_0 (k := 30) rfl
theorem dX3_readNumber_108 : decode cX3_readNumber 108 = .ok (.aload_n 0, 1) := dchk_at dall_X3_readNumber_27_rd01_0 (k := 31) rfl
theorem dX3_readNumber_109 : decode cX3_readNumber 109 = .ok (.getfield 31, 3) := dchk_at dall_X3_readNumber_27_rd01_0 (k := 32) rfl
theorem dX3_readNumber_112 : decode cX3_readNumber 112 = .ok (.invokevirtual 143, 3) := dchk_at dall_X3_readNumber_27_rd01_0 (k := 33) rfl
theorem dX3_readNumber_115 : decode cX3_readNumber 115 = .ok (.iadd, 1) := dchk_at dall_X3_readNumber_27_rd01_0 (k := 34) rfl
theorem dX3_readNumber_116 : decode cX3_readNumber 116 = .ok (.bipush 48, 2) := dchk_at dall_X3_readNumber_27_rd01_0 (k := 35) rfl
theorem dX3_readNumber_118 : decode cX3_readNumber 118 = .ok (.isub, 1) := dchk_at dall_X3_readNumber_27_rd01_0 (k := 36) rfl
theorem dX3_readNumber_119 : decode cX3_readNumber 119 = .ok (.istore 6, 2) := dchk_at dall_X3_readNumber_27_rd01_0 (k := 37) rfl
theorem dX3_readNumber_157 : decode cX3_readNumber 157 = .ok (.putfield 37, 3) := dchk_at dall_X3_readNumber_27_rd01_0 (k := 38) rfl
theorem dX3_readNumber_160 : decode cX3_readNumber 160 = .ok (.iload 7, 2) := dchk_at dall_X3_readNumber_27_rd01_0 (k := 39) rfl
theorem dX3_readNumber_162 : decode cX3_readNumber 162 = .ok (.iconst 1, 1) := dchk_at dall_X3_readNumber_27_rd01_0 (k := 40) rfl
theorem dX3_readNumber_163 : decode cX3_readNumber 163 = .ok (.if_icmp .lt 26, 3) := dchk_at dall_X3_readNumber_27_rd01_0 (k := 41) rfl
theorem dX3_readNumber_189 : decode cX3_readNumber 189 = .ok (.aload_n 0, 1) := dchk_at dall_X3_readNumber_27_rd01_0 (k := 42) rfl
theorem dX3_readNumber_190 : decode cX3_readNumber 190 = .ok (.iload_n 3, 1) := dchk_at dall_X3_readNumber_27_rd01_0 (k := 43) rfl
theorem dX3_readNumber_191 : decode cX3_readNumber 191 = .ok (.invokevirtual 87, 3) := dchk_at dall_X3_readNumber_27_rd01_0 (k := 44) rfl
theorem dX3_readNumber_194 : decode cX3_readNumber 194 = .ok (.ireturn, 1) := dchk_at dall_X3_readNumber_27_rd01_0 (k := 45) rfl
theorem dX3_readNumber_166 : decode cX3_readNumber 166 = .ok (.iload 7, 2) := dchk_at dall_X3_readNumber_27_rd01_0 (k := 46) rfl
theorem dX3_readNumber_168 : decode cX3_readNumber 168 = .ok (.bipush 7, 2) := dchk_at dall_X3_readNumber_27_rd01_0 (k := 47) rfl
theorem dX3_readNumber_170 : decode cX3_readNumber 170 = .ok (.if_icmp .gt 19, 3) := dchk_at dall_X3_readNumber_27_rd01_0 (k := 48) rfl
theorem dX3_readNumber_173 : decode cX3_readNumber 173 = .ok (.aload_n 0, 1) := dchk_at dall_X3_readNumber_27_rd01_0 (k := 49) rfl
def dl_X3_readNumber_27_rd01_1 : List (Nat × Instr × Nat) := [(174, .getfield 37, 3), (177, .iload_n 1, 1), (178, .if_icmp .lt 11, 3), (181, .aload_n 0, 1), (182, .getfield 37, 3), (185, .iload_n 2, 1), (186, .if_icmp .le 9, 3), (195, .iconst 1, 1), (196, .ireturn, 1), (134, .aload_n 0, 1), (135, .getfield 31, 3), (138, .iload 5, 2), (140, .isub, 1), (141, .istore 7, 2), (143, .aload_n 0, 1), (144, .iload 4, 2), (146, .ifCond .eq 9, 3), (155, .iload 6, 2), (149, .iload 6, 2), (151, .ineg, 1), (152, .goto 5, 3), (47, .aload_n 0, 1), (48, .getfield 31, 3), (51, .istore 5, 2), (53, .iconst 0, 1), (54, .istore 6, 2), (30, .istore 4, 2), (32, .iload 4, 2), (34, .ifCond .eq 13, 3), (37, .aload_n 0, 1), (38, .dup, 1), (39, .getfield 31, 3), (42, .iconst 1, 1), (43, .iadd, 1), (44, .putfield 31, 3), (0, .aload_n 0, 1), (1, .invokevirtual 140, 3), (4, .aload_n 0, 1), (5, .getfield 31, 3), (8, .istore_n 3, 1), (9, .aload_n 0, 1), (10, .getfield 43, 3), (13, .aload_n 0, 1), (14, .getfield 31, 3), (17, .invokevirtual 143, 3), (20, .bipush 45, 2), (22, .if_icmp .ne 7, 3), (29, .iconst 0, 1), (25, .iconst 1, 1), (26, .goto 4, 3)]
set_option maxRecDepth 100000 in
theorem dall_X3_readNumber_27_rd01_1 : dchk cX3_readNumber dl_X3_readNumber_27_rd01_1 = true := by decide +kernel
theorem dX3_readNumber_174 : decode cX3_readNumber 174 = .ok (.getfield 37, 3) := dchk_at dall_X3_readNumber_27_rd01_1 (k := 0) rfl
theorem dX3_readNumber_177 : decode cX3_readNumber 177 = .ok (.iload_n 1, 1) := dchk_at dall_X3_readNumber_27_rd01_1 (k := 1) rfl
theorem dX3_readNumber_178 : decode cX3_readNumber 178 = .ok (.if_icmp .lt 11, 3) := dchk_at dall_X3_readNumber_27_rd01_1 (k := 2) rfl
theorem dX3_readNumber_181 : decode cX3_readNumber 181 = .ok (.aload_n 0, 1) := dchk_at dall_X3_readNumber_27_rd01_1 (k := 3) rfl
theorem dX3_readNumber_182 : decode cX3_readNumber 182 = .ok (.getfield 37, 3) := dchk_at dall_X3_readNumber_27_rd01_1 (k := 4) rfl
theorem dX3_readNumber_185 : decode cX3_readNumber 185 = .ok (.iload_n 2, 1) := dchk_at dall_X3_readNumber_27_rd01_1 (k := 5) rfl
theorem dX3_readNumber_186 : decode cX3_readNumber 186 = .ok (.if_icmp .le 9, 3) := dchk_at dall_X3_readNumber_27_rd01_1 (k := 6) rfl
theorem dX3_readNumber_195 : decode cX3_readNumber 195 = .ok (.iconst 1, 1) := dchk_at dall_X3_readNumber_27_rd01_1 (k := 7) rfl
theorem dX3_readNumber_196 : decode cX3_readNumber 196 = .ok (.ireturn, 1) := dchk_at dall_X3_readNumber_27_rd01_1 (k := 8) rfl
theorem dX3_readNumber_134 : decode cX3_readNumber 134 = .ok (.aload_n 0, 1) := dchk_at dall_X3_readNumber_27_rd01_1 (k := 9) rfl
theorem dX3_readNumber_135 : decode cX3_readNumber 135 = .ok (.getfield 31, 3) := dchk_at dall_X3_readNumber_27_rd01_1 (k := 10) rfl
theorem dX3_readNumber_138 : decode cX3_readNumber 138 = .ok (.iload 5, 2) := dchk_at dall_X3_readNumber_27_rd01_1 (k := 11) rfl
theorem dX3_readNumber_140 : decode cX3_readNumber 140 = .ok (.isub, 1) := dchk_at dall_X3_readNumber_27_rd01_1 (k := 12) rfl
theorem dX3_readNumber_141 : decode cX3_readNumber 141 = .ok (.istore 7, 2) := dchk_at dall_X3_readNumber_27_rd01_1 (k := 13) rfl
theorem dX3_readNumber_143 : decode cX3_readNumber 143 = .ok (.aload_n 0, 1) := dchk_at dall_X3_readNumber_27_rd01_1 (k := 14) rfl
theorem dX3_readNumber_144 : decode cX3_readNumber 144 = .ok (.iload 4, 2) := dchk_at dall_X3_readNumber_27_rd01_1 (k := 15) rfl
theorem dX3_readNumber_146 : decode cX3_readNumber 146 = .ok (.ifCond .eq 9, 3) := dchk_at dall_X3_readNumber_27_rd01_1 (k := 16) rfl
theorem dX3_readNumber_155 : decode cX3_readNumber 155 = .ok (.iload 6, 2) := dchk_at dall_X3_readNumber_27_rd01_1 (k := 17) rfl
theorem dX3_readNumber_149 : decode cX3_readNumber 149 = .ok (.iload 6, 2) := dchk_at dall_X3_readNumber_27_rd01_1 (k := 18) rfl
theorem dX3_readNumber_151 : decode cX3_readNumber 151 = .ok (.ineg, 1) := dchk_at dall_X3_readNumber_27_rd01_1 (k := 19) rfl
theorem dX3_readNumber_152 : decode cX3_readNumber 152 = .ok (.goto 5, 3) := dchk_at dall_X3_readNumber_27_rd01_1 (k := 20) rfl
theorem dX3_readNumber_47 : decode cX3_readNumber 47 = .ok (.aload_n 0, 1) := dchk_at dall_X3_readNumber_27_rd01_1 (k := 21) rfl
theorem dX3_readNumber_48 : decode cX3_readNumber 48 = .ok (.getfield 31, 3) := dchk_at dall_X3_readNumber_27_rd01_1 (k := 22) rfl
theorem dX3_readNumber_51 : decode cX3_readNumber 51 = .ok (.istore 5, 2) := dchk_at dall_X3_readNumber_27_rd01_1 (k := 23) rfl
theorem dX3_readNumber_53 : decode cX3_readNumber 53 = .ok (.iconst 0, 1) := dchk_at dall_X3_readNumber_27_rd01_1 (k := 24) rfl
theorem dX3_readNumber_54 : decode cX3_readNumber 54 = .ok (.istore 6, 2) := dchk_at dall_X3_readNumber_27_rd01_1 (k := 25) rfl
theorem dX3_readNumber_30 : decode cX3_readNumber 30 = .ok (.istore 4, 2) := dchk_at dall_X3_readNumber_27_rd01_1 (k := 26) rfl
theorem dX3_readNumber_32 : decode cX3_readNumber 32 = .ok (.iload 4, 2) := dchk_at dall_X3_readNumber_27_rd01_1 (k := 27) rfl
theorem dX3_readNumber_34 : decode cX3_readNumber 34 = .ok (.ifCond .eq 13, 3) := dchk_at dall_X3_readNumber_27_rd01_1 (k := 28) rfl
theorem dX3_readNumber_37 : decode cX3_readNumber 37 = .ok (.aload_n 0, 1) := dchk_at dall_X3_readNumber_27_rd01_1 (k := 29) rfl
theorem dX3_readNumber_38 : decode cX3_readNumber 38 = .ok (.dup, 1) := dchk_at dall_X3_readNumber_27_rd01_1 (k := 30) rfl
theorem dX3_readNumber_39 : decode cX3_readNumber 39 = .ok (.getfield 31, 3) := dchk_at dall_X3_readNumber_27_rd01_1 (k := 31) rfl
theorem dX3_readNumber_42 : decode cX3_readNumber 42 = .ok (.iconst 1, 1) := dchk_at dall_X3_readNumber_27_rd01_1 (k := 32) rfl
theorem dX3_readNumber_43 : decode cX3_readNumber 43 = .ok (.iadd, 1) := dchk_at dall_X3_readNumber_27_rd01_1 (k := 33) rfl
theorem dX3_readNumber_44 : decode cX3_readNumber 44 = .ok (.putfield 31, 3) := dchk_at dall_X3_readNumber_27_rd01_1 (k := 34) rfl
theorem dX3_readNumber_0 : decode cX3_readNumber 0 = .ok (.aload_n 0, 1) := dchk_at dall_X3_readNumber_27_rd01_1 (k := 35) rfl
theorem dX3_readNumber_1 : decode cX3_readNumber 1 = .ok (.invokevirtual 140, 3) := dchk_at dall_X3_readNumber_27_rd01_1 (k := 36) rfl
theorem dX3_readNumber_4 : decode cX3_readNumber 4 = .ok (.aload_n 0, 1) := dchk_at dall_X3_readNumber_27_rd01_1 (k := 37) rfl
theorem dX3_readNumber_5 : decode cX3_readNumber 5 = .ok (.getfield 31, 3) := dchk_at dall_X3_readNumber_27_rd01_1 (k := 38) rfl
theorem dX3_readNumber_8 : decode cX3_readNumber 8 = .ok (.istore_n 3, 1) := dchk_at dall_X3_readNumber_27_rd01_1 (k := 39) rfl
theorem dX3_readNumber_9 : decode cX3_readNumber 9 = .ok (.aload_n 0, 1) := dchk_at dall_X3_readNumber_27_rd01_1 (k := 40) rfl
theorem dX3_readNumber_10 : decode cX3_readNumber 10 = .ok (.getfield 43, 3) := dchk_at dall_X3_readNumber_27_rd01_1 (k := 41) rfl
theorem dX3_readNumber_13 : decode cX3_readNumber 13 = .ok (.aload_n 0, 1) := dchk_at dall_X3_readNumber_27_rd01_1 (k := 42) rfl
theorem dX3_readNumber_14 : decode cX3_readNumber 14 = .ok (.getfield 31, 3) := dchk_at dall_X3_readNumber_27_rd01_1 (k := 43) rfl
theorem dX3_readNumber_17 : decode cX3_readNumber 17 = .ok (.invokevirtual 143, 3) := dchk_at dall_X3_readNumber_27_rd01_1 (k := 44) rfl
theorem dX3_readNumber_20 : decode cX3_readNumber 20 = .ok (.bipush 45, 2) := dchk_at dall_X3_readNumber_27_rd01_1 (k := 45) rfl
theorem dX3_readNumber_22 : decode cX3_readNumber 22 = .ok (.if_icmp .ne 7, 3) := dchk_at dall_X3_readNumber_27_rd01_1 (k := 46) rfl
theorem dX3_readNumber_29 : decode cX3_readNumber 29 = .ok (.iconst 0, 1) := dchk_at dall_X3_readNumber_27_rd01_1 (k := 47) rfl
theorem dX3_readNumber_25 : decode cX3_readNumber 25 = .ok (.iconst 1, 1) := dchk_at dall_X3_readNumber_27_rd01_1 (k := 48) rfl
theorem dX3_readNumber_26 : decode cX3_readNumber 26 = .ok (.goto 4, 3) := dchk_at dall_X3_readNumber_27_rd01_1 (k := 49) rfl
def dl_X3_readSite_27_rd01_0 : List (Nat × Instr × Nat) := [(41, .aload_n 0, 1), (42, .sipush (-999), 3), (45, .sipush 999, 3), (48, .invokevirtual 96, 3), (51, .ifCond .ne 5, 3), (56, .aload_n 0, 1), (57, .getfield 15, 3), (60, .iconst 2, 1), (61, .aload_n 0, 1), (62, .getfield 21, 3), (65, .imul, 1), (66, .iload_n 1, 1), (67, .iadd, 1), (68, .aload_n 0, 1), (69, .getfield 37, 3), (72, .iastore, 1), (73, .iinc 1 1, 3), (76, .goto (-56), 3), (20, .iload_n 1, 1), (21, .iconst 2, 1), (22, .if_icmp .ge 57, 3), (25, .iload_n 1, 1), (26, .iconst 1, 1), (27, .if_icmp .ne 14, 3), (30, .aload_n 0, 1), (31, .bipush 44, 2), (33, .invokevirtual 62, 3), (36, .ifCond .ne 5, 3), (0, .aload_n 0, 1), (1, .getfield 21, 3), (4, .bipush 8, 2), (6, .if_icmp .lt 12, 3), (18, .iconst 0, 1), (19, .istore_n 1, 1), (39, .iconst 0, 1), (40, .ireturn, 1), (54, .iconst 0, 1), (55, .ireturn, 1), (79, .aload_n 0, 1), (80, .dup, 1), (81, .getfield 21, 3), (84, .iconst 1, 1), (85, .iadd, 1), (86, .putfield 21, 3), (89, .iconst 1, 1), (90, .ireturn, 1), (9, .aload_n 0, 1), (10, .aload_n 0, 1), (11, .getfield 34, 3), (14, .invokevirtual 87, 3)]
set_option maxRecDepth 100000 in
theorem dall_X3_readSite_27_rd01_0 : dchk cX3_readSite dl_X3_readSite_27_rd01_0 = true := by decide +kernel
theorem dX3_readSite_41 : decode cX3_readSite 41 = .ok (.aload_n 0, 1) := dchk_at dall_X3_readSite_27_rd01_0 (k := 0) rfl
theorem dX3_readSite_42 : decode cX3_readSite 42 = .ok (.sipush (-999), 3) := dchk_at dall_X3_readSite_27_rd01_0 (k := 1) rfl
theorem dX3_readSite_45 : decode cX3_readSite 45 = .ok (.sipush 999, 3) := dchk_at dall_X3_readSite_27_rd01_0 (k := 2) rfl
theorem dX3_readSite_48 : decode cX3_readSite 48 = .ok (.invokevirtual 96, 3) := dchk_at dall_X3_readSite_27_rd01_0 (k := 3) rfl
theorem dX3_readSite_51 : decode cX3_readSite 51 = .ok (.ifCond .ne 5, 3) := dchk_at dall_X3_readSite_27_rd01_0 (k := 4) rfl
theorem dX3_readSite_56 : decode cX3_readSite 56 = .ok (.aload_n 0, 1) := dchk_at dall_X3_readSite_27_rd01_0 (k := 5) rfl
theorem dX3_readSite_57 : decode cX3_readSite 57 = .ok (.getfield 15, 3) := dchk_at dall_X3_readSite_27_rd01_0 (k := 6) rfl
theorem dX3_readSite_60 : decode cX3_readSite 60 = .ok (.iconst 2, 1) := dchk_at dall_X3_readSite_27_rd01_0 (k := 7) rfl
theorem dX3_readSite_61 : decode cX3_readSite 61 = .ok (.aload_n 0, 1) := dchk_at dall_X3_readSite_27_rd01_0 (k := 8) rfl
theorem dX3_readSite_62 : decode cX3_readSite 62 = .ok (.getfield 21, 3) := dchk_at dall_X3_readSite_27_rd01_0 (k := 9) rfl
theorem dX3_readSite_65 : decode cX3_readSite 65 = .ok (.imul, 1) := dchk_at dall_X3_readSite_27_rd01_0 (k := 10) rfl
theorem dX3_readSite_66 : decode cX3_readSite 66 = .ok (.iload_n 1, 1) := dchk_at dall_X3_readSite_27_rd01_0 (k := 11) rfl
theorem dX3_readSite_67 : decode cX3_readSite 67 = .ok (.iadd, 1) := dchk_at dall_X3_readSite_27_rd01_0 (k := 12) rfl
theorem dX3_readSite_68 : decode cX3_readSite 68 = .ok (.aload_n 0, 1) := dchk_at dall_X3_readSite_27_rd01_0 (k := 13) rfl
theorem dX3_readSite_69 : decode cX3_readSite 69 = .ok (.getfield 37, 3) := dchk_at dall_X3_readSite_27_rd01_0 (k := 14) rfl
theorem dX3_readSite_72 : decode cX3_readSite 72 = .ok (.iastore, 1) := dchk_at dall_X3_readSite_27_rd01_0 (k := 15) rfl
theorem dX3_readSite_73 : decode cX3_readSite 73 = .ok (.iinc 1 1, 3) := dchk_at dall_X3_readSite_27_rd01_0 (k := 16) rfl
theorem dX3_readSite_76 : decode cX3_readSite 76 = .ok (.goto (-56), 3) := dchk_at dall_X3_readSite_27_rd01_0 (k := 17) rfl
theorem dX3_readSite_20 : decode cX3_readSite 20 = .ok (.iload_n 1, 1) := dchk_at dall_X3_readSite_27_rd01_0 (k := 18) rfl
theorem dX3_readSite_21 : decode cX3_readSite 21 = .ok (.iconst 2, 1) := dchk_at dall_X3_readSite_27_rd01_0 (k := 19) rfl
theorem dX3_readSite_22 : decode cX3_readSite 22 = .ok (.if_icmp .ge 57, 3) := dchk_at dall_X3_readSite_27_rd01_0 (k := 20) rfl
theorem dX3_readSite_25 : decode cX3_readSite 25 = .ok (.iload_n 1, 1) := dchk_at dall_X3_readSite_27_rd01_0 (k := 21) rfl
theorem dX3_readSite_26 : decode cX3_readSite 26 = .ok (.iconst 1, 1) := dchk_at dall_X3_readSite_27_rd01_0 (k := 22) rfl
theorem dX3_readSite_27 : decode cX3_readSite 27 = .ok (.if_icmp .ne 14, 3) := dchk_at dall_X3_readSite_27_rd01_0 (k := 23) rfl
theorem dX3_readSite_30 : decode cX3_readSite 30 = .ok (.aload_n 0, 1) := dchk_at dall_X3_readSite_27_rd01_0 (k := 24) rfl
theorem dX3_readSite_31 : decode cX3_readSite 31 = .ok (.bipush 44, 2) := dchk_at dall_X3_readSite_27_rd01_0 (k := 25) rfl
theorem dX3_readSite_33 : decode cX3_readSite 33 = .ok (.invokevirtual 62, 3) := dchk_at dall_X3_readSite_27_rd01_0 (k := 26) rfl
theorem dX3_readSite_36 : decode cX3_readSite 36 = .ok (.ifCond .ne 5, 3) := dchk_at dall_X3_readSite_27_rd01_0 (k := 27) rfl
theorem dX3_readSite_0 : decode cX3_readSite 0 = .ok (.aload_n 0, 1) := dchk_at dall_X3_readSite_27_rd01_0 (k := 28) rfl
theorem dX3_readSite_1 : decode cX3_readSite 1 = .ok (.getfield 21, 3) := dchk_at dall_X3_readSite_27_rd01_0 (k := 29) rfl
theorem dX3_readSite_4 : decode cX3_readSite 4 = .ok (.bipush 8, 2) := dchk_at dall_X3_readSite_27_rd01_0 (k := 30) rfl
theorem dX3_readSite_6 : decode cX3_readSite 6 = .ok (.if_icmp .lt 12, 3) := dchk_at dall_X3_readSite_27_rd01_0 (k := 31) rfl
theorem dX3_readSite_18 : decode cX3_readSite 18 = .ok (.iconst 0, 1) := dchk_at dall_X3_readSite_27_rd01_0 (k := 32) rfl
theorem dX3_readSite_19 : decode cX3_readSite 19 = .ok (.istore_n 1, 1) := dchk_at dall_X3_readSite_27_rd01_0 (k := 33) rfl
theorem dX3_readSite_39 : decode cX3_readSite 39 = .ok (.iconst 0, 1) := dchk_at dall_X3_readSite_27_rd01_0 (k := 34) rfl
theorem dX3_readSite_40 : decode cX3_readSite 40 = .ok (.ireturn, 1) := dchk_at dall_X3_readSite_27_rd01_0 (k := 35) rfl
theorem dX3_readSite_54 : decode cX3_readSite 54 = .ok (.iconst 0, 1) := dchk_at dall_X3_readSite_27_rd01_0 (k := 36) rfl
theorem dX3_readSite_55 : decode cX3_readSite 55 = .ok (.ireturn, 1) := dchk_at dall_X3_readSite_27_rd01_0 (k := 37) rfl
theorem dX3_readSite_79 : decode cX3_readSite 79 = .ok (.aload_n 0, 1) := dchk_at dall_X3_readSite_27_rd01_0 (k := 38) rfl
theorem dX3_readSite_80 : decode cX3_readSite 80 = .ok (.dup, 1) := dchk_at dall_X3_readSite_27_rd01_0 (k := 39) rfl
theorem dX3_readSite_81 : decode cX3_readSite 81 = .ok (.getfield 21, 3) := dchk_at dall_X3_readSite_27_rd01_0 (k := 40) rfl
theorem dX3_readSite_84 : decode cX3_readSite 84 = .ok (.iconst 1, 1) := dchk_at dall_X3_readSite_27_rd01_0 (k := 41) rfl
theorem dX3_readSite_85 : decode cX3_readSite 85 = .ok (.iadd, 1) := dchk_at dall_X3_readSite_27_rd01_0 (k := 42) rfl
theorem dX3_readSite_86 : decode cX3_readSite 86 = .ok (.putfield 21, 3) := dchk_at dall_X3_readSite_27_rd01_0 (k := 43) rfl
theorem dX3_readSite_89 : decode cX3_readSite 89 = .ok (.iconst 1, 1) := dchk_at dall_X3_readSite_27_rd01_0 (k := 44) rfl
theorem dX3_readSite_90 : decode cX3_readSite 90 = .ok (.ireturn, 1) := dchk_at dall_X3_readSite_27_rd01_0 (k := 45) rfl
theorem dX3_readSite_9 : decode cX3_readSite 9 = .ok (.aload_n 0, 1) := dchk_at dall_X3_readSite_27_rd01_0 (k := 46) rfl
theorem dX3_readSite_10 : decode cX3_readSite 10 = .ok (.aload_n 0, 1) := dchk_at dall_X3_readSite_27_rd01_0 (k := 47) rfl
theorem dX3_readSite_11 : decode cX3_readSite 11 = .ok (.getfield 34, 3) := dchk_at dall_X3_readSite_27_rd01_0 (k := 48) rfl
theorem dX3_readSite_14 : decode cX3_readSite 14 = .ok (.invokevirtual 87, 3) := dchk_at dall_X3_readSite_27_rd01_0 (k := 49) rfl
def dl_X3_readSite_27_rd01_1 : List (Nat × Instr × Nat) := [(17, .ireturn, 1)]
set_option maxRecDepth 100000 in
theorem dall_X3_readSite_27_rd01_1 : dchk cX3_readSite dl_X3_readSite_27_rd01_1 = true := by decide +kernel
theorem dX3_readSite_17 : decode cX3_readSite 17 = .ok (.ireturn, 1) := dchk_at dall_X3_readSite_27_rd01_1 (k := 0) rfl
def F_X3_readSign (K : Nat) (p1 : Int32) (c_tape_bytes : Nat → Int32) (c_tape_length : Int32) (c_at : Int32) (c_failed : Int32) : Option (Int32 × Int32 × Int32) :=
  bd1 (F_X3_skipBlanks K c_tape_bytes c_tape_length c_at) (fun w_1 => bd1 (F_X6_signAt w_1 c_tape_bytes c_tape_length) (fun r_3 => if r_3 = p1 then some ((1 : Int32), w_1 + (1 : Int32), c_failed) else bd2 (F_X3_failAt w_1 c_failed) (fun r_6 w_7 => some (r_6, w_1, w_7))))
abbrev w_X3_readSign (E : EE) (a_ a_tape a_rules a_places a_steps a_tape_bytes : Nat) (c_siteCount : Int32) (c_stepCount : Int32) (c_seenRules : Int32) (c_at : Int32) (c_wordStart : Int32) (c_number : Int32) (c_failed : Int32) (c_tape_length : Int32) (c_tape_bytes : Nat → Int32) : va_W := [(a_, .inr (4, [.ref a_tape, .ref a_rules, .ref a_places, .ref a_steps, .int c_siteCount, .int c_stepCount, .int c_seenRules, .int c_at, .int c_wordStart, .int c_number, .int c_failed])), (a_tape, .inr (7, [.ref a_tape_bytes, .int c_tape_length])), (a_tape_bytes, .inl (E.2.2.1, 320, .inl c_tape_bytes))]
def v_f_X3_readSign : List Cond := .code yX3_readSign cX3_readSign 2 (some .boolean) :: ([.fieldLink RX3 43 "HushWatch$Reader" "tape" "LHushWatch$Tape;", .fieldLink RX3 31 "HushWatch$Reader" "at" "I", .methodLink RX3 140 yX3_skipBlanks, .instanceMethod yX3_skipBlanks, .selects RX3 yX3_skipBlanks yX3_skipBlanks, .initialized RX3, .methodLink RX3 143 yX6_signAt, .instanceMethod yX6_signAt, .selects RX6 yX6_signAt yX6_signAt, .initialized RX6, .methodLink RX3 87 yX3_failAt, .instanceMethod yX3_failAt, .selects RX3 yX3_failAt yX3_failAt] ++ (v_f_X3_skipBlanks ++ (wsX30 ++ (v_f_X6_signAt ++ (v_f_X3_failAt ++ ([]))))))
theorem gw_f_X3_readSign : v_f_X3_readSign.all goodWord = true := by decide +kernel
theorem i_f_X3_readSign_X3 : ∀ w ∈ wsX30, w ∈ v_f_X3_readSign := fun _ h => List.mem_cons_of_mem _ (List.mem_append_right _ (List.mem_append_right _ (List.mem_append_left _ h)))
theorem g_f_X3_readSign_f_X3_skipBlanks_140 : GoodIn v_f_X3_readSign (wsV RX3 140 RX3 yX3_skipBlanks v_f_X3_skipBlanks) := goodIn_app (goodIn_of _ (by decide +kernel)) (goodIn_sub (fun _ h => List.mem_cons_of_mem _ (List.mem_append_right _ (List.mem_append_left _ h))) gw_f_X3_skipBlanks)
theorem g_f_X3_readSign_f_X6_signAt_143 : GoodIn v_f_X3_readSign (wsV RX3 143 RX6 yX6_signAt v_f_X6_signAt) := goodIn_app (goodIn_of _ (by decide +kernel)) (goodIn_sub (fun _ h => List.mem_cons_of_mem _ (List.mem_append_right _ (List.mem_append_right _ (List.mem_append_right _ (List.mem_append_left _ h))))) gw_f_X6_signAt)
theorem g_f_X3_readSign_f_X3_failAt_87 : GoodIn v_f_X3_readSign (wsV RX3 87 RX3 yX3_failAt v_f_X3_failAt) := goodIn_app (goodIn_of _ (by decide +kernel)) (goodIn_sub (fun _ h => List.mem_cons_of_mem _ (List.mem_append_right _ (List.mem_append_right _ (List.mem_append_right _ (List.mem_append_right _ (List.mem_append_left _ h)))))) gw_f_X3_failAt)
theorem hd_X3_readSign : yX3_readSign.cls = RX3 ∧ yX3_readSign.cls ≠ "java/lang/invoke/MethodHandle" ∧ yX3_readSign.cls ≠ "java/lang/invoke/VarHandle" ∧ (parseMethodDescriptor yX3_readSign.desc).map (fun d => d.parameters.length) = some 1 := by decide +kernel
set_option maxHeartbeats 4000000 in
set_option maxRecDepth 100000 in
theorem f_X3_readSign (l : Launch) (E : EE) (sz : Nat) (K : Nat) {a_ a_tape a_rules a_places a_steps a_tape_bytes : Nat} {p1 : Int32} {c_siteCount : Int32} {c_stepCount : Int32} {c_seenRules : Int32} {c_at : Int32} {c_wordStart : Int32} {c_number : Int32} {c_failed : Int32} {c_tape_length : Int32} {c_tape_bytes : Nat → Int32} {rr : Int32} {n_at : Int32} {n_failed : Int32} (hF : F_X3_readSign K p1 c_tape_bytes c_tape_length c_at c_failed = some (rr, n_at, n_failed)) : Met l yX3_readSign v_f_X3_readSign (({ frames := 2, cells := 0, slots := 0, locals := 41 } : Room)) (va_Pc [.ref a_, .int p1] (pW E sz (w_X3_readSign E a_ a_tape a_rules a_places a_steps a_tape_bytes c_siteCount c_stepCount c_seenRules c_at c_wordStart c_number c_failed c_tape_length c_tape_bytes))) (va_Qi (fun (q : Int32) (_u : Unit) => q = rr ∧ (q = 0 ∨ q = 1)) (fun (_u : Unit) tt => va_P E.1 vwCl (w_X3_readSign E a_ a_tape a_rules a_places a_steps a_tape_bytes c_siteCount c_stepCount c_seenRules n_at c_wordStart c_number n_failed c_tape_length c_tape_bytes) tt.heap ∧ va_D (va_A (w_X3_readSign E a_ a_tape a_rules a_places a_steps a_tape_bytes c_siteCount c_stepCount c_seenRules c_at c_wordStart c_number c_failed c_tape_length c_tape_bytes) sz) (w_X3_readSign E a_ a_tape a_rules a_places a_steps a_tape_bytes c_siteCount c_stepCount c_seenRules n_at c_wordStart c_number n_failed c_tape_length c_tape_bytes)) (va_A (w_X3_readSign E a_ a_tape a_rules a_places a_steps a_tape_bytes c_siteCount c_stepCount c_seenRules c_at c_wordStart c_number c_failed c_tape_length c_tape_bytes) sz)) 0 0 (va_A (w_X3_readSign E a_ a_tape a_rules a_places a_steps a_tape_bytes c_siteCount c_stepCount c_seenRules c_at c_wordStart c_number c_failed c_tape_length c_tape_bytes) sz) := by
  refine Met.ofW (cc := cX3_readSign) (maxL := 2) (ret := (some .boolean)) (by decide) rfl ?_
  intro p e s m args below meth c s₁ B hml hv
  obtain ⟨rfl, hsz, ⟨hK, hN⟩, hP, hD0⟩ := hv
  have hx := B.exec
  have hb := B.bytes
  have hr := B.returns
  have hts := atoms_spec (ws := v_f_X3_readSign) B.pre
  have hown : s.vm.findClass RX3 = some m.cls := own_of hd_X3_readSign.1 (findClass_of_methodNamed B.named)
  have hlocks : meth.locks = false := B.notSynchronized
  subst hsz
  have hD := hD0.self (sz := s.heap.size)
  generalize hAe : va_A (w_X3_readSign E a_ a_tape a_rules a_places a_steps a_tape_bytes c_siteCount c_stepCount c_seenRules c_at c_wordStart c_number c_failed c_tape_length c_tape_bytes) s.heap.size = A at hD ⊢
  have hA : ∀ q : Nat, s.heap.size ≤ q → A q := fun q h => by rw [← hAe]; exact Or.inr h
  have hS : va_S A s.heap s.heap [] := va_S.rf
  have hl := lv_entry ([.ref a_, .int p1]) (n := 2) (Nat.le_of_ble_eq_true rfl)
  rw [lg_entry_eq]
  generalize (lg_sl ([.ref a_, .int p1]) ++ List.replicate (2 - (lg_sl ([.ref a_, .int p1])).length) Slot.unset).toArray = ls at hl ⊢
  have hl : lv_has ls 2 [(0, .ref a_), (1, .int p1)] := hl
  obtain ⟨Q, hQ⟩ : ∃ Q : State → Prop, Q = MQ below (va_Qi (fun (q : Int32) (_u : Unit) => q = rr ∧ (q = 0 ∨ q = 1)) (fun (_u : Unit) tt => va_P E.1 vwCl (w_X3_readSign E a_ a_tape a_rules a_places a_steps a_tape_bytes c_siteCount c_stepCount c_seenRules n_at c_wordStart c_number n_failed c_tape_length c_tape_bytes) tt.heap ∧ va_D A (w_X3_readSign E a_ a_tape a_rules a_places a_steps a_tape_bytes c_siteCount c_stepCount c_seenRules n_at c_wordStart c_number n_failed c_tape_length c_tape_bytes)) A) #[Value.ref a_, Value.int p1] s 0 0 A := ⟨_, rfl⟩
  rw [← hQ]
  change W p l e ({ frames := 2, cells := 0, slots := 0, locals := 41 } : Room) s m #[Value.ref a_, Value.int p1] below meth c s.heap [] 0 0 Q (F0 m 0 ls [])
  suffices hh9 : ∀ (H : Heap) (locs : List Loc), va_P E.1 vwCl (w_X3_readSign E a_ a_tape a_rules a_places a_steps a_tape_bytes c_siteCount c_stepCount c_seenRules c_at c_wordStart c_number c_failed c_tape_length c_tape_bytes) H → va_D A (w_X3_readSign E a_ a_tape a_rules a_places a_steps a_tape_bytes c_siteCount c_stepCount c_seenRules c_at c_wordStart c_number c_failed c_tape_length c_tape_bytes) → va_S A s.heap H locs → W p l e ({ frames := 2, cells := 0, slots := 0, locals := 41 } : Room) s m #[Value.ref a_, Value.int p1] below meth c H locs 0 0 Q (F0 m 0 ls []) from hh9 s.heap [] hP hD hS
  clear hP hD hS
  intro H locs hP hD hS
  replace hP : va_P E.1 vwCl [(a_, .inr (4, [.ref a_tape, .ref a_rules, .ref a_places, .ref a_steps, .int c_siteCount, .int c_stepCount, .int c_seenRules, .int c_at, .int c_wordStart, .int c_number, .int c_failed])), (a_tape, .inr (7, [.ref a_tape_bytes, .int c_tape_length])), (a_tape_bytes, .inl (E.2.2.1, 320, .inl c_tape_bytes))] H := hP
  replace hD : va_D A [(a_, .inr (4, [.ref a_tape, .ref a_rules, .ref a_places, .ref a_steps, .int c_siteCount, .int c_stepCount, .int c_seenRules, .int c_at, .int c_wordStart, .int c_number, .int c_failed])), (a_tape, .inr (7, [.ref a_tape_bytes, .int c_tape_length])), (a_tape_bytes, .inl (E.2.2.1, 320, .inl c_tape_bytes))] := hD
  unfold F_X3_readSign at hF
  refine lv_aload_n hx hb dX3_readSign_0 rfl (lv_at hl 0 rfl) ?_
  replace hF := bd1_s hF
  obtain ⟨w_1, hc_2, hF⟩ := hF
  obtain ⟨hPc, hDc, hFc⟩ := wcut (wc := (w_X3_skipBlanks E a_ a_tape a_rules a_places a_steps a_tape_bytes c_siteCount c_stepCount c_seenRules c_at c_wordStart c_number c_failed c_tape_length c_tape_bytes)) hP hD hS hA [0, 1, 2] (by decide) rfl
  have hrc := va_recv hK hPc (ci := 4) (q0 := 0) rfl rfl
  refine cE_v (wc := (w_X3_skipBlanks E a_ a_tape a_rules a_places a_steps a_tape_bytes c_siteCount c_stepCount c_seenRules c_at c_wordStart c_number c_failed c_tape_length c_tape_bytes)) (wr := []) (w1 := (w_X3_skipBlanks E a_ a_tape a_rules a_places a_steps a_tape_bytes c_siteCount c_stepCount c_seenRules w_1 c_wordStart c_number c_failed c_tape_length c_tape_bytes)) (va_runV (As := []) (rest := [])  ⟨hx, hb, hml, hown, hts⟩ (f_X3_skipBlanks l E H.size K (a_ := a_) (a_tape := a_tape) (a_rules := a_rules) (a_places := a_places) (a_steps := a_steps) (a_tape_bytes := a_tape_bytes) (c_siteCount := c_siteCount) (c_stepCount := c_stepCount) (c_seenRules := c_seenRules) (c_at := c_at) (c_wordStart := c_wordStart) (c_number := c_number) (c_failed := c_failed) (c_tape_length := c_tape_length) (c_tape_bytes := c_tape_bytes) hc_2) (cwV 0 hts g_f_X3_readSign_f_X3_skipBlanks_140 rfl rfl rfl hd_X3_skipBlanks ⟨Nat.le_of_ble_eq_true rfl, Nat.le_of_ble_eq_true rfl⟩) ⟨pW.blind, hrc, (pW.pre ⟨hK, hN⟩ hPc hDc)⟩ rfl rfl hl.1 rfl (lv_room (Nat.le_of_ble_eq_true rfl)) dX3_readSign_1 ⟨Nat.le_of_ble_eq_true rfl, Nat.le_of_ble_eq_true rfl⟩) hS hFc hP hD [0, 1, 2] [] rfl rfl (by decide) (by decide) (fun H locs hP hD hS => ?_)
  replace hP : va_P E.1 vwCl [(a_, .inr (4, [.ref a_tape, .ref a_rules, .ref a_places, .ref a_steps, .int c_siteCount, .int c_stepCount, .int c_seenRules, .int w_1, .int c_wordStart, .int c_number, .int c_failed])), (a_tape, .inr (7, [.ref a_tape_bytes, .int c_tape_length])), (a_tape_bytes, .inl (E.2.2.1, 320, .inl c_tape_bytes))] H := hP
  replace hD : va_D A [(a_, .inr (4, [.ref a_tape, .ref a_rules, .ref a_places, .ref a_steps, .int c_siteCount, .int c_stepCount, .int c_seenRules, .int w_1, .int c_wordStart, .int c_number, .int c_failed])), (a_tape, .inr (7, [.ref a_tape_bytes, .int c_tape_length])), (a_tape_bytes, .inl (E.2.2.1, 320, .inl c_tape_bytes))] := hD
  refine lv_aload_n hx hb dX3_readSign_4 rfl (lv_at hl 0 rfl) ?_
  refine gt_X3_0 (v := .ref a_tape) hx hb hts i_f_X3_readSign_X3 hown hK hP 0 rfl (hts (.fieldLink RX3 43 "HushWatch$Reader" "tape" "LHushWatch$Tape;") (List.mem_of_getElem? (i := 1) rfl)) rfl dX3_readSign_5 ?_
  refine lv_aload_n hx hb dX3_readSign_8 rfl (lv_at hl 0 rfl) ?_
  refine gt_X3_7 (v := .int w_1) hx hb hts i_f_X3_readSign_X3 hown hK hP 0 rfl (hts (.fieldLink RX3 31 "HushWatch$Reader" "at" "I") (List.mem_of_getElem? (i := 2) rfl)) rfl dX3_readSign_9 ?_
  replace hF := bd1_s hF
  obtain ⟨r_3, hc_4, hF⟩ := hF
  have hPc : va_P E.1 vwCl (w_X6_signAt E a_tape a_tape_bytes c_tape_length c_tape_bytes) H := hP.sub (ws' := [(a_tape, .inr (7, [.ref a_tape_bytes, .int c_tape_length])), (a_tape_bytes, .inl (E.2.2.1, 320, .inl c_tape_bytes))]) [1, 2] rfl
  have hrc := va_recv hK hPc (ci := 7) (q0 := 0) rfl rfl
  refine pE_i (va_runV (As := [.int w_1]) (rest := [])  ⟨hx, hb, hml, hown, hts⟩ (f_X6_signAt l E (a_ := a_tape) (a_bytes := a_tape_bytes) (p1 := w_1) (c_length := c_tape_length) (c_bytes := c_tape_bytes) hc_4) (cwV 1 hts g_f_X3_readSign_f_X6_signAt_143 rfl rfl rfl hd_X6_signAt ⟨Nat.le_of_ble_eq_true rfl, Nat.le_of_ble_eq_true rfl⟩) ⟨pP.blind, hrc, (pP.pre ⟨hK, hN⟩ hPc)⟩ rfl rfl hl.1 rfl (lv_room (Nat.le_of_ble_eq_true rfl)) dX3_readSign_12 ⟨Nat.le_of_ble_eq_true rfl, Nat.le_of_ble_eq_true rfl⟩) ?_
  refine lv_iload_n hx hb dX3_readSign_15 rfl (lv_at hl 1 rfl) ?_
  refine lv_icmp_eq (tgt := 28) hx hb dX3_readSign_16 (by decide) (fun c_5 => ?_) (fun c_5 => ?_)
  ·
    replace hF := ip c_5 hF
    refine lv_aload_n hx hb dX3_readSign_28 rfl (lv_at hl 0 rfl) ?_
    refine lv_dup hx hb dX3_readSign_29 rfl ?_
    refine gt_X3_7 (v := .int w_1) hx hb hts i_f_X3_readSign_X3 hown hK hP 0 rfl (hts (.fieldLink RX3 31 "HushWatch$Reader" "at" "I") (List.mem_of_getElem? (i := 2) rfl)) rfl dX3_readSign_30 ?_
    refine lv_iconst (v := 1) hx hb dX3_readSign_33 (by decide) ?_
    refine lv_iadd hx hb dX3_readSign_34 ?_
    refine pt_X3_7 (v := .int (w_1 + (1 : Int32))) hx hb hts i_f_X3_readSign_X3 hown hK hP hD hS 0 rfl (hts (.fieldLink RX3 31 "HushWatch$Reader" "at" "I") (List.mem_of_getElem? (i := 2) rfl)) rfl rfl (Nat.le_of_ble_eq_true rfl) dX3_readSign_35 (fun H locs hP hD hS => ?_)
    replace hP : va_P E.1 vwCl [(a_, .inr (4, [.ref a_tape, .ref a_rules, .ref a_places, .ref a_steps, .int c_siteCount, .int c_stepCount, .int c_seenRules, .int (w_1 + (1 : Int32)), .int c_wordStart, .int c_number, .int c_failed])), (a_tape, .inr (7, [.ref a_tape_bytes, .int c_tape_length])), (a_tape_bytes, .inl (E.2.2.1, 320, .inl c_tape_bytes))] H := hP
    replace hD : va_D A [(a_, .inr (4, [.ref a_tape, .ref a_rules, .ref a_places, .ref a_steps, .int c_siteCount, .int c_stepCount, .int c_seenRules, .int (w_1 + (1 : Int32)), .int c_wordStart, .int c_number, .int c_failed])), (a_tape, .inr (7, [.ref a_tape_bytes, .int c_tape_length])), (a_tape_bytes, .inl (E.2.2.1, 320, .inl c_tape_bytes))] := hD
    refine lv_iconst (v := 1) hx hb dX3_readSign_38 (by decide) ?_
    rw [hQ]
    have h9 := fin9 (P := fun u9 : Int32 × Int32 × Int32 => (1 : Int32) = u9.1 ∧ va_P E.1 vwCl (w_X3_readSign E a_ a_tape a_rules a_places a_steps a_tape_bytes c_siteCount c_stepCount c_seenRules u9.2.1 c_wordStart c_number u9.2.2 c_tape_length c_tape_bytes) H ∧ va_D A (w_X3_readSign E a_ a_tape a_rules a_places a_steps a_tape_bytes c_siteCount c_stepCount c_seenRules u9.2.1 c_wordStart c_number u9.2.2 c_tape_length c_tape_bytes)) hF ⟨rfl, hP, hD⟩
    obtain ⟨e9_0, hP9, hD9⟩ := h9
    exact W.zret (v := (1 : Int32)) hx hb hr rfl (fun tt ht hW => ⟨⟨_, (), rfl, ⟨e9_0, Or.inr rfl⟩, ht ▸ hP9, hD9⟩, hS.F ht⟩) hS.2.2 dX3_readSign_39
  ·
    replace hF := inn c_5 hF
    refine lv_aload_n hx hb dX3_readSign_19 rfl (lv_at hl 0 rfl) ?_
    refine lv_aload_n hx hb dX3_readSign_20 rfl (lv_at hl 0 rfl) ?_
    refine gt_X3_7 (v := .int w_1) hx hb hts i_f_X3_readSign_X3 hown hK hP 0 rfl (hts (.fieldLink RX3 31 "HushWatch$Reader" "at" "I") (List.mem_of_getElem? (i := 2) rfl)) rfl dX3_readSign_21 ?_
    replace hF := bd2_s hF
    obtain ⟨r_6, w_7, hc_8, hF⟩ := hF
    obtain ⟨hPc, hDc, hFc⟩ := wcut (wc := (w_X3_failAt E a_ a_tape a_rules a_places a_steps c_siteCount c_stepCount c_seenRules w_1 c_wordStart c_number c_failed)) hP hD hS hA [0] (by decide) rfl
    have hrc := va_recv hK hPc (ci := 4) (q0 := 0) rfl rfl
    refine cE_z (wc := (w_X3_failAt E a_ a_tape a_rules a_places a_steps c_siteCount c_stepCount c_seenRules w_1 c_wordStart c_number c_failed)) (wr := [(a_tape, .inr (7, [.ref a_tape_bytes, .int c_tape_length])), (a_tape_bytes, .inl (E.2.2.1, 320, .inl c_tape_bytes))]) (w1 := (w_X3_failAt E a_ a_tape a_rules a_places a_steps c_siteCount c_stepCount c_seenRules w_1 c_wordStart c_number w_7)) (va_runV (As := [.int w_1]) (rest := [])  ⟨hx, hb, hml, hown, hts⟩ (f_X3_failAt l E H.size (a_ := a_) (a_tape := a_tape) (a_rules := a_rules) (a_places := a_places) (a_steps := a_steps) (p1 := w_1) (c_siteCount := c_siteCount) (c_stepCount := c_stepCount) (c_seenRules := c_seenRules) (c_at := w_1) (c_wordStart := c_wordStart) (c_number := c_number) (c_failed := c_failed) hc_8) (cwV 1 hts g_f_X3_readSign_f_X3_failAt_87 rfl rfl rfl hd_X3_failAt ⟨Nat.le_of_ble_eq_true rfl, Nat.le_of_ble_eq_true rfl⟩) ⟨pW.blind, hrc, (pW.pre ⟨hK, hN⟩ hPc hDc)⟩ rfl rfl hl.1 rfl (lv_room (Nat.le_of_ble_eq_true rfl)) dX3_readSign_24 ⟨Nat.le_of_ble_eq_true rfl, Nat.le_of_ble_eq_true rfl⟩) hS hFc hP hD [0] [1, 2] rfl rfl (by decide) (by decide) (fun hb_9 H locs hP hD hS => ?_)
    replace hP : va_P E.1 vwCl [(a_tape, .inr (7, [.ref a_tape_bytes, .int c_tape_length])), (a_tape_bytes, .inl (E.2.2.1, 320, .inl c_tape_bytes)), (a_, .inr (4, [.ref a_tape, .ref a_rules, .ref a_places, .ref a_steps, .int c_siteCount, .int c_stepCount, .int c_seenRules, .int w_1, .int c_wordStart, .int c_number, .int w_7]))] H := hP
    replace hD : va_D A [(a_tape, .inr (7, [.ref a_tape_bytes, .int c_tape_length])), (a_tape_bytes, .inl (E.2.2.1, 320, .inl c_tape_bytes)), (a_, .inr (4, [.ref a_tape, .ref a_rules, .ref a_places, .ref a_steps, .int c_siteCount, .int c_stepCount, .int c_seenRules, .int w_1, .int c_wordStart, .int c_number, .int w_7]))] := hD
    rw [hQ]
    have h9 := fin9 (P := fun u9 : Int32 × Int32 × Int32 => r_6 = u9.1 ∧ va_P E.1 vwCl (w_X3_readSign E a_ a_tape a_rules a_places a_steps a_tape_bytes c_siteCount c_stepCount c_seenRules u9.2.1 c_wordStart c_number u9.2.2 c_tape_length c_tape_bytes) H ∧ va_D A (w_X3_readSign E a_ a_tape a_rules a_places a_steps a_tape_bytes c_siteCount c_stepCount c_seenRules u9.2.1 c_wordStart c_number u9.2.2 c_tape_length c_tape_bytes)) hF ⟨rfl, hP.sub [2, 0, 1] rfl, hD.sub [2, 0, 1] (by decide) rfl⟩
    obtain ⟨e9_0, hP9, hD9⟩ := h9
    exact W.zret (v := r_6) hx hb hr (nar_bool hb_9) (fun tt ht hW => ⟨⟨_, (), rfl, ⟨e9_0, hb_9⟩, ht ▸ hP9, hD9⟩, hS.F ht⟩) hS.2.2 dX3_readSign_27

def B_X3_readNumber_56 (c_tape_length : Int32) (c_tape_bytes : Nat → Int32) (x5 : Int32) (x6 : Int32) (c_at : Int32) : Option ((Int32 × Int32) ⊕ (Int32 × Int32)) :=
  if c_tape_length ≤ c_at then some (.inr (x6, c_at)) else bd1 (F_X6_signAt c_at c_tape_bytes c_tape_length) (fun r_8 => bd1 (F_X3_isDigit r_8) (fun r_10 => if r_10 = (0 : Int32) then some (.inr (x6, c_at)) else if (7 : Int32) ≤ c_at - x5 then some (.inl (x6, c_at + (1 : Int32))) else bd1 (F_X6_signAt c_at c_tape_bytes c_tape_length) (fun r_15 => some (.inl (((x6 * (10 : Int32)) + r_15) - (48 : Int32), c_at + (1 : Int32))))))
def J_X3_readNumber_157 (p1 : Int32) (p2 : Int32) (k0 : Int32) (x3 : Int32) (x7 : Int32) (c_at : Int32) (c_failed : Int32) : Option (Int32 × Int32 × Int32 × Int32) :=
  if x7 < (1 : Int32) then bd2 (F_X3_failAt x3 c_failed) (fun r_22 w_23 => some (r_22, c_at, k0, w_23)) else if (7 : Int32) < x7 then bd2 (F_X3_failAt x3 c_failed) (fun r_27 w_28 => some (r_27, c_at, k0, w_28)) else if k0 < p1 then bd2 (F_X3_failAt x3 c_failed) (fun r_32 w_33 => some (r_32, c_at, k0, w_33)) else if k0 ≤ p2 then some ((1 : Int32), c_at, k0, c_failed) else bd2 (F_X3_failAt x3 c_failed) (fun r_37 w_38 => some (r_37, c_at, k0, w_38))
def J_X3_readNumber_134 (p1 : Int32) (p2 : Int32) (x3 : Int32) (x4 : Int32) (x5 : Int32) (x6 : Int32) (c_at : Int32) (c_failed : Int32) : Option (Int32 × Int32 × Int32 × Int32) :=
  if x4 = (0 : Int32) then J_X3_readNumber_157 p1 p2 x6 x3 (c_at - x5) c_at c_failed else J_X3_readNumber_157 p1 p2 (-x6) x3 (c_at - x5) c_at c_failed
def J_X3_readNumber_47 (K : Nat) (p1 : Int32) (p2 : Int32) (c_tape_length : Int32) (c_tape_bytes : Nat → Int32) (x3 : Int32) (x4 : Int32) (c_at : Int32) (c_failed : Int32) : Option (Int32 × Int32 × Int32 × Int32) :=
  bd2 (lpF (fun u9 : Int32 × Int32 => B_X3_readNumber_56 c_tape_length c_tape_bytes c_at u9.1 u9.2) K ((0 : Int32), c_at)) (fun x6_17 c_at_18 => J_X3_readNumber_134 p1 p2 x3 x4 c_at x6_17 c_at_18 c_failed)
def J_X3_readNumber_30 (K : Nat) (p1 : Int32) (p2 : Int32) (c_tape_length : Int32) (c_tape_bytes : Nat → Int32) (k0 : Int32) (x3 : Int32) (c_at : Int32) (c_failed : Int32) : Option (Int32 × Int32 × Int32 × Int32) :=
  if k0 = (0 : Int32) then J_X3_readNumber_47 K p1 p2 c_tape_length c_tape_bytes x3 k0 c_at c_failed else J_X3_readNumber_47 K p1 p2 c_tape_length c_tape_bytes x3 k0 (c_at + (1 : Int32)) c_failed
def F_X3_readNumber (K : Nat) (p1 : Int32) (p2 : Int32) (c_tape_bytes : Nat → Int32) (c_tape_length : Int32) (c_at : Int32) (c_number : Int32) (c_failed : Int32) : Option (Int32 × Int32 × Int32 × Int32) :=
  bd1 (F_X3_skipBlanks K c_tape_bytes c_tape_length c_at) (fun w_1 => bd1 (F_X6_signAt w_1 c_tape_bytes c_tape_length) (fun r_3 => if r_3 = (45 : Int32) then J_X3_readNumber_30 K p1 p2 c_tape_length c_tape_bytes (1 : Int32) w_1 w_1 c_failed else J_X3_readNumber_30 K p1 p2 c_tape_length c_tape_bytes (0 : Int32) w_1 w_1 c_failed))
abbrev w_X3_readNumber (E : EE) (a_ a_tape a_rules a_places a_steps a_tape_bytes : Nat) (c_siteCount : Int32) (c_stepCount : Int32) (c_seenRules : Int32) (c_at : Int32) (c_wordStart : Int32) (c_number : Int32) (c_failed : Int32) (c_tape_length : Int32) (c_tape_bytes : Nat → Int32) : va_W := [(a_, .inr (4, [.ref a_tape, .ref a_rules, .ref a_places, .ref a_steps, .int c_siteCount, .int c_stepCount, .int c_seenRules, .int c_at, .int c_wordStart, .int c_number, .int c_failed])), (a_tape, .inr (7, [.ref a_tape_bytes, .int c_tape_length])), (a_tape_bytes, .inl (E.2.2.1, 320, .inl c_tape_bytes))]
def v_f_X3_readNumber : List Cond := .code yX3_readNumber cX3_readNumber 8 (some .boolean) :: ([.fieldLink RX3 31 "HushWatch$Reader" "at" "I", .fieldLink RX3 43 "HushWatch$Reader" "tape" "LHushWatch$Tape;", .fieldLink RX3 37 "HushWatch$Reader" "number" "I", .methodLink RX3 140 yX3_skipBlanks, .instanceMethod yX3_skipBlanks, .selects RX3 yX3_skipBlanks yX3_skipBlanks, .initialized RX3, .methodLink RX3 143 yX6_signAt, .instanceMethod yX6_signAt, .selects RX6 yX6_signAt yX6_signAt, .initialized RX6, .methodLink RX3 158 yX3_isDigit, .static yX3_isDigit, .methodLink RX3 87 yX3_failAt, .instanceMethod yX3_failAt, .selects RX3 yX3_failAt yX3_failAt] ++ (v_f_X3_skipBlanks ++ (wsX30 ++ (v_f_X6_signAt ++ (wsX60 ++ (v_f_X3_isDigit ++ (v_f_X3_failAt ++ ([]))))))))
theorem gw_f_X3_readNumber : v_f_X3_readNumber.all goodWord = true := by decide +kernel
theorem i_f_X3_readNumber_X3 : ∀ w ∈ wsX30, w ∈ v_f_X3_readNumber := fun _ h => List.mem_cons_of_mem _ (List.mem_append_right _ (List.mem_append_right _ (List.mem_append_left _ h)))
theorem i_f_X3_readNumber_X6 : ∀ w ∈ wsX60, w ∈ v_f_X3_readNumber := fun _ h => List.mem_cons_of_mem _ (List.mem_append_right _ (List.mem_append_right _ (List.mem_append_right _ (List.mem_append_right _ (List.mem_append_left _ h)))))
theorem g_f_X3_readNumber_f_X3_skipBlanks_140 : GoodIn v_f_X3_readNumber (wsV RX3 140 RX3 yX3_skipBlanks v_f_X3_skipBlanks) := goodIn_app (goodIn_of _ (by decide +kernel)) (goodIn_sub (fun _ h => List.mem_cons_of_mem _ (List.mem_append_right _ (List.mem_append_left _ h))) gw_f_X3_skipBlanks)
theorem g_f_X3_readNumber_f_X6_signAt_143 : GoodIn v_f_X3_readNumber (wsV RX3 143 RX6 yX6_signAt v_f_X6_signAt) := goodIn_app (goodIn_of _ (by decide +kernel)) (goodIn_sub (fun _ h => List.mem_cons_of_mem _ (List.mem_append_right _ (List.mem_append_right _ (List.mem_append_right _ (List.mem_append_left _ h))))) gw_f_X6_signAt)
theorem g_f_X3_readNumber_f_X3_isDigit_158 : GoodIn v_f_X3_readNumber (va_wsS RX3 158 yX3_isDigit v_f_X3_isDigit) := goodIn_app (goodIn_of _ (by decide +kernel)) (goodIn_sub (fun _ h => List.mem_cons_of_mem _ (List.mem_append_right _ (List.mem_append_right _ (List.mem_append_right _ (List.mem_append_right _ (List.mem_append_right _ (List.mem_append_left _ h))))))) gw_f_X3_isDigit)
theorem g_f_X3_readNumber_f_X3_failAt_87 : GoodIn v_f_X3_readNumber (wsV RX3 87 RX3 yX3_failAt v_f_X3_failAt) := goodIn_app (goodIn_of _ (by decide +kernel)) (goodIn_sub (fun _ h => List.mem_cons_of_mem _ (List.mem_append_right _ (List.mem_append_right _ (List.mem_append_right _ (List.mem_append_right _ (List.mem_append_right _ (List.mem_append_right _ (List.mem_append_left _ h)))))))) gw_f_X3_failAt)
theorem hd_X3_readNumber : yX3_readNumber.cls = RX3 ∧ yX3_readNumber.cls ≠ "java/lang/invoke/MethodHandle" ∧ yX3_readNumber.cls ≠ "java/lang/invoke/VarHandle" ∧ (parseMethodDescriptor yX3_readNumber.desc).map (fun d => d.parameters.length) = some 2 := by decide +kernel
set_option maxHeartbeats 4000000 in
set_option maxRecDepth 100000 in
theorem wb_X3_readNumber_56 {p : Program} (l : Launch) {e : Env} {s : State} {m : MethodId} {below : List Frame} {meth : Method} {c : Code} {Q : State → Prop} (E : EE) (K : Nat) {a_ a_tape a_rules a_places a_steps a_tape_bytes : Nat} {p1 : Int32} {p2 : Int32} {c_siteCount : Int32} {c_stepCount : Int32} {c_seenRules : Int32} {c_wordStart : Int32} {c_tape_length : Int32} {c_tape_bytes : Nat → Int32} {x3 : Int32} {x4 : Int32} {x5 : Int32} {x6 : Int32} {c_at : Int32} {c_number : Int32} {c_failed : Int32} (hx : p.tables.exec = Jvm.exec) (hb : c.code = cX3_readNumber) (hml : c.maxLocals = 8) (hown : s.vm.findClass RX3 = some m.cls) (hts : ∀ w ∈ v_f_X3_readNumber, w.before #[Value.ref a_, Value.int p1, Value.int p2] s = true) (hK : va_K E.1 vwCl (TY E) s) (hN : NX s) {A : Nat → Prop} (hA : ∀ q : Nat, s.heap.size ≤ q → A q) {xx : (Int32 × Int32) ⊕ (Int32 × Int32)} (hC : ∀ (x6 : Int32), ∀ (c_at : Int32), xx = .inl (x6, c_at) → ∀ (H : Heap) (locs : List Loc) (ls : Array Slot), va_P E.1 vwCl (w_X3_readNumber E a_ a_tape a_rules a_places a_steps a_tape_bytes c_siteCount c_stepCount c_seenRules c_at c_wordStart c_number c_failed c_tape_length c_tape_bytes) H → va_D A (w_X3_readNumber E a_ a_tape a_rules a_places a_steps a_tape_bytes c_siteCount c_stepCount c_seenRules c_at c_wordStart c_number c_failed c_tape_length c_tape_bytes) → va_S A s.heap H locs → lv_has ls 8 [(0, .ref a_), (1, .int p1), (2, .int p2), (3, .int x3), (4, .int x4), (5, .int x5), (6, .int x6)] → W p l e ({ frames := 2, cells := 0, slots := 0, locals := 41 } : Room) s m #[Value.ref a_, Value.int p1, Value.int p2] below meth c H locs 0 0 Q (F0 m 56 ls [])) (hE : ∀ (x6 : Int32), ∀ (c_at : Int32), xx = .inr (x6, c_at) → ((∀ (H : Heap) (locs : List Loc) (ls : Array Slot), va_P E.1 vwCl (w_X3_readNumber E a_ a_tape a_rules a_places a_steps a_tape_bytes c_siteCount c_stepCount c_seenRules c_at c_wordStart c_number c_failed c_tape_length c_tape_bytes) H → va_D A (w_X3_readNumber E a_ a_tape a_rules a_places a_steps a_tape_bytes c_siteCount c_stepCount c_seenRules c_at c_wordStart c_number c_failed c_tape_length c_tape_bytes) → va_S A s.heap H locs → lv_has ls 8 [(0, .ref a_), (1, .int p1), (2, .int p2), (3, .int x3), (4, .int x4), (5, .int x5), (6, .int x6)] → W p l e ({ frames := 2, cells := 0, slots := 0, locals := 41 } : Room) s m #[Value.ref a_, Value.int p1, Value.int p2] below meth c H locs 0 0 Q (F0 m 134 ls [])))) (hF : B_X3_readNumber_56 c_tape_length c_tape_bytes x5 x6 c_at = some xx) : ∀ (H : Heap) (locs : List Loc) (ls : Array Slot), va_P E.1 vwCl (w_X3_readNumber E a_ a_tape a_rules a_places a_steps a_tape_bytes c_siteCount c_stepCount c_seenRules c_at c_wordStart c_number c_failed c_tape_length c_tape_bytes) H → va_D A (w_X3_readNumber E a_ a_tape a_rules a_places a_steps a_tape_bytes c_siteCount c_stepCount c_seenRules c_at c_wordStart c_number c_failed c_tape_length c_tape_bytes) → va_S A s.heap H locs → lv_has ls 8 [(0, .ref a_), (1, .int p1), (2, .int p2), (3, .int x3), (4, .int x4), (5, .int x5), (6, .int x6)] → W p l e ({ frames := 2, cells := 0, slots := 0, locals := 41 } : Room) s m #[Value.ref a_, Value.int p1, Value.int p2] below meth c H locs 0 0 Q (F0 m 56 ls []) := by
  unfold B_X3_readNumber_56 at hF
  intro H locs ls hP hD hS hl
  replace hP : va_P E.1 vwCl [(a_, .inr (4, [.ref a_tape, .ref a_rules, .ref a_places, .ref a_steps, .int c_siteCount, .int c_stepCount, .int c_seenRules, .int c_at, .int c_wordStart, .int c_number, .int c_failed])), (a_tape, .inr (7, [.ref a_tape_bytes, .int c_tape_length])), (a_tape_bytes, .inl (E.2.2.1, 320, .inl c_tape_bytes))] H := hP
  replace hD : va_D A [(a_, .inr (4, [.ref a_tape, .ref a_rules, .ref a_places, .ref a_steps, .int c_siteCount, .int c_stepCount, .int c_seenRules, .int c_at, .int c_wordStart, .int c_number, .int c_failed])), (a_tape, .inr (7, [.ref a_tape_bytes, .int c_tape_length])), (a_tape_bytes, .inl (E.2.2.1, 320, .inl c_tape_bytes))] := hD
  refine lv_aload_n hx hb dX3_readNumber_56 rfl (lv_at hl 0 rfl) ?_
  refine gt_X3_7 (v := .int c_at) hx hb hts i_f_X3_readNumber_X3 hown hK hP 0 rfl (hts (.fieldLink RX3 31 "HushWatch$Reader" "at" "I") (List.mem_of_getElem? (i := 1) rfl)) rfl dX3_readNumber_57 ?_
  refine lv_aload_n hx hb dX3_readNumber_60 rfl (lv_at hl 0 rfl) ?_
  refine gt_X3_0 (v := .ref a_tape) hx hb hts i_f_X3_readNumber_X3 hown hK hP 0 rfl (hts (.fieldLink RX3 43 "HushWatch$Reader" "tape" "LHushWatch$Tape;") (List.mem_of_getElem? (i := 2) rfl)) rfl dX3_readNumber_61 ?_
  refine va_getN (D := E.1) (ci := 7) (v := .int c_tape_length) (C := RX6) (T := TX6) (N := 2) hx hb hts i_f_X3_readNumber_X6 hown hK hP 1 rfl rfl 1 (by decide) (nx hN 2 rfl) (fun _ h9 => h9) rfl dX3_readNumber_64 ?_
  refine lv_icmp_ge (tgt := 134) hx hb dX3_readNumber_67 (by decide) (fun c_7 => ?_) (fun c_7 => ?_)
  ·
    replace hF := ip c_7 hF
    cases hF
    exact hE x6 c_at rfl H locs ls (hP.sub [0, 1, 2] rfl) (hD.sub [0, 1, 2] (by decide) rfl) hS (lv_sub hl [0, 1, 2, 3, 4, 5, 6] rfl)
  ·
    replace hF := inn c_7 hF
    refine lv_aload_n hx hb dX3_readNumber_70 rfl (lv_at hl 0 rfl) ?_
    refine gt_X3_0 (v := .ref a_tape) hx hb hts i_f_X3_readNumber_X3 hown hK hP 0 rfl (hts (.fieldLink RX3 43 "HushWatch$Reader" "tape" "LHushWatch$Tape;") (List.mem_of_getElem? (i := 2) rfl)) rfl dX3_readNumber_71 ?_
    refine lv_aload_n hx hb dX3_readNumber_74 rfl (lv_at hl 0 rfl) ?_
    refine gt_X3_7 (v := .int c_at) hx hb hts i_f_X3_readNumber_X3 hown hK hP 0 rfl (hts (.fieldLink RX3 31 "HushWatch$Reader" "at" "I") (List.mem_of_getElem? (i := 1) rfl)) rfl dX3_readNumber_75 ?_
    replace hF := bd1_s hF
    obtain ⟨r_8, hc_9, hF⟩ := hF
    have hPc : va_P E.1 vwCl (w_X6_signAt E a_tape a_tape_bytes c_tape_length c_tape_bytes) H := hP.sub (ws' := [(a_tape, .inr (7, [.ref a_tape_bytes, .int c_tape_length])), (a_tape_bytes, .inl (E.2.2.1, 320, .inl c_tape_bytes))]) [1, 2] rfl
    have hrc := va_recv hK hPc (ci := 7) (q0 := 0) rfl rfl
    refine pE_i (va_runV (As := [.int c_at]) (rest := [])  ⟨hx, hb, hml, hown, hts⟩ (f_X6_signAt l E (a_ := a_tape) (a_bytes := a_tape_bytes) (p1 := c_at) (c_length := c_tape_length) (c_bytes := c_tape_bytes) hc_9) (cwV 1 hts g_f_X3_readNumber_f_X6_signAt_143 rfl rfl rfl hd_X6_signAt ⟨Nat.le_of_ble_eq_true rfl, Nat.le_of_ble_eq_true rfl⟩) ⟨pP.blind, hrc, (pP.pre ⟨hK, hN⟩ hPc)⟩ rfl rfl hl.1 rfl (lv_room (Nat.le_of_ble_eq_true rfl)) dX3_readNumber_78 ⟨Nat.le_of_ble_eq_true rfl, Nat.le_of_ble_eq_true rfl⟩) ?_
    replace hF := bd1_s hF
    obtain ⟨r_10, hc_11, hF⟩ := hF
    have hPc : va_P E.1 vwCl [] H := fun k q h => by simp at h
    refine pE_z (va_runS (As := [.int r_8]) (rest := [])  ⟨hx, hb, hml, hown, hts⟩ (f_X3_isDigit l E (p0 := r_8) hc_11) (va_cwS 1 hts g_f_X3_readNumber_f_X3_isDigit_158 rfl rfl rfl hd_X3_isDigit.2 ⟨Nat.le_of_ble_eq_true rfl, Nat.le_of_ble_eq_true rfl⟩) ⟨pP.blind, (pP.pre ⟨hK, hN⟩ hPc)⟩ rfl rfl hl.1 rfl (lv_room (Nat.le_of_ble_eq_true rfl)) dX3_readNumber_81 ⟨Nat.le_of_ble_eq_true rfl, Nat.le_of_ble_eq_true rfl⟩) (fun hb_12 => ?_)
    refine lv_if_eq (tgt := 134) hx hb dX3_readNumber_84 (by decide) (fun c_13 => ?_) (fun c_13 => ?_)
    ·
      replace hF := ip c_13 hF
      cases hF
      exact hE x6 c_at rfl H locs ls (hP.sub [0, 1, 2] rfl) (hD.sub [0, 1, 2] (by decide) rfl) hS (lv_sub hl [0, 1, 2, 3, 4, 5, 6] rfl)
    ·
      replace hF := inn c_13 hF
      refine lv_aload_n hx hb dX3_readNumber_87 rfl (lv_at hl 0 rfl) ?_
      refine gt_X3_7 (v := .int c_at) hx hb hts i_f_X3_readNumber_X3 hown hK hP 0 rfl (hts (.fieldLink RX3 31 "HushWatch$Reader" "at" "I") (List.mem_of_getElem? (i := 1) rfl)) rfl dX3_readNumber_88 ?_
      refine lv_iload hx hb dX3_readNumber_91 (lv_at hl 5 rfl) ?_
      refine lv_isub hx hb dX3_readNumber_93 ?_
      refine lv_bipush (v := 7) hx hb dX3_readNumber_94 (by decide) ?_
      refine lv_icmp_ge (tgt := 121) hx hb dX3_readNumber_96 (by decide) (fun c_14 => ?_) (fun c_14 => ?_)
      ·
        replace hF := ip c_14 hF
        refine lv_aload_n hx hb dX3_readNumber_121 rfl (lv_at hl 0 rfl) ?_
        refine lv_dup hx hb dX3_readNumber_122 rfl ?_
        refine gt_X3_7 (v := .int c_at) hx hb hts i_f_X3_readNumber_X3 hown hK hP 0 rfl (hts (.fieldLink RX3 31 "HushWatch$Reader" "at" "I") (List.mem_of_getElem? (i := 1) rfl)) rfl dX3_readNumber_123 ?_
        refine lv_iconst (v := 1) hx hb dX3_readNumber_126 (by decide) ?_
        refine lv_iadd hx hb dX3_readNumber_127 ?_
        refine pt_X3_7 (v := .int (c_at + (1 : Int32))) hx hb hts i_f_X3_readNumber_X3 hown hK hP hD hS 0 rfl (hts (.fieldLink RX3 31 "HushWatch$Reader" "at" "I") (List.mem_of_getElem? (i := 1) rfl)) rfl rfl (Nat.le_of_ble_eq_true rfl) dX3_readNumber_128 (fun H locs hP hD hS => ?_)
        replace hP : va_P E.1 vwCl [(a_, .inr (4, [.ref a_tape, .ref a_rules, .ref a_places, .ref a_steps, .int c_siteCount, .int c_stepCount, .int c_seenRules, .int (c_at + (1 : Int32)), .int c_wordStart, .int c_number, .int c_failed])), (a_tape, .inr (7, [.ref a_tape_bytes, .int c_tape_length])), (a_tape_bytes, .inl (E.2.2.1, 320, .inl c_tape_bytes))] H := hP
        replace hD : va_D A [(a_, .inr (4, [.ref a_tape, .ref a_rules, .ref a_places, .ref a_steps, .int c_siteCount, .int c_stepCount, .int c_seenRules, .int (c_at + (1 : Int32)), .int c_wordStart, .int c_number, .int c_failed])), (a_tape, .inr (7, [.ref a_tape_bytes, .int c_tape_length])), (a_tape_bytes, .inl (E.2.2.1, 320, .inl c_tape_bytes))] := hD
        refine lv_goto (tgt := 56) hx hb dX3_readNumber_131 (by decide) ?_
        cases hF
        exact hC x6 (c_at + (1 : Int32)) rfl H locs ls (hP.sub [0, 1, 2] rfl) (hD.sub [0, 1, 2] (by decide) rfl) hS (lv_sub hl [0, 1, 2, 3, 4, 5, 6] rfl)
      ·
        replace hF := inn c_14 hF
        refine lv_iload hx hb dX3_readNumber_99 (lv_at hl 6 rfl) ?_
        refine lv_bipush (v := 10) hx hb dX3_readNumber_101 (by decide) ?_
        refine lv_imul hx hb dX3_readNumber_103 ?_
        refine lv_aload_n hx hb dX3_readNumber_104 rfl (lv_at hl 0 rfl) ?_
        refine gt_X3_0 (v := .ref a_tape) hx hb hts i_f_X3_readNumber_X3 hown hK hP 0 rfl (hts (.fieldLink RX3 43 "HushWatch$Reader" "tape" "LHushWatch$Tape;") (List.mem_of_getElem? (i := 2) rfl)) rfl dX3_readNumber_105 ?_
        refine lv_aload_n hx hb dX3_readNumber_108 rfl (lv_at hl 0 rfl) ?_
        refine gt_X3_7 (v := .int c_at) hx hb hts i_f_X3_readNumber_X3 hown hK hP 0 rfl (hts (.fieldLink RX3 31 "HushWatch$Reader" "at" "I") (List.mem_of_getElem? (i := 1) rfl)) rfl dX3_readNumber_109 ?_
        replace hF := bd1_s hF
        obtain ⟨r_15, hc_16, hF⟩ := hF
        have hPc : va_P E.1 vwCl (w_X6_signAt E a_tape a_tape_bytes c_tape_length c_tape_bytes) H := hP.sub (ws' := [(a_tape, .inr (7, [.ref a_tape_bytes, .int c_tape_length])), (a_tape_bytes, .inl (E.2.2.1, 320, .inl c_tape_bytes))]) [1, 2] rfl
        have hrc := va_recv hK hPc (ci := 7) (q0 := 0) rfl rfl
        refine pE_i (va_runV (As := [.int c_at]) (rest := [.int (x6 * (10 : Int32))])  ⟨hx, hb, hml, hown, hts⟩ (f_X6_signAt l E (a_ := a_tape) (a_bytes := a_tape_bytes) (p1 := c_at) (c_length := c_tape_length) (c_bytes := c_tape_bytes) hc_16) (cwV 1 hts g_f_X3_readNumber_f_X6_signAt_143 rfl rfl rfl hd_X6_signAt ⟨Nat.le_of_ble_eq_true rfl, Nat.le_of_ble_eq_true rfl⟩) ⟨pP.blind, hrc, (pP.pre ⟨hK, hN⟩ hPc)⟩ rfl rfl hl.1 rfl (lv_room (Nat.le_of_ble_eq_true rfl)) dX3_readNumber_112 ⟨Nat.le_of_ble_eq_true rfl, Nat.le_of_ble_eq_true rfl⟩) ?_
        refine lv_iadd hx hb dX3_readNumber_115 ?_
        refine lv_bipush (v := 48) hx hb dX3_readNumber_116 (by decide) ?_
        refine lv_isub hx hb dX3_readNumber_118 ?_
        refine lv_istore (lv' := [(6, .int (((x6 * (10 : Int32)) + r_15) - (48 : Int32))), (0, .ref a_), (1, .int p1), (2, .int p2), (3, .int x3), (4, .int x4), (5, .int x5)]) hx hb dX3_readNumber_119 hl (by decide) rfl (fun ls hl => ?_)
        refine lv_aload_n hx hb dX3_readNumber_121 rfl (lv_at hl 1 rfl) ?_
        refine lv_dup hx hb dX3_readNumber_122 rfl ?_
        refine gt_X3_7 (v := .int c_at) hx hb hts i_f_X3_readNumber_X3 hown hK hP 0 rfl (hts (.fieldLink RX3 31 "HushWatch$Reader" "at" "I") (List.mem_of_getElem? (i := 1) rfl)) rfl dX3_readNumber_123 ?_
        refine lv_iconst (v := 1) hx hb dX3_readNumber_126 (by decide) ?_
        refine lv_iadd hx hb dX3_readNumber_127 ?_
        refine pt_X3_7 (v := .int (c_at + (1 : Int32))) hx hb hts i_f_X3_readNumber_X3 hown hK hP hD hS 0 rfl (hts (.fieldLink RX3 31 "HushWatch$Reader" "at" "I") (List.mem_of_getElem? (i := 1) rfl)) rfl rfl (Nat.le_of_ble_eq_true rfl) dX3_readNumber_128 (fun H locs hP hD hS => ?_)
        replace hP : va_P E.1 vwCl [(a_, .inr (4, [.ref a_tape, .ref a_rules, .ref a_places, .ref a_steps, .int c_siteCount, .int c_stepCount, .int c_seenRules, .int (c_at + (1 : Int32)), .int c_wordStart, .int c_number, .int c_failed])), (a_tape, .inr (7, [.ref a_tape_bytes, .int c_tape_length])), (a_tape_bytes, .inl (E.2.2.1, 320, .inl c_tape_bytes))] H := hP
        replace hD : va_D A [(a_, .inr (4, [.ref a_tape, .ref a_rules, .ref a_places, .ref a_steps, .int c_siteCount, .int c_stepCount, .int c_seenRules, .int (c_at + (1 : Int32)), .int c_wordStart, .int c_number, .int c_failed])), (a_tape, .inr (7, [.ref a_tape_bytes, .int c_tape_length])), (a_tape_bytes, .inl (E.2.2.1, 320, .inl c_tape_bytes))] := hD
        refine lv_goto (tgt := 56) hx hb dX3_readNumber_131 (by decide) ?_
        cases hF
        exact hC (((x6 * (10 : Int32)) + r_15) - (48 : Int32)) (c_at + (1 : Int32)) rfl H locs ls (hP.sub [0, 1, 2] rfl) (hD.sub [0, 1, 2] (by decide) rfl) hS (lv_sub hl [1, 2, 3, 4, 5, 6, 0] rfl)

set_option maxHeartbeats 4000000 in
set_option maxRecDepth 100000 in
theorem lw_X3_readNumber_56 {p : Program} (l : Launch) {e : Env} {s : State} {m : MethodId} {below : List Frame} {meth : Method} {c : Code} {Q : State → Prop} (E : EE) (K : Nat) {a_ a_tape a_rules a_places a_steps a_tape_bytes : Nat} {p1 : Int32} {p2 : Int32} {c_siteCount : Int32} {c_stepCount : Int32} {c_seenRules : Int32} {c_wordStart : Int32} {c_tape_length : Int32} {c_tape_bytes : Nat → Int32} {x3 : Int32} {x4 : Int32} {x5 : Int32} {c_number : Int32} {c_failed : Int32} (hx : p.tables.exec = Jvm.exec) (hb : c.code = cX3_readNumber) (hml : c.maxLocals = 8) (hown : s.vm.findClass RX3 = some m.cls) (hts : ∀ w ∈ v_f_X3_readNumber, w.before #[Value.ref a_, Value.int p1, Value.int p2] s = true) (hK : va_K E.1 vwCl (TY E) s) (hN : NX s) {A : Nat → Prop} (hA : ∀ q : Nat, s.heap.size ≤ q → A q) (j9 : Nat) (x6 : Int32) (c_at : Int32) (x6' : Int32) (c_at' : Int32) (hL : lpF (fun u9 : Int32 × Int32 => B_X3_readNumber_56 c_tape_length c_tape_bytes x5 u9.1 u9.2) j9 (x6, c_at) = some (x6', c_at')) (hX : (∀ (H : Heap) (locs : List Loc) (ls : Array Slot), va_P E.1 vwCl (w_X3_readNumber E a_ a_tape a_rules a_places a_steps a_tape_bytes c_siteCount c_stepCount c_seenRules c_at' c_wordStart c_number c_failed c_tape_length c_tape_bytes) H → va_D A (w_X3_readNumber E a_ a_tape a_rules a_places a_steps a_tape_bytes c_siteCount c_stepCount c_seenRules c_at' c_wordStart c_number c_failed c_tape_length c_tape_bytes) → va_S A s.heap H locs → lv_has ls 8 [(0, .ref a_), (1, .int p1), (2, .int p2), (3, .int x3), (4, .int x4), (5, .int x5), (6, .int x6')] → W p l e ({ frames := 2, cells := 0, slots := 0, locals := 41 } : Room) s m #[Value.ref a_, Value.int p1, Value.int p2] below meth c H locs 0 0 Q (F0 m 134 ls []))) : ∀ (H : Heap) (locs : List Loc) (ls : Array Slot), va_P E.1 vwCl (w_X3_readNumber E a_ a_tape a_rules a_places a_steps a_tape_bytes c_siteCount c_stepCount c_seenRules c_at c_wordStart c_number c_failed c_tape_length c_tape_bytes) H → va_D A (w_X3_readNumber E a_ a_tape a_rules a_places a_steps a_tape_bytes c_siteCount c_stepCount c_seenRules c_at c_wordStart c_number c_failed c_tape_length c_tape_bytes) → va_S A s.heap H locs → lv_has ls 8 [(0, .ref a_), (1, .int p1), (2, .int p2), (3, .int x3), (4, .int x4), (5, .int x5), (6, .int x6)] → W p l e ({ frames := 2, cells := 0, slots := 0, locals := 41 } : Room) s m #[Value.ref a_, Value.int p1, Value.int p2] below meth c H locs 0 0 Q (F0 m 56 ls []) := by
  exact lp_rule (P := (fun u9 : Int32 × Int32 => ∀ (H : Heap) (locs : List Loc) (ls : Array Slot), va_P E.1 vwCl (w_X3_readNumber E a_ a_tape a_rules a_places a_steps a_tape_bytes c_siteCount c_stepCount c_seenRules u9.2 c_wordStart c_number c_failed c_tape_length c_tape_bytes) H → va_D A (w_X3_readNumber E a_ a_tape a_rules a_places a_steps a_tape_bytes c_siteCount c_stepCount c_seenRules u9.2 c_wordStart c_number c_failed c_tape_length c_tape_bytes) → va_S A s.heap H locs → lv_has ls 8 [(0, .ref a_), (1, .int p1), (2, .int p2), (3, .int x3), (4, .int x4), (5, .int x5), (6, .int u9.1)] → W p l e ({ frames := 2, cells := 0, slots := 0, locals := 41 } : Room) s m #[Value.ref a_, Value.int p1, Value.int p2] below meth c H locs 0 0 Q (F0 m 56 ls []))) (R := (fun r9 : Int32 × Int32 => (∀ (H : Heap) (locs : List Loc) (ls : Array Slot), va_P E.1 vwCl (w_X3_readNumber E a_ a_tape a_rules a_places a_steps a_tape_bytes c_siteCount c_stepCount c_seenRules r9.2 c_wordStart c_number c_failed c_tape_length c_tape_bytes) H → va_D A (w_X3_readNumber E a_ a_tape a_rules a_places a_steps a_tape_bytes c_siteCount c_stepCount c_seenRules r9.2 c_wordStart c_number c_failed c_tape_length c_tape_bytes) → va_S A s.heap H locs → lv_has ls 8 [(0, .ref a_), (1, .int p1), (2, .int p2), (3, .int x3), (4, .int x4), (5, .int x5), (6, .int r9.1)] → W p l e ({ frames := 2, cells := 0, slots := 0, locals := 41 } : Room) s m #[Value.ref a_, Value.int p1, Value.int p2] below meth c H locs 0 0 Q (F0 m 134 ls [])))) (fun u9 xx hF hC hE => wb_X3_readNumber_56 l E K (p1 := p1) (p2 := p2) (c_siteCount := c_siteCount) (c_stepCount := c_stepCount) (c_seenRules := c_seenRules) (c_wordStart := c_wordStart) (c_tape_length := c_tape_length) (c_tape_bytes := c_tape_bytes) (x3 := x3) (x4 := x4) (x5 := x5) (x6 := u9.1) (c_at := u9.2) (c_number := c_number) (c_failed := c_failed) hx hb hml hown hts hK hN hA (fun x6 c_at q9 => hC _ q9) (fun x6 c_at q9 => hE _ q9) hF) j9 (x6, c_at) (x6', c_at') hL hX

set_option maxHeartbeats 4000000 in
set_option maxRecDepth 100000 in
theorem j_X3_readNumber_157 {p : Program} (l : Launch) {e : Env} {s : State} {m : MethodId} {below : List Frame} {meth : Method} {c : Code} {Q : State → Prop} (E : EE) (K : Nat) {a_ a_tape a_rules a_places a_steps a_tape_bytes : Nat} {p1 : Int32} {p2 : Int32} {c_siteCount : Int32} {c_stepCount : Int32} {c_seenRules : Int32} {c_wordStart : Int32} {c_tape_length : Int32} {c_tape_bytes : Nat → Int32} {k0 : Int32} {x3 : Int32} {x7 : Int32} {c_at : Int32} {c_number : Int32} {c_failed : Int32} (hx : p.tables.exec = Jvm.exec) (hb : c.code = cX3_readNumber) (hml : c.maxLocals = 8) (hown : s.vm.findClass RX3 = some m.cls) (hts : ∀ w ∈ v_f_X3_readNumber, w.before #[Value.ref a_, Value.int p1, Value.int p2] s = true) (hK : va_K E.1 vwCl (TY E) s) (hN : NX s) {A : Nat → Prop} (hA : ∀ q : Nat, s.heap.size ≤ q → A q) {rr : Int32} {n_at : Int32} {n_number : Int32} {n_failed : Int32} (hr : meth.sig.returnType = (some .boolean)) (hlocks : meth.locks = false) (hQ : Q = MQ below (va_Qi (fun (q : Int32) (_u : Unit) => q = rr ∧ (q = 0 ∨ q = 1)) (fun (_u : Unit) tt => va_P E.1 vwCl (w_X3_readNumber E a_ a_tape a_rules a_places a_steps a_tape_bytes c_siteCount c_stepCount c_seenRules n_at c_wordStart n_number n_failed c_tape_length c_tape_bytes) tt.heap ∧ va_D A (w_X3_readNumber E a_ a_tape a_rules a_places a_steps a_tape_bytes c_siteCount c_stepCount c_seenRules n_at c_wordStart n_number n_failed c_tape_length c_tape_bytes)) A) #[Value.ref a_, Value.int p1, Value.int p2] s 0 0 A) (hF : J_X3_readNumber_157 p1 p2 k0 x3 x7 c_at c_failed = some (rr, n_at, n_number, n_failed)) : ∀ (H : Heap) (locs : List Loc) (ls : Array Slot), va_P E.1 vwCl (w_X3_readNumber E a_ a_tape a_rules a_places a_steps a_tape_bytes c_siteCount c_stepCount c_seenRules c_at c_wordStart c_number c_failed c_tape_length c_tape_bytes) H → va_D A (w_X3_readNumber E a_ a_tape a_rules a_places a_steps a_tape_bytes c_siteCount c_stepCount c_seenRules c_at c_wordStart c_number c_failed c_tape_length c_tape_bytes) → va_S A s.heap H locs → lv_has ls 8 [(0, .ref a_), (1, .int p1), (2, .int p2), (3, .int x3), (7, .int x7)] → W p l e ({ frames := 2, cells := 0, slots := 0, locals := 41 } : Room) s m #[Value.ref a_, Value.int p1, Value.int p2] below meth c H locs 0 0 Q (F0 m 157 ls [.int k0, .ref a_]) := by
  unfold J_X3_readNumber_157 at hF
  intro H locs ls hP hD hS hl
  replace hP : va_P E.1 vwCl [(a_, .inr (4, [.ref a_tape, .ref a_rules, .ref a_places, .ref a_steps, .int c_siteCount, .int c_stepCount, .int c_seenRules, .int c_at, .int c_wordStart, .int c_number, .int c_failed])), (a_tape, .inr (7, [.ref a_tape_bytes, .int c_tape_length])), (a_tape_bytes, .inl (E.2.2.1, 320, .inl c_tape_bytes))] H := hP
  replace hD : va_D A [(a_, .inr (4, [.ref a_tape, .ref a_rules, .ref a_places, .ref a_steps, .int c_siteCount, .int c_stepCount, .int c_seenRules, .int c_at, .int c_wordStart, .int c_number, .int c_failed])), (a_tape, .inr (7, [.ref a_tape_bytes, .int c_tape_length])), (a_tape_bytes, .inl (E.2.2.1, 320, .inl c_tape_bytes))] := hD
  refine pt_X3_9 (v := .int k0) hx hb hts i_f_X3_readNumber_X3 hown hK hP hD hS 0 rfl (hts (.fieldLink RX3 37 "HushWatch$Reader" "number" "I") (List.mem_of_getElem? (i := 3) rfl)) rfl rfl (Nat.le_of_ble_eq_true rfl) dX3_readNumber_157 (fun H locs hP hD hS => ?_)
  replace hP : va_P E.1 vwCl [(a_, .inr (4, [.ref a_tape, .ref a_rules, .ref a_places, .ref a_steps, .int c_siteCount, .int c_stepCount, .int c_seenRules, .int c_at, .int c_wordStart, .int k0, .int c_failed])), (a_tape, .inr (7, [.ref a_tape_bytes, .int c_tape_length])), (a_tape_bytes, .inl (E.2.2.1, 320, .inl c_tape_bytes))] H := hP
  replace hD : va_D A [(a_, .inr (4, [.ref a_tape, .ref a_rules, .ref a_places, .ref a_steps, .int c_siteCount, .int c_stepCount, .int c_seenRules, .int c_at, .int c_wordStart, .int k0, .int c_failed])), (a_tape, .inr (7, [.ref a_tape_bytes, .int c_tape_length])), (a_tape_bytes, .inl (E.2.2.1, 320, .inl c_tape_bytes))] := hD
  refine lv_iload hx hb dX3_readNumber_160 (lv_at hl 4 rfl) ?_
  refine lv_iconst (v := 1) hx hb dX3_readNumber_162 (by decide) ?_
  refine lv_icmp_lt (tgt := 189) hx hb dX3_readNumber_163 (by decide) (fun c_21 => ?_) (fun c_21 => ?_)
  ·
    replace hF := ip c_21 hF
    refine lv_aload_n hx hb dX3_readNumber_189 rfl (lv_at hl 0 rfl) ?_
    refine lv_iload_n hx hb dX3_readNumber_190 rfl (lv_at hl 3 rfl) ?_
    replace hF := bd2_s hF
    obtain ⟨r_22, w_23, hc_24, hF⟩ := hF
    obtain ⟨hPc, hDc, hFc⟩ := wcut (wc := (w_X3_failAt E a_ a_tape a_rules a_places a_steps c_siteCount c_stepCount c_seenRules c_at c_wordStart k0 c_failed)) hP hD hS hA [0] (by decide) rfl
    have hrc := va_recv hK hPc (ci := 4) (q0 := 0) rfl rfl
    refine cE_z (wc := (w_X3_failAt E a_ a_tape a_rules a_places a_steps c_siteCount c_stepCount c_seenRules c_at c_wordStart k0 c_failed)) (wr := [(a_tape, .inr (7, [.ref a_tape_bytes, .int c_tape_length])), (a_tape_bytes, .inl (E.2.2.1, 320, .inl c_tape_bytes))]) (w1 := (w_X3_failAt E a_ a_tape a_rules a_places a_steps c_siteCount c_stepCount c_seenRules c_at c_wordStart k0 w_23)) (va_runV (As := [.int x3]) (rest := [])  ⟨hx, hb, hml, hown, hts⟩ (f_X3_failAt l E H.size (a_ := a_) (a_tape := a_tape) (a_rules := a_rules) (a_places := a_places) (a_steps := a_steps) (p1 := x3) (c_siteCount := c_siteCount) (c_stepCount := c_stepCount) (c_seenRules := c_seenRules) (c_at := c_at) (c_wordStart := c_wordStart) (c_number := k0) (c_failed := c_failed) hc_24) (cwV 1 hts g_f_X3_readNumber_f_X3_failAt_87 rfl rfl rfl hd_X3_failAt ⟨Nat.le_of_ble_eq_true rfl, Nat.le_of_ble_eq_true rfl⟩) ⟨pW.blind, hrc, (pW.pre ⟨hK, hN⟩ hPc hDc)⟩ rfl rfl hl.1 rfl (lv_room (Nat.le_of_ble_eq_true rfl)) dX3_readNumber_191 ⟨Nat.le_of_ble_eq_true rfl, Nat.le_of_ble_eq_true rfl⟩) hS hFc hP hD [0] [1, 2] rfl rfl (by decide) (by decide) (fun hb_25 H locs hP hD hS => ?_)
    replace hP : va_P E.1 vwCl [(a_tape, .inr (7, [.ref a_tape_bytes, .int c_tape_length])), (a_tape_bytes, .inl (E.2.2.1, 320, .inl c_tape_bytes)), (a_, .inr (4, [.ref a_tape, .ref a_rules, .ref a_places, .ref a_steps, .int c_siteCount, .int c_stepCount, .int c_seenRules, .int c_at, .int c_wordStart, .int k0, .int w_23]))] H := hP
    replace hD : va_D A [(a_tape, .inr (7, [.ref a_tape_bytes, .int c_tape_length])), (a_tape_bytes, .inl (E.2.2.1, 320, .inl c_tape_bytes)), (a_, .inr (4, [.ref a_tape, .ref a_rules, .ref a_places, .ref a_steps, .int c_siteCount, .int c_stepCount, .int c_seenRules, .int c_at, .int c_wordStart, .int k0, .int w_23]))] := hD
    rw [hQ]
    have h9 := fin9 (P := fun u9 : Int32 × Int32 × Int32 × Int32 => r_22 = u9.1 ∧ va_P E.1 vwCl (w_X3_readNumber E a_ a_tape a_rules a_places a_steps a_tape_bytes c_siteCount c_stepCount c_seenRules u9.2.1 c_wordStart u9.2.2.1 u9.2.2.2 c_tape_length c_tape_bytes) H ∧ va_D A (w_X3_readNumber E a_ a_tape a_rules a_places a_steps a_tape_bytes c_siteCount c_stepCount c_seenRules u9.2.1 c_wordStart u9.2.2.1 u9.2.2.2 c_tape_length c_tape_bytes)) hF ⟨rfl, hP.sub [2, 0, 1] rfl, hD.sub [2, 0, 1] (by decide) rfl⟩
    obtain ⟨e9_0, hP9, hD9⟩ := h9
    exact W.zret (v := r_22) hx hb hr (nar_bool hb_25) (fun tt ht hW => ⟨⟨_, (), rfl, ⟨e9_0, hb_25⟩, ht ▸ hP9, hD9⟩, hS.F ht⟩) hS.2.2 dX3_readNumber_194
  ·
    replace hF := inn c_21 hF
    refine lv_iload hx hb dX3_readNumber_166 (lv_at hl 4 rfl) ?_
    refine lv_bipush (v := 7) hx hb dX3_readNumber_168 (by decide) ?_
    refine lv_icmp_gt (tgt := 189) hx hb dX3_readNumber_170 (by decide) (fun c_26 => ?_) (fun c_26 => ?_)
    ·
      replace hF := ip c_26 hF
      refine lv_aload_n hx hb dX3_readNumber_189 rfl (lv_at hl 0 rfl) ?_
      refine lv_iload_n hx hb dX3_readNumber_190 rfl (lv_at hl 3 rfl) ?_
      replace hF := bd2_s hF
      obtain ⟨r_27, w_28, hc_29, hF⟩ := hF
      obtain ⟨hPc, hDc, hFc⟩ := wcut (wc := (w_X3_failAt E a_ a_tape a_rules a_places a_steps c_siteCount c_stepCount c_seenRules c_at c_wordStart k0 c_failed)) hP hD hS hA [0] (by decide) rfl
      have hrc := va_recv hK hPc (ci := 4) (q0 := 0) rfl rfl
      refine cE_z (wc := (w_X3_failAt E a_ a_tape a_rules a_places a_steps c_siteCount c_stepCount c_seenRules c_at c_wordStart k0 c_failed)) (wr := [(a_tape, .inr (7, [.ref a_tape_bytes, .int c_tape_length])), (a_tape_bytes, .inl (E.2.2.1, 320, .inl c_tape_bytes))]) (w1 := (w_X3_failAt E a_ a_tape a_rules a_places a_steps c_siteCount c_stepCount c_seenRules c_at c_wordStart k0 w_28)) (va_runV (As := [.int x3]) (rest := [])  ⟨hx, hb, hml, hown, hts⟩ (f_X3_failAt l E H.size (a_ := a_) (a_tape := a_tape) (a_rules := a_rules) (a_places := a_places) (a_steps := a_steps) (p1 := x3) (c_siteCount := c_siteCount) (c_stepCount := c_stepCount) (c_seenRules := c_seenRules) (c_at := c_at) (c_wordStart := c_wordStart) (c_number := k0) (c_failed := c_failed) hc_29) (cwV 1 hts g_f_X3_readNumber_f_X3_failAt_87 rfl rfl rfl hd_X3_failAt ⟨Nat.le_of_ble_eq_true rfl, Nat.le_of_ble_eq_true rfl⟩) ⟨pW.blind, hrc, (pW.pre ⟨hK, hN⟩ hPc hDc)⟩ rfl rfl hl.1 rfl (lv_room (Nat.le_of_ble_eq_true rfl)) dX3_readNumber_191 ⟨Nat.le_of_ble_eq_true rfl, Nat.le_of_ble_eq_true rfl⟩) hS hFc hP hD [0] [1, 2] rfl rfl (by decide) (by decide) (fun hb_30 H locs hP hD hS => ?_)
      replace hP : va_P E.1 vwCl [(a_tape, .inr (7, [.ref a_tape_bytes, .int c_tape_length])), (a_tape_bytes, .inl (E.2.2.1, 320, .inl c_tape_bytes)), (a_, .inr (4, [.ref a_tape, .ref a_rules, .ref a_places, .ref a_steps, .int c_siteCount, .int c_stepCount, .int c_seenRules, .int c_at, .int c_wordStart, .int k0, .int w_28]))] H := hP
      replace hD : va_D A [(a_tape, .inr (7, [.ref a_tape_bytes, .int c_tape_length])), (a_tape_bytes, .inl (E.2.2.1, 320, .inl c_tape_bytes)), (a_, .inr (4, [.ref a_tape, .ref a_rules, .ref a_places, .ref a_steps, .int c_siteCount, .int c_stepCount, .int c_seenRules, .int c_at, .int c_wordStart, .int k0, .int w_28]))] := hD
      rw [hQ]
      have h9 := fin9 (P := fun u9 : Int32 × Int32 × Int32 × Int32 => r_27 = u9.1 ∧ va_P E.1 vwCl (w_X3_readNumber E a_ a_tape a_rules a_places a_steps a_tape_bytes c_siteCount c_stepCount c_seenRules u9.2.1 c_wordStart u9.2.2.1 u9.2.2.2 c_tape_length c_tape_bytes) H ∧ va_D A (w_X3_readNumber E a_ a_tape a_rules a_places a_steps a_tape_bytes c_siteCount c_stepCount c_seenRules u9.2.1 c_wordStart u9.2.2.1 u9.2.2.2 c_tape_length c_tape_bytes)) hF ⟨rfl, hP.sub [2, 0, 1] rfl, hD.sub [2, 0, 1] (by decide) rfl⟩
      obtain ⟨e9_0, hP9, hD9⟩ := h9
      exact W.zret (v := r_27) hx hb hr (nar_bool hb_30) (fun tt ht hW => ⟨⟨_, (), rfl, ⟨e9_0, hb_30⟩, ht ▸ hP9, hD9⟩, hS.F ht⟩) hS.2.2 dX3_readNumber_194
    ·
      replace hF := inn c_26 hF
      refine lv_aload_n hx hb dX3_readNumber_173 rfl (lv_at hl 0 rfl) ?_
      refine gt_X3_9 (v := .int k0) hx hb hts i_f_X3_readNumber_X3 hown hK hP 0 rfl (hts (.fieldLink RX3 37 "HushWatch$Reader" "number" "I") (List.mem_of_getElem? (i := 3) rfl)) rfl dX3_readNumber_174 ?_
      refine lv_iload_n hx hb dX3_readNumber_177 rfl (lv_at hl 1 rfl) ?_
      refine lv_icmp_lt (tgt := 189) hx hb dX3_readNumber_178 (by decide) (fun c_31 => ?_) (fun c_31 => ?_)
      ·
        replace hF := ip c_31 hF
        refine lv_aload_n hx hb dX3_readNumber_189 rfl (lv_at hl 0 rfl) ?_
        refine lv_iload_n hx hb dX3_readNumber_190 rfl (lv_at hl 3 rfl) ?_
        replace hF := bd2_s hF
        obtain ⟨r_32, w_33, hc_34, hF⟩ := hF
        obtain ⟨hPc, hDc, hFc⟩ := wcut (wc := (w_X3_failAt E a_ a_tape a_rules a_places a_steps c_siteCount c_stepCount c_seenRules c_at c_wordStart k0 c_failed)) hP hD hS hA [0] (by decide) rfl
        have hrc := va_recv hK hPc (ci := 4) (q0 := 0) rfl rfl
        refine cE_z (wc := (w_X3_failAt E a_ a_tape a_rules a_places a_steps c_siteCount c_stepCount c_seenRules c_at c_wordStart k0 c_failed)) (wr := [(a_tape, .inr (7, [.ref a_tape_bytes, .int c_tape_length])), (a_tape_bytes, .inl (E.2.2.1, 320, .inl c_tape_bytes))]) (w1 := (w_X3_failAt E a_ a_tape a_rules a_places a_steps c_siteCount c_stepCount c_seenRules c_at c_wordStart k0 w_33)) (va_runV (As := [.int x3]) (rest := [])  ⟨hx, hb, hml, hown, hts⟩ (f_X3_failAt l E H.size (a_ := a_) (a_tape := a_tape) (a_rules := a_rules) (a_places := a_places) (a_steps := a_steps) (p1 := x3) (c_siteCount := c_siteCount) (c_stepCount := c_stepCount) (c_seenRules := c_seenRules) (c_at := c_at) (c_wordStart := c_wordStart) (c_number := k0) (c_failed := c_failed) hc_34) (cwV 1 hts g_f_X3_readNumber_f_X3_failAt_87 rfl rfl rfl hd_X3_failAt ⟨Nat.le_of_ble_eq_true rfl, Nat.le_of_ble_eq_true rfl⟩) ⟨pW.blind, hrc, (pW.pre ⟨hK, hN⟩ hPc hDc)⟩ rfl rfl hl.1 rfl (lv_room (Nat.le_of_ble_eq_true rfl)) dX3_readNumber_191 ⟨Nat.le_of_ble_eq_true rfl, Nat.le_of_ble_eq_true rfl⟩) hS hFc hP hD [0] [1, 2] rfl rfl (by decide) (by decide) (fun hb_35 H locs hP hD hS => ?_)
        replace hP : va_P E.1 vwCl [(a_tape, .inr (7, [.ref a_tape_bytes, .int c_tape_length])), (a_tape_bytes, .inl (E.2.2.1, 320, .inl c_tape_bytes)), (a_, .inr (4, [.ref a_tape, .ref a_rules, .ref a_places, .ref a_steps, .int c_siteCount, .int c_stepCount, .int c_seenRules, .int c_at, .int c_wordStart, .int k0, .int w_33]))] H := hP
        replace hD : va_D A [(a_tape, .inr (7, [.ref a_tape_bytes, .int c_tape_length])), (a_tape_bytes, .inl (E.2.2.1, 320, .inl c_tape_bytes)), (a_, .inr (4, [.ref a_tape, .ref a_rules, .ref a_places, .ref a_steps, .int c_siteCount, .int c_stepCount, .int c_seenRules, .int c_at, .int c_wordStart, .int k0, .int w_33]))] := hD
        rw [hQ]
        have h9 := fin9 (P := fun u9 : Int32 × Int32 × Int32 × Int32 => r_32 = u9.1 ∧ va_P E.1 vwCl (w_X3_readNumber E a_ a_tape a_rules a_places a_steps a_tape_bytes c_siteCount c_stepCount c_seenRules u9.2.1 c_wordStart u9.2.2.1 u9.2.2.2 c_tape_length c_tape_bytes) H ∧ va_D A (w_X3_readNumber E a_ a_tape a_rules a_places a_steps a_tape_bytes c_siteCount c_stepCount c_seenRules u9.2.1 c_wordStart u9.2.2.1 u9.2.2.2 c_tape_length c_tape_bytes)) hF ⟨rfl, hP.sub [2, 0, 1] rfl, hD.sub [2, 0, 1] (by decide) rfl⟩
        obtain ⟨e9_0, hP9, hD9⟩ := h9
        exact W.zret (v := r_32) hx hb hr (nar_bool hb_35) (fun tt ht hW => ⟨⟨_, (), rfl, ⟨e9_0, hb_35⟩, ht ▸ hP9, hD9⟩, hS.F ht⟩) hS.2.2 dX3_readNumber_194
      ·
        replace hF := inn c_31 hF
        refine lv_aload_n hx hb dX3_readNumber_181 rfl (lv_at hl 0 rfl) ?_
        refine gt_X3_9 (v := .int k0) hx hb hts i_f_X3_readNumber_X3 hown hK hP 0 rfl (hts (.fieldLink RX3 37 "HushWatch$Reader" "number" "I") (List.mem_of_getElem? (i := 3) rfl)) rfl dX3_readNumber_182 ?_
        refine lv_iload_n hx hb dX3_readNumber_185 rfl (lv_at hl 2 rfl) ?_
        refine lv_icmp_le (tgt := 195) hx hb dX3_readNumber_186 (by decide) (fun c_36 => ?_) (fun c_36 => ?_)
        ·
          replace hF := ip c_36 hF
          refine lv_iconst (v := 1) hx hb dX3_readNumber_195 (by decide) ?_
          rw [hQ]
          have h9 := fin9 (P := fun u9 : Int32 × Int32 × Int32 × Int32 => (1 : Int32) = u9.1 ∧ va_P E.1 vwCl (w_X3_readNumber E a_ a_tape a_rules a_places a_steps a_tape_bytes c_siteCount c_stepCount c_seenRules u9.2.1 c_wordStart u9.2.2.1 u9.2.2.2 c_tape_length c_tape_bytes) H ∧ va_D A (w_X3_readNumber E a_ a_tape a_rules a_places a_steps a_tape_bytes c_siteCount c_stepCount c_seenRules u9.2.1 c_wordStart u9.2.2.1 u9.2.2.2 c_tape_length c_tape_bytes)) hF ⟨rfl, hP, hD⟩
          obtain ⟨e9_0, hP9, hD9⟩ := h9
          exact W.zret (v := (1 : Int32)) hx hb hr rfl (fun tt ht hW => ⟨⟨_, (), rfl, ⟨e9_0, Or.inr rfl⟩, ht ▸ hP9, hD9⟩, hS.F ht⟩) hS.2.2 dX3_readNumber_196
        ·
          replace hF := inn c_36 hF
          refine lv_aload_n hx hb dX3_readNumber_189 rfl (lv_at hl 0 rfl) ?_
          refine lv_iload_n hx hb dX3_readNumber_190 rfl (lv_at hl 3 rfl) ?_
          replace hF := bd2_s hF
          obtain ⟨r_37, w_38, hc_39, hF⟩ := hF
          obtain ⟨hPc, hDc, hFc⟩ := wcut (wc := (w_X3_failAt E a_ a_tape a_rules a_places a_steps c_siteCount c_stepCount c_seenRules c_at c_wordStart k0 c_failed)) hP hD hS hA [0] (by decide) rfl
          have hrc := va_recv hK hPc (ci := 4) (q0 := 0) rfl rfl
          refine cE_z (wc := (w_X3_failAt E a_ a_tape a_rules a_places a_steps c_siteCount c_stepCount c_seenRules c_at c_wordStart k0 c_failed)) (wr := [(a_tape, .inr (7, [.ref a_tape_bytes, .int c_tape_length])), (a_tape_bytes, .inl (E.2.2.1, 320, .inl c_tape_bytes))]) (w1 := (w_X3_failAt E a_ a_tape a_rules a_places a_steps c_siteCount c_stepCount c_seenRules c_at c_wordStart k0 w_38)) (va_runV (As := [.int x3]) (rest := [])  ⟨hx, hb, hml, hown, hts⟩ (f_X3_failAt l E H.size (a_ := a_) (a_tape := a_tape) (a_rules := a_rules) (a_places := a_places) (a_steps := a_steps) (p1 := x3) (c_siteCount := c_siteCount) (c_stepCount := c_stepCount) (c_seenRules := c_seenRules) (c_at := c_at) (c_wordStart := c_wordStart) (c_number := k0) (c_failed := c_failed) hc_39) (cwV 1 hts g_f_X3_readNumber_f_X3_failAt_87 rfl rfl rfl hd_X3_failAt ⟨Nat.le_of_ble_eq_true rfl, Nat.le_of_ble_eq_true rfl⟩) ⟨pW.blind, hrc, (pW.pre ⟨hK, hN⟩ hPc hDc)⟩ rfl rfl hl.1 rfl (lv_room (Nat.le_of_ble_eq_true rfl)) dX3_readNumber_191 ⟨Nat.le_of_ble_eq_true rfl, Nat.le_of_ble_eq_true rfl⟩) hS hFc hP hD [0] [1, 2] rfl rfl (by decide) (by decide) (fun hb_40 H locs hP hD hS => ?_)
          replace hP : va_P E.1 vwCl [(a_tape, .inr (7, [.ref a_tape_bytes, .int c_tape_length])), (a_tape_bytes, .inl (E.2.2.1, 320, .inl c_tape_bytes)), (a_, .inr (4, [.ref a_tape, .ref a_rules, .ref a_places, .ref a_steps, .int c_siteCount, .int c_stepCount, .int c_seenRules, .int c_at, .int c_wordStart, .int k0, .int w_38]))] H := hP
          replace hD : va_D A [(a_tape, .inr (7, [.ref a_tape_bytes, .int c_tape_length])), (a_tape_bytes, .inl (E.2.2.1, 320, .inl c_tape_bytes)), (a_, .inr (4, [.ref a_tape, .ref a_rules, .ref a_places, .ref a_steps, .int c_siteCount, .int c_stepCount, .int c_seenRules, .int c_at, .int c_wordStart, .int k0, .int w_38]))] := hD
          rw [hQ]
          have h9 := fin9 (P := fun u9 : Int32 × Int32 × Int32 × Int32 => r_37 = u9.1 ∧ va_P E.1 vwCl (w_X3_readNumber E a_ a_tape a_rules a_places a_steps a_tape_bytes c_siteCount c_stepCount c_seenRules u9.2.1 c_wordStart u9.2.2.1 u9.2.2.2 c_tape_length c_tape_bytes) H ∧ va_D A (w_X3_readNumber E a_ a_tape a_rules a_places a_steps a_tape_bytes c_siteCount c_stepCount c_seenRules u9.2.1 c_wordStart u9.2.2.1 u9.2.2.2 c_tape_length c_tape_bytes)) hF ⟨rfl, hP.sub [2, 0, 1] rfl, hD.sub [2, 0, 1] (by decide) rfl⟩
          obtain ⟨e9_0, hP9, hD9⟩ := h9
          exact W.zret (v := r_37) hx hb hr (nar_bool hb_40) (fun tt ht hW => ⟨⟨_, (), rfl, ⟨e9_0, hb_40⟩, ht ▸ hP9, hD9⟩, hS.F ht⟩) hS.2.2 dX3_readNumber_194

set_option maxHeartbeats 4000000 in
set_option maxRecDepth 100000 in
theorem j_X3_readNumber_134 {p : Program} (l : Launch) {e : Env} {s : State} {m : MethodId} {below : List Frame} {meth : Method} {c : Code} {Q : State → Prop} (E : EE) (K : Nat) {a_ a_tape a_rules a_places a_steps a_tape_bytes : Nat} {p1 : Int32} {p2 : Int32} {c_siteCount : Int32} {c_stepCount : Int32} {c_seenRules : Int32} {c_wordStart : Int32} {c_tape_length : Int32} {c_tape_bytes : Nat → Int32} {x3 : Int32} {x4 : Int32} {x5 : Int32} {x6 : Int32} {c_at : Int32} {c_number : Int32} {c_failed : Int32} (hx : p.tables.exec = Jvm.exec) (hb : c.code = cX3_readNumber) (hml : c.maxLocals = 8) (hown : s.vm.findClass RX3 = some m.cls) (hts : ∀ w ∈ v_f_X3_readNumber, w.before #[Value.ref a_, Value.int p1, Value.int p2] s = true) (hK : va_K E.1 vwCl (TY E) s) (hN : NX s) {A : Nat → Prop} (hA : ∀ q : Nat, s.heap.size ≤ q → A q) {rr : Int32} {n_at : Int32} {n_number : Int32} {n_failed : Int32} (hr : meth.sig.returnType = (some .boolean)) (hlocks : meth.locks = false) (hQ : Q = MQ below (va_Qi (fun (q : Int32) (_u : Unit) => q = rr ∧ (q = 0 ∨ q = 1)) (fun (_u : Unit) tt => va_P E.1 vwCl (w_X3_readNumber E a_ a_tape a_rules a_places a_steps a_tape_bytes c_siteCount c_stepCount c_seenRules n_at c_wordStart n_number n_failed c_tape_length c_tape_bytes) tt.heap ∧ va_D A (w_X3_readNumber E a_ a_tape a_rules a_places a_steps a_tape_bytes c_siteCount c_stepCount c_seenRules n_at c_wordStart n_number n_failed c_tape_length c_tape_bytes)) A) #[Value.ref a_, Value.int p1, Value.int p2] s 0 0 A) (hF : J_X3_readNumber_134 p1 p2 x3 x4 x5 x6 c_at c_failed = some (rr, n_at, n_number, n_failed)) : ∀ (H : Heap) (locs : List Loc) (ls : Array Slot), va_P E.1 vwCl (w_X3_readNumber E a_ a_tape a_rules a_places a_steps a_tape_bytes c_siteCount c_stepCount c_seenRules c_at c_wordStart c_number c_failed c_tape_length c_tape_bytes) H → va_D A (w_X3_readNumber E a_ a_tape a_rules a_places a_steps a_tape_bytes c_siteCount c_stepCount c_seenRules c_at c_wordStart c_number c_failed c_tape_length c_tape_bytes) → va_S A s.heap H locs → lv_has ls 8 [(0, .ref a_), (1, .int p1), (2, .int p2), (3, .int x3), (4, .int x4), (5, .int x5), (6, .int x6)] → W p l e ({ frames := 2, cells := 0, slots := 0, locals := 41 } : Room) s m #[Value.ref a_, Value.int p1, Value.int p2] below meth c H locs 0 0 Q (F0 m 134 ls []) := by
  unfold J_X3_readNumber_134 at hF
  intro H locs ls hP hD hS hl
  replace hP : va_P E.1 vwCl [(a_, .inr (4, [.ref a_tape, .ref a_rules, .ref a_places, .ref a_steps, .int c_siteCount, .int c_stepCount, .int c_seenRules, .int c_at, .int c_wordStart, .int c_number, .int c_failed])), (a_tape, .inr (7, [.ref a_tape_bytes, .int c_tape_length])), (a_tape_bytes, .inl (E.2.2.1, 320, .inl c_tape_bytes))] H := hP
  replace hD : va_D A [(a_, .inr (4, [.ref a_tape, .ref a_rules, .ref a_places, .ref a_steps, .int c_siteCount, .int c_stepCount, .int c_seenRules, .int c_at, .int c_wordStart, .int c_number, .int c_failed])), (a_tape, .inr (7, [.ref a_tape_bytes, .int c_tape_length])), (a_tape_bytes, .inl (E.2.2.1, 320, .inl c_tape_bytes))] := hD
  refine lv_aload_n hx hb dX3_readNumber_134 rfl (lv_at hl 0 rfl) ?_
  refine gt_X3_7 (v := .int c_at) hx hb hts i_f_X3_readNumber_X3 hown hK hP 0 rfl (hts (.fieldLink RX3 31 "HushWatch$Reader" "at" "I") (List.mem_of_getElem? (i := 1) rfl)) rfl dX3_readNumber_135 ?_
  refine lv_iload hx hb dX3_readNumber_138 (lv_at hl 5 rfl) ?_
  refine lv_isub hx hb dX3_readNumber_140 ?_
  refine lv_istore (lv' := [(7, .int (c_at - x5)), (0, .ref a_), (1, .int p1), (2, .int p2), (3, .int x3), (4, .int x4), (5, .int x5), (6, .int x6)]) hx hb dX3_readNumber_141 hl (by decide) rfl (fun ls hl => ?_)
  refine lv_aload_n hx hb dX3_readNumber_143 rfl (lv_at hl 1 rfl) ?_
  refine lv_iload hx hb dX3_readNumber_144 (lv_at hl 5 rfl) ?_
  refine lv_if_eq (tgt := 155) hx hb dX3_readNumber_146 (by decide) (fun c_20 => ?_) (fun c_20 => ?_)
  ·
    replace hF := ip c_20 hF
    refine lv_iload hx hb dX3_readNumber_155 (lv_at hl 7 rfl) ?_
    exact j_X3_readNumber_157 l E K (p1 := p1) (p2 := p2) (c_siteCount := c_siteCount) (c_stepCount := c_stepCount) (c_seenRules := c_seenRules) (c_wordStart := c_wordStart) (c_tape_length := c_tape_length) (c_tape_bytes := c_tape_bytes) (k0 := x6) (x3 := x3) (x7 := c_at - x5) (c_at := c_at) (c_number := c_number) (c_failed := c_failed) hx hb hml hown hts hK hN hA hr hlocks hQ hF H locs ls (hP.sub [0, 1, 2] rfl) (hD.sub [0, 1, 2] (by decide) rfl) hS (lv_sub hl [1, 2, 3, 4, 0] rfl)
  ·
    replace hF := inn c_20 hF
    refine lv_iload hx hb dX3_readNumber_149 (lv_at hl 7 rfl) ?_
    refine lv_ineg hx hb dX3_readNumber_151 ?_
    refine lv_goto (tgt := 157) hx hb dX3_readNumber_152 (by decide) ?_
    exact j_X3_readNumber_157 l E K (p1 := p1) (p2 := p2) (c_siteCount := c_siteCount) (c_stepCount := c_stepCount) (c_seenRules := c_seenRules) (c_wordStart := c_wordStart) (c_tape_length := c_tape_length) (c_tape_bytes := c_tape_bytes) (k0 := -x6) (x3 := x3) (x7 := c_at - x5) (c_at := c_at) (c_number := c_number) (c_failed := c_failed) hx hb hml hown hts hK hN hA hr hlocks hQ hF H locs ls (hP.sub [0, 1, 2] rfl) (hD.sub [0, 1, 2] (by decide) rfl) hS (lv_sub hl [1, 2, 3, 4, 0] rfl)

set_option maxHeartbeats 4000000 in
set_option maxRecDepth 100000 in
theorem j_X3_readNumber_47 {p : Program} (l : Launch) {e : Env} {s : State} {m : MethodId} {below : List Frame} {meth : Method} {c : Code} {Q : State → Prop} (E : EE) (K : Nat) {a_ a_tape a_rules a_places a_steps a_tape_bytes : Nat} {p1 : Int32} {p2 : Int32} {c_siteCount : Int32} {c_stepCount : Int32} {c_seenRules : Int32} {c_wordStart : Int32} {c_tape_length : Int32} {c_tape_bytes : Nat → Int32} {x3 : Int32} {x4 : Int32} {c_at : Int32} {c_number : Int32} {c_failed : Int32} (hx : p.tables.exec = Jvm.exec) (hb : c.code = cX3_readNumber) (hml : c.maxLocals = 8) (hown : s.vm.findClass RX3 = some m.cls) (hts : ∀ w ∈ v_f_X3_readNumber, w.before #[Value.ref a_, Value.int p1, Value.int p2] s = true) (hK : va_K E.1 vwCl (TY E) s) (hN : NX s) {A : Nat → Prop} (hA : ∀ q : Nat, s.heap.size ≤ q → A q) {rr : Int32} {n_at : Int32} {n_number : Int32} {n_failed : Int32} (hr : meth.sig.returnType = (some .boolean)) (hlocks : meth.locks = false) (hQ : Q = MQ below (va_Qi (fun (q : Int32) (_u : Unit) => q = rr ∧ (q = 0 ∨ q = 1)) (fun (_u : Unit) tt => va_P E.1 vwCl (w_X3_readNumber E a_ a_tape a_rules a_places a_steps a_tape_bytes c_siteCount c_stepCount c_seenRules n_at c_wordStart n_number n_failed c_tape_length c_tape_bytes) tt.heap ∧ va_D A (w_X3_readNumber E a_ a_tape a_rules a_places a_steps a_tape_bytes c_siteCount c_stepCount c_seenRules n_at c_wordStart n_number n_failed c_tape_length c_tape_bytes)) A) #[Value.ref a_, Value.int p1, Value.int p2] s 0 0 A) (hF : J_X3_readNumber_47 K p1 p2 c_tape_length c_tape_bytes x3 x4 c_at c_failed = some (rr, n_at, n_number, n_failed)) : ∀ (H : Heap) (locs : List Loc) (ls : Array Slot), va_P E.1 vwCl (w_X3_readNumber E a_ a_tape a_rules a_places a_steps a_tape_bytes c_siteCount c_stepCount c_seenRules c_at c_wordStart c_number c_failed c_tape_length c_tape_bytes) H → va_D A (w_X3_readNumber E a_ a_tape a_rules a_places a_steps a_tape_bytes c_siteCount c_stepCount c_seenRules c_at c_wordStart c_number c_failed c_tape_length c_tape_bytes) → va_S A s.heap H locs → lv_has ls 8 [(0, .ref a_), (1, .int p1), (2, .int p2), (3, .int x3), (4, .int x4)] → W p l e ({ frames := 2, cells := 0, slots := 0, locals := 41 } : Room) s m #[Value.ref a_, Value.int p1, Value.int p2] below meth c H locs 0 0 Q (F0 m 47 ls []) := by
  unfold J_X3_readNumber_47 at hF
  intro H locs ls hP hD hS hl
  replace hP : va_P E.1 vwCl [(a_, .inr (4, [.ref a_tape, .ref a_rules, .ref a_places, .ref a_steps, .int c_siteCount, .int c_stepCount, .int c_seenRules, .int c_at, .int c_wordStart, .int c_number, .int c_failed])), (a_tape, .inr (7, [.ref a_tape_bytes, .int c_tape_length])), (a_tape_bytes, .inl (E.2.2.1, 320, .inl c_tape_bytes))] H := hP
  replace hD : va_D A [(a_, .inr (4, [.ref a_tape, .ref a_rules, .ref a_places, .ref a_steps, .int c_siteCount, .int c_stepCount, .int c_seenRules, .int c_at, .int c_wordStart, .int c_number, .int c_failed])), (a_tape, .inr (7, [.ref a_tape_bytes, .int c_tape_length])), (a_tape_bytes, .inl (E.2.2.1, 320, .inl c_tape_bytes))] := hD
  refine lv_aload_n hx hb dX3_readNumber_47 rfl (lv_at hl 0 rfl) ?_
  refine gt_X3_7 (v := .int c_at) hx hb hts i_f_X3_readNumber_X3 hown hK hP 0 rfl (hts (.fieldLink RX3 31 "HushWatch$Reader" "at" "I") (List.mem_of_getElem? (i := 1) rfl)) rfl dX3_readNumber_48 ?_
  refine lv_istore (lv' := [(5, .int c_at), (0, .ref a_), (1, .int p1), (2, .int p2), (3, .int x3), (4, .int x4)]) hx hb dX3_readNumber_51 hl (by decide) rfl (fun ls hl => ?_)
  refine lv_iconst (v := 0) hx hb dX3_readNumber_53 (by decide) ?_
  refine lv_istore (lv' := [(6, .int (0 : Int32)), (5, .int c_at), (0, .ref a_), (1, .int p1), (2, .int p2), (3, .int x3), (4, .int x4)]) hx hb dX3_readNumber_54 hl (by decide) rfl (fun ls hl => ?_)
  replace hF := bd2_s hF
  obtain ⟨x6_17, c_at_18, hL_19, hF⟩ := hF
  refine lw_X3_readNumber_56 l E K (p1 := p1) (p2 := p2) (c_siteCount := c_siteCount) (c_stepCount := c_stepCount) (c_seenRules := c_seenRules) (c_wordStart := c_wordStart) (c_tape_length := c_tape_length) (c_tape_bytes := c_tape_bytes) (x3 := x3) (x4 := x4) (x5 := c_at) (c_number := c_number) (c_failed := c_failed) hx hb hml hown hts hK hN hA K (0 : Int32) c_at x6_17 c_at_18 hL_19 ?_ H locs ls (hP.sub [0, 1, 2] rfl) (hD.sub [0, 1, 2] (by decide) rfl) hS (lv_sub hl [2, 3, 4, 5, 6, 1, 0] rfl)
  ·
    intro H locs ls hP hD hS hl
    replace hP : va_P E.1 vwCl [(a_, .inr (4, [.ref a_tape, .ref a_rules, .ref a_places, .ref a_steps, .int c_siteCount, .int c_stepCount, .int c_seenRules, .int c_at_18, .int c_wordStart, .int c_number, .int c_failed])), (a_tape, .inr (7, [.ref a_tape_bytes, .int c_tape_length])), (a_tape_bytes, .inl (E.2.2.1, 320, .inl c_tape_bytes))] H := hP
    replace hD : va_D A [(a_, .inr (4, [.ref a_tape, .ref a_rules, .ref a_places, .ref a_steps, .int c_siteCount, .int c_stepCount, .int c_seenRules, .int c_at_18, .int c_wordStart, .int c_number, .int c_failed])), (a_tape, .inr (7, [.ref a_tape_bytes, .int c_tape_length])), (a_tape_bytes, .inl (E.2.2.1, 320, .inl c_tape_bytes))] := hD
    exact j_X3_readNumber_134 l E K (p1 := p1) (p2 := p2) (c_siteCount := c_siteCount) (c_stepCount := c_stepCount) (c_seenRules := c_seenRules) (c_wordStart := c_wordStart) (c_tape_length := c_tape_length) (c_tape_bytes := c_tape_bytes) (x3 := x3) (x4 := x4) (x5 := c_at) (x6 := x6_17) (c_at := c_at_18) (c_number := c_number) (c_failed := c_failed) hx hb hml hown hts hK hN hA hr hlocks hQ hF H locs ls (hP.sub [0, 1, 2] rfl) (hD.sub [0, 1, 2] (by decide) rfl) hS (lv_sub hl [0, 1, 2, 3, 4, 5, 6] rfl)

set_option maxHeartbeats 4000000 in
set_option maxRecDepth 100000 in
theorem j_X3_readNumber_30 {p : Program} (l : Launch) {e : Env} {s : State} {m : MethodId} {below : List Frame} {meth : Method} {c : Code} {Q : State → Prop} (E : EE) (K : Nat) {a_ a_tape a_rules a_places a_steps a_tape_bytes : Nat} {p1 : Int32} {p2 : Int32} {c_siteCount : Int32} {c_stepCount : Int32} {c_seenRules : Int32} {c_wordStart : Int32} {c_tape_length : Int32} {c_tape_bytes : Nat → Int32} {k0 : Int32} {x3 : Int32} {c_at : Int32} {c_number : Int32} {c_failed : Int32} (hx : p.tables.exec = Jvm.exec) (hb : c.code = cX3_readNumber) (hml : c.maxLocals = 8) (hown : s.vm.findClass RX3 = some m.cls) (hts : ∀ w ∈ v_f_X3_readNumber, w.before #[Value.ref a_, Value.int p1, Value.int p2] s = true) (hK : va_K E.1 vwCl (TY E) s) (hN : NX s) {A : Nat → Prop} (hA : ∀ q : Nat, s.heap.size ≤ q → A q) {rr : Int32} {n_at : Int32} {n_number : Int32} {n_failed : Int32} (hr : meth.sig.returnType = (some .boolean)) (hlocks : meth.locks = false) (hQ : Q = MQ below (va_Qi (fun (q : Int32) (_u : Unit) => q = rr ∧ (q = 0 ∨ q = 1)) (fun (_u : Unit) tt => va_P E.1 vwCl (w_X3_readNumber E a_ a_tape a_rules a_places a_steps a_tape_bytes c_siteCount c_stepCount c_seenRules n_at c_wordStart n_number n_failed c_tape_length c_tape_bytes) tt.heap ∧ va_D A (w_X3_readNumber E a_ a_tape a_rules a_places a_steps a_tape_bytes c_siteCount c_stepCount c_seenRules n_at c_wordStart n_number n_failed c_tape_length c_tape_bytes)) A) #[Value.ref a_, Value.int p1, Value.int p2] s 0 0 A) (hF : J_X3_readNumber_30 K p1 p2 c_tape_length c_tape_bytes k0 x3 c_at c_failed = some (rr, n_at, n_number, n_failed)) : ∀ (H : Heap) (locs : List Loc) (ls : Array Slot), va_P E.1 vwCl (w_X3_readNumber E a_ a_tape a_rules a_places a_steps a_tape_bytes c_siteCount c_stepCount c_seenRules c_at c_wordStart c_number c_failed c_tape_length c_tape_bytes) H → va_D A (w_X3_readNumber E a_ a_tape a_rules a_places a_steps a_tape_bytes c_siteCount c_stepCount c_seenRules c_at c_wordStart c_number c_failed c_tape_length c_tape_bytes) → va_S A s.heap H locs → lv_has ls 8 [(0, .ref a_), (1, .int p1), (2, .int p2), (3, .int x3)] → W p l e ({ frames := 2, cells := 0, slots := 0, locals := 41 } : Room) s m #[Value.ref a_, Value.int p1, Value.int p2] below meth c H locs 0 0 Q (F0 m 30 ls [.int k0]) := by
  unfold J_X3_readNumber_30 at hF
  intro H locs ls hP hD hS hl
  replace hP : va_P E.1 vwCl [(a_, .inr (4, [.ref a_tape, .ref a_rules, .ref a_places, .ref a_steps, .int c_siteCount, .int c_stepCount, .int c_seenRules, .int c_at, .int c_wordStart, .int c_number, .int c_failed])), (a_tape, .inr (7, [.ref a_tape_bytes, .int c_tape_length])), (a_tape_bytes, .inl (E.2.2.1, 320, .inl c_tape_bytes))] H := hP
  replace hD : va_D A [(a_, .inr (4, [.ref a_tape, .ref a_rules, .ref a_places, .ref a_steps, .int c_siteCount, .int c_stepCount, .int c_seenRules, .int c_at, .int c_wordStart, .int c_number, .int c_failed])), (a_tape, .inr (7, [.ref a_tape_bytes, .int c_tape_length])), (a_tape_bytes, .inl (E.2.2.1, 320, .inl c_tape_bytes))] := hD
  refine lv_istore (lv' := [(4, .int k0), (0, .ref a_), (1, .int p1), (2, .int p2), (3, .int x3)]) hx hb dX3_readNumber_30 hl (by decide) rfl (fun ls hl => ?_)
  refine lv_iload hx hb dX3_readNumber_32 (lv_at hl 0 rfl) ?_
  refine lv_if_eq (tgt := 47) hx hb dX3_readNumber_34 (by decide) (fun c_6 => ?_) (fun c_6 => ?_)
  ·
    replace hF := ip c_6 hF
    exact j_X3_readNumber_47 l E K (p1 := p1) (p2 := p2) (c_siteCount := c_siteCount) (c_stepCount := c_stepCount) (c_seenRules := c_seenRules) (c_wordStart := c_wordStart) (c_tape_length := c_tape_length) (c_tape_bytes := c_tape_bytes) (x3 := x3) (x4 := k0) (c_at := c_at) (c_number := c_number) (c_failed := c_failed) hx hb hml hown hts hK hN hA hr hlocks hQ hF H locs ls (hP.sub [0, 1, 2] rfl) (hD.sub [0, 1, 2] (by decide) rfl) hS (lv_sub hl [1, 2, 3, 4, 0] rfl)
  ·
    replace hF := inn c_6 hF
    refine lv_aload_n hx hb dX3_readNumber_37 rfl (lv_at hl 1 rfl) ?_
    refine lv_dup hx hb dX3_readNumber_38 rfl ?_
    refine gt_X3_7 (v := .int c_at) hx hb hts i_f_X3_readNumber_X3 hown hK hP 0 rfl (hts (.fieldLink RX3 31 "HushWatch$Reader" "at" "I") (List.mem_of_getElem? (i := 1) rfl)) rfl dX3_readNumber_39 ?_
    refine lv_iconst (v := 1) hx hb dX3_readNumber_42 (by decide) ?_
    refine lv_iadd hx hb dX3_readNumber_43 ?_
    refine pt_X3_7 (v := .int (c_at + (1 : Int32))) hx hb hts i_f_X3_readNumber_X3 hown hK hP hD hS 0 rfl (hts (.fieldLink RX3 31 "HushWatch$Reader" "at" "I") (List.mem_of_getElem? (i := 1) rfl)) rfl rfl (Nat.le_of_ble_eq_true rfl) dX3_readNumber_44 (fun H locs hP hD hS => ?_)
    replace hP : va_P E.1 vwCl [(a_, .inr (4, [.ref a_tape, .ref a_rules, .ref a_places, .ref a_steps, .int c_siteCount, .int c_stepCount, .int c_seenRules, .int (c_at + (1 : Int32)), .int c_wordStart, .int c_number, .int c_failed])), (a_tape, .inr (7, [.ref a_tape_bytes, .int c_tape_length])), (a_tape_bytes, .inl (E.2.2.1, 320, .inl c_tape_bytes))] H := hP
    replace hD : va_D A [(a_, .inr (4, [.ref a_tape, .ref a_rules, .ref a_places, .ref a_steps, .int c_siteCount, .int c_stepCount, .int c_seenRules, .int (c_at + (1 : Int32)), .int c_wordStart, .int c_number, .int c_failed])), (a_tape, .inr (7, [.ref a_tape_bytes, .int c_tape_length])), (a_tape_bytes, .inl (E.2.2.1, 320, .inl c_tape_bytes))] := hD
    exact j_X3_readNumber_47 l E K (p1 := p1) (p2 := p2) (c_siteCount := c_siteCount) (c_stepCount := c_stepCount) (c_seenRules := c_seenRules) (c_wordStart := c_wordStart) (c_tape_length := c_tape_length) (c_tape_bytes := c_tape_bytes) (x3 := x3) (x4 := k0) (c_at := c_at + (1 : Int32)) (c_number := c_number) (c_failed := c_failed) hx hb hml hown hts hK hN hA hr hlocks hQ hF H locs ls (hP.sub [0, 1, 2] rfl) (hD.sub [0, 1, 2] (by decide) rfl) hS (lv_sub hl [1, 2, 3, 4, 0] rfl)

set_option maxHeartbeats 4000000 in
set_option maxRecDepth 100000 in
theorem f_X3_readNumber (l : Launch) (E : EE) (sz : Nat) (K : Nat) {a_ a_tape a_rules a_places a_steps a_tape_bytes : Nat} {p1 : Int32} {p2 : Int32} {c_siteCount : Int32} {c_stepCount : Int32} {c_seenRules : Int32} {c_at : Int32} {c_wordStart : Int32} {c_number : Int32} {c_failed : Int32} {c_tape_length : Int32} {c_tape_bytes : Nat → Int32} {rr : Int32} {n_at : Int32} {n_number : Int32} {n_failed : Int32} (hF : F_X3_readNumber K p1 p2 c_tape_bytes c_tape_length c_at c_number c_failed = some (rr, n_at, n_number, n_failed)) : Met l yX3_readNumber v_f_X3_readNumber (({ frames := 2, cells := 0, slots := 0, locals := 41 } : Room)) (va_Pc [.ref a_, .int p1, .int p2] (pW E sz (w_X3_readNumber E a_ a_tape a_rules a_places a_steps a_tape_bytes c_siteCount c_stepCount c_seenRules c_at c_wordStart c_number c_failed c_tape_length c_tape_bytes))) (va_Qi (fun (q : Int32) (_u : Unit) => q = rr ∧ (q = 0 ∨ q = 1)) (fun (_u : Unit) tt => va_P E.1 vwCl (w_X3_readNumber E a_ a_tape a_rules a_places a_steps a_tape_bytes c_siteCount c_stepCount c_seenRules n_at c_wordStart n_number n_failed c_tape_length c_tape_bytes) tt.heap ∧ va_D (va_A (w_X3_readNumber E a_ a_tape a_rules a_places a_steps a_tape_bytes c_siteCount c_stepCount c_seenRules c_at c_wordStart c_number c_failed c_tape_length c_tape_bytes) sz) (w_X3_readNumber E a_ a_tape a_rules a_places a_steps a_tape_bytes c_siteCount c_stepCount c_seenRules n_at c_wordStart n_number n_failed c_tape_length c_tape_bytes)) (va_A (w_X3_readNumber E a_ a_tape a_rules a_places a_steps a_tape_bytes c_siteCount c_stepCount c_seenRules c_at c_wordStart c_number c_failed c_tape_length c_tape_bytes) sz)) 0 0 (va_A (w_X3_readNumber E a_ a_tape a_rules a_places a_steps a_tape_bytes c_siteCount c_stepCount c_seenRules c_at c_wordStart c_number c_failed c_tape_length c_tape_bytes) sz) := by
  refine Met.ofW (cc := cX3_readNumber) (maxL := 8) (ret := (some .boolean)) (by decide) rfl ?_
  intro p e s m args below meth c s₁ B hml hv
  obtain ⟨rfl, hsz, ⟨hK, hN⟩, hP, hD0⟩ := hv
  have hx := B.exec
  have hb := B.bytes
  have hr := B.returns
  have hts := atoms_spec (ws := v_f_X3_readNumber) B.pre
  have hown : s.vm.findClass RX3 = some m.cls := own_of hd_X3_readNumber.1 (findClass_of_methodNamed B.named)
  have hlocks : meth.locks = false := B.notSynchronized
  subst hsz
  have hD := hD0.self (sz := s.heap.size)
  generalize hAe : va_A (w_X3_readNumber E a_ a_tape a_rules a_places a_steps a_tape_bytes c_siteCount c_stepCount c_seenRules c_at c_wordStart c_number c_failed c_tape_length c_tape_bytes) s.heap.size = A at hD ⊢
  have hA : ∀ q : Nat, s.heap.size ≤ q → A q := fun q h => by rw [← hAe]; exact Or.inr h
  have hS : va_S A s.heap s.heap [] := va_S.rf
  have hl := lv_entry ([.ref a_, .int p1, .int p2]) (n := 8) (Nat.le_of_ble_eq_true rfl)
  rw [lg_entry_eq]
  generalize (lg_sl ([.ref a_, .int p1, .int p2]) ++ List.replicate (8 - (lg_sl ([.ref a_, .int p1, .int p2])).length) Slot.unset).toArray = ls at hl ⊢
  have hl : lv_has ls 8 [(0, .ref a_), (1, .int p1), (2, .int p2)] := hl
  obtain ⟨Q, hQ⟩ : ∃ Q : State → Prop, Q = MQ below (va_Qi (fun (q : Int32) (_u : Unit) => q = rr ∧ (q = 0 ∨ q = 1)) (fun (_u : Unit) tt => va_P E.1 vwCl (w_X3_readNumber E a_ a_tape a_rules a_places a_steps a_tape_bytes c_siteCount c_stepCount c_seenRules n_at c_wordStart n_number n_failed c_tape_length c_tape_bytes) tt.heap ∧ va_D A (w_X3_readNumber E a_ a_tape a_rules a_places a_steps a_tape_bytes c_siteCount c_stepCount c_seenRules n_at c_wordStart n_number n_failed c_tape_length c_tape_bytes)) A) #[Value.ref a_, Value.int p1, Value.int p2] s 0 0 A := ⟨_, rfl⟩
  rw [← hQ]
  change W p l e ({ frames := 2, cells := 0, slots := 0, locals := 41 } : Room) s m #[Value.ref a_, Value.int p1, Value.int p2] below meth c s.heap [] 0 0 Q (F0 m 0 ls [])
  suffices hh9 : ∀ (H : Heap) (locs : List Loc), va_P E.1 vwCl (w_X3_readNumber E a_ a_tape a_rules a_places a_steps a_tape_bytes c_siteCount c_stepCount c_seenRules c_at c_wordStart c_number c_failed c_tape_length c_tape_bytes) H → va_D A (w_X3_readNumber E a_ a_tape a_rules a_places a_steps a_tape_bytes c_siteCount c_stepCount c_seenRules c_at c_wordStart c_number c_failed c_tape_length c_tape_bytes) → va_S A s.heap H locs → W p l e ({ frames := 2, cells := 0, slots := 0, locals := 41 } : Room) s m #[Value.ref a_, Value.int p1, Value.int p2] below meth c H locs 0 0 Q (F0 m 0 ls []) from hh9 s.heap [] hP hD hS
  clear hP hD hS
  intro H locs hP hD hS
  replace hP : va_P E.1 vwCl [(a_, .inr (4, [.ref a_tape, .ref a_rules, .ref a_places, .ref a_steps, .int c_siteCount, .int c_stepCount, .int c_seenRules, .int c_at, .int c_wordStart, .int c_number, .int c_failed])), (a_tape, .inr (7, [.ref a_tape_bytes, .int c_tape_length])), (a_tape_bytes, .inl (E.2.2.1, 320, .inl c_tape_bytes))] H := hP
  replace hD : va_D A [(a_, .inr (4, [.ref a_tape, .ref a_rules, .ref a_places, .ref a_steps, .int c_siteCount, .int c_stepCount, .int c_seenRules, .int c_at, .int c_wordStart, .int c_number, .int c_failed])), (a_tape, .inr (7, [.ref a_tape_bytes, .int c_tape_length])), (a_tape_bytes, .inl (E.2.2.1, 320, .inl c_tape_bytes))] := hD
  unfold F_X3_readNumber at hF
  refine lv_aload_n hx hb dX3_readNumber_0 rfl (lv_at hl 0 rfl) ?_
  replace hF := bd1_s hF
  obtain ⟨w_1, hc_2, hF⟩ := hF
  obtain ⟨hPc, hDc, hFc⟩ := wcut (wc := (w_X3_skipBlanks E a_ a_tape a_rules a_places a_steps a_tape_bytes c_siteCount c_stepCount c_seenRules c_at c_wordStart c_number c_failed c_tape_length c_tape_bytes)) hP hD hS hA [0, 1, 2] (by decide) rfl
  have hrc := va_recv hK hPc (ci := 4) (q0 := 0) rfl rfl
  refine cE_v (wc := (w_X3_skipBlanks E a_ a_tape a_rules a_places a_steps a_tape_bytes c_siteCount c_stepCount c_seenRules c_at c_wordStart c_number c_failed c_tape_length c_tape_bytes)) (wr := []) (w1 := (w_X3_skipBlanks E a_ a_tape a_rules a_places a_steps a_tape_bytes c_siteCount c_stepCount c_seenRules w_1 c_wordStart c_number c_failed c_tape_length c_tape_bytes)) (va_runV (As := []) (rest := [])  ⟨hx, hb, hml, hown, hts⟩ (f_X3_skipBlanks l E H.size K (a_ := a_) (a_tape := a_tape) (a_rules := a_rules) (a_places := a_places) (a_steps := a_steps) (a_tape_bytes := a_tape_bytes) (c_siteCount := c_siteCount) (c_stepCount := c_stepCount) (c_seenRules := c_seenRules) (c_at := c_at) (c_wordStart := c_wordStart) (c_number := c_number) (c_failed := c_failed) (c_tape_length := c_tape_length) (c_tape_bytes := c_tape_bytes) hc_2) (cwV 0 hts g_f_X3_readNumber_f_X3_skipBlanks_140 rfl rfl rfl hd_X3_skipBlanks ⟨Nat.le_of_ble_eq_true rfl, Nat.le_of_ble_eq_true rfl⟩) ⟨pW.blind, hrc, (pW.pre ⟨hK, hN⟩ hPc hDc)⟩ rfl rfl hl.1 rfl (lv_room (Nat.le_of_ble_eq_true rfl)) dX3_readNumber_1 ⟨Nat.le_of_ble_eq_true rfl, Nat.le_of_ble_eq_true rfl⟩) hS hFc hP hD [0, 1, 2] [] rfl rfl (by decide) (by decide) (fun H locs hP hD hS => ?_)
  replace hP : va_P E.1 vwCl [(a_, .inr (4, [.ref a_tape, .ref a_rules, .ref a_places, .ref a_steps, .int c_siteCount, .int c_stepCount, .int c_seenRules, .int w_1, .int c_wordStart, .int c_number, .int c_failed])), (a_tape, .inr (7, [.ref a_tape_bytes, .int c_tape_length])), (a_tape_bytes, .inl (E.2.2.1, 320, .inl c_tape_bytes))] H := hP
  replace hD : va_D A [(a_, .inr (4, [.ref a_tape, .ref a_rules, .ref a_places, .ref a_steps, .int c_siteCount, .int c_stepCount, .int c_seenRules, .int w_1, .int c_wordStart, .int c_number, .int c_failed])), (a_tape, .inr (7, [.ref a_tape_bytes, .int c_tape_length])), (a_tape_bytes, .inl (E.2.2.1, 320, .inl c_tape_bytes))] := hD
  refine lv_aload_n hx hb dX3_readNumber_4 rfl (lv_at hl 0 rfl) ?_
  refine gt_X3_7 (v := .int w_1) hx hb hts i_f_X3_readNumber_X3 hown hK hP 0 rfl (hts (.fieldLink RX3 31 "HushWatch$Reader" "at" "I") (List.mem_of_getElem? (i := 1) rfl)) rfl dX3_readNumber_5 ?_
  refine lv_istore_n (lv' := [(3, .int w_1), (0, .ref a_), (1, .int p1), (2, .int p2)]) hx hb dX3_readNumber_8 rfl hl (by decide) rfl (fun ls hl => ?_)
  refine lv_aload_n hx hb dX3_readNumber_9 rfl (lv_at hl 1 rfl) ?_
  refine gt_X3_0 (v := .ref a_tape) hx hb hts i_f_X3_readNumber_X3 hown hK hP 0 rfl (hts (.fieldLink RX3 43 "HushWatch$Reader" "tape" "LHushWatch$Tape;") (List.mem_of_getElem? (i := 2) rfl)) rfl dX3_readNumber_10 ?_
  refine lv_aload_n hx hb dX3_readNumber_13 rfl (lv_at hl 1 rfl) ?_
  refine gt_X3_7 (v := .int w_1) hx hb hts i_f_X3_readNumber_X3 hown hK hP 0 rfl (hts (.fieldLink RX3 31 "HushWatch$Reader" "at" "I") (List.mem_of_getElem? (i := 1) rfl)) rfl dX3_readNumber_14 ?_
  replace hF := bd1_s hF
  obtain ⟨r_3, hc_4, hF⟩ := hF
  have hPc : va_P E.1 vwCl (w_X6_signAt E a_tape a_tape_bytes c_tape_length c_tape_bytes) H := hP.sub (ws' := [(a_tape, .inr (7, [.ref a_tape_bytes, .int c_tape_length])), (a_tape_bytes, .inl (E.2.2.1, 320, .inl c_tape_bytes))]) [1, 2] rfl
  have hrc := va_recv hK hPc (ci := 7) (q0 := 0) rfl rfl
  refine pE_i (va_runV (As := [.int w_1]) (rest := [])  ⟨hx, hb, hml, hown, hts⟩ (f_X6_signAt l E (a_ := a_tape) (a_bytes := a_tape_bytes) (p1 := w_1) (c_length := c_tape_length) (c_bytes := c_tape_bytes) hc_4) (cwV 1 hts g_f_X3_readNumber_f_X6_signAt_143 rfl rfl rfl hd_X6_signAt ⟨Nat.le_of_ble_eq_true rfl, Nat.le_of_ble_eq_true rfl⟩) ⟨pP.blind, hrc, (pP.pre ⟨hK, hN⟩ hPc)⟩ rfl rfl hl.1 rfl (lv_room (Nat.le_of_ble_eq_true rfl)) dX3_readNumber_17 ⟨Nat.le_of_ble_eq_true rfl, Nat.le_of_ble_eq_true rfl⟩) ?_
  refine lv_bipush (v := 45) hx hb dX3_readNumber_20 (by decide) ?_
  refine lv_icmp_ne (tgt := 29) hx hb dX3_readNumber_22 (by decide) (fun c_5 => ?_) (fun c_5 => ?_)
  ·
    replace hF := inn c_5 hF
    refine lv_iconst (v := 0) hx hb dX3_readNumber_29 (by decide) ?_
    exact j_X3_readNumber_30 l E K (p1 := p1) (p2 := p2) (c_siteCount := c_siteCount) (c_stepCount := c_stepCount) (c_seenRules := c_seenRules) (c_wordStart := c_wordStart) (c_tape_length := c_tape_length) (c_tape_bytes := c_tape_bytes) (k0 := (0 : Int32)) (x3 := w_1) (c_at := w_1) (c_number := c_number) (c_failed := c_failed) hx hb hml hown hts hK hN hA hr hlocks hQ hF H locs ls (hP.sub [0, 1, 2] rfl) (hD.sub [0, 1, 2] (by decide) rfl) hS (lv_sub hl [1, 2, 3, 0] rfl)
  ·
    replace hF := ip c_5 hF
    refine lv_iconst (v := 1) hx hb dX3_readNumber_25 (by decide) ?_
    refine lv_goto (tgt := 30) hx hb dX3_readNumber_26 (by decide) ?_
    exact j_X3_readNumber_30 l E K (p1 := p1) (p2 := p2) (c_siteCount := c_siteCount) (c_stepCount := c_stepCount) (c_seenRules := c_seenRules) (c_wordStart := c_wordStart) (c_tape_length := c_tape_length) (c_tape_bytes := c_tape_bytes) (k0 := (1 : Int32)) (x3 := w_1) (c_at := w_1) (c_number := c_number) (c_failed := c_failed) hx hb hml hown hts hK hN hA hr hlocks hQ hF H locs ls (hP.sub [0, 1, 2] rfl) (hD.sub [0, 1, 2] (by decide) rfl) hS (lv_sub hl [1, 2, 3, 0] rfl)

def J_X3_readSite_41_r21 (K : Nat) (c_tape_length : Int32) (c_tape_bytes : Nat → Int32) (x1 : Int32) (c_places : Nat → Int32) (c_siteCount : Int32) (c_at : Int32) (c_number : Int32) (c_failed : Int32) : Option ((Int32 × (Nat → Int32) × Int32 × Int32 × Int32) ⊕ (Nat × (Nat → Int32) × Int32 × Int32 × Int32)) :=
  bd4 (F_X3_readNumber K (-999 : Int32) (999 : Int32) c_tape_bytes c_tape_length c_at c_number c_failed) (fun r_4 w_5 w_6 w_7 => if r_4 = (0 : Int32) then some (.inr (1, c_places, w_5, w_6, w_7)) else ixF (((2 : Int32) * c_siteCount) + x1) 16 (nmF (upd c_places (((2 : Int32) * c_siteCount) + x1).toNatClampNeg w_6) (fun f_12 => some (.inl (x1 + (1 : Int32), f_12, w_5, w_6, w_7)))))
def B_X3_readSite_20 (K : Nat) (c_tape_length : Int32) (c_tape_bytes : Nat → Int32) (c_siteCount : Int32) (x1 : Int32) (c_places : Nat → Int32) (c_at : Int32) (c_number : Int32) (c_failed : Int32) : Option ((Int32 × (Nat → Int32) × Int32 × Int32 × Int32) ⊕ (Nat × (Nat → Int32) × Int32 × Int32 × Int32)) :=
  if (2 : Int32) ≤ x1 then some (.inr (2, c_places, c_at, c_number, c_failed)) else if x1 = (1 : Int32) then bd3 (F_X3_readSign K (44 : Int32) c_tape_bytes c_tape_length c_at c_failed) (fun r_13 w_14 w_15 => if r_13 = (0 : Int32) then some (.inr (0, c_places, w_14, c_number, w_15)) else J_X3_readSite_41_r21 K c_tape_length c_tape_bytes x1 c_places c_siteCount w_14 c_number w_15) else J_X3_readSite_41_r21 K c_tape_length c_tape_bytes x1 c_places c_siteCount c_at c_number c_failed
def F_X3_readSite (K : Nat) (c_tape_bytes : Nat → Int32) (c_tape_length : Int32) (c_places : Nat → Int32) (c_siteCount : Int32) (c_at : Int32) (c_wordStart : Int32) (c_number : Int32) (c_failed : Int32) : Option (Int32 × (Nat → Int32) × Int32 × Int32 × Int32 × Int32) :=
  if c_siteCount < (8 : Int32) then bd5 (lpF (fun u9 : Int32 × (Nat → Int32) × Int32 × Int32 × Int32 => B_X3_readSite_20 K c_tape_length c_tape_bytes c_siteCount u9.1 u9.2.1 u9.2.2.1 u9.2.2.2.1 u9.2.2.2.2) K ((0 : Int32), c_places, c_at, c_number, c_failed)) (fun t_19 c_places_20 c_at_21 c_number_22 c_failed_23 => if t_19 = 0 then some ((0 : Int32), c_places_20, c_siteCount, c_at_21, c_number_22, c_failed_23) else if t_19 = 1 then some ((0 : Int32), c_places_20, c_siteCount, c_at_21, c_number_22, c_failed_23) else if t_19 = 2 then some ((1 : Int32), c_places_20, c_siteCount + (1 : Int32), c_at_21, c_number_22, c_failed_23) else none) else bd2 (F_X3_failAt c_wordStart c_failed) (fun r_25 w_26 => some (r_25, c_places, c_siteCount, c_at, c_number, w_26))
abbrev w_X3_readSite (E : EE) (a_ a_tape a_rules a_places a_steps a_tape_bytes : Nat) (c_siteCount : Int32) (c_stepCount : Int32) (c_seenRules : Int32) (c_at : Int32) (c_wordStart : Int32) (c_number : Int32) (c_failed : Int32) (c_tape_length : Int32) (c_tape_bytes : Nat → Int32) (c_places : Nat → Int32) : va_W := [(a_, .inr (4, [.ref a_tape, .ref a_rules, .ref a_places, .ref a_steps, .int c_siteCount, .int c_stepCount, .int c_seenRules, .int c_at, .int c_wordStart, .int c_number, .int c_failed])), (a_tape, .inr (7, [.ref a_tape_bytes, .int c_tape_length])), (a_tape_bytes, .inl (E.2.2.1, 320, .inl c_tape_bytes)), (a_places, .inl (E.2.1, 16, .inl c_places))]
def v_f_X3_readSite : List Cond := .code yX3_readSite cX3_readSite 2 (some .boolean) :: ([.fieldLink RX3 21 "HushWatch$Reader" "siteCount" "I", .fieldLink RX3 15 "HushWatch$Reader" "places" "[I", .fieldLink RX3 37 "HushWatch$Reader" "number" "I", .fieldLink RX3 34 "HushWatch$Reader" "wordStart" "I", .methodLink RX3 96 yX3_readNumber, .instanceMethod yX3_readNumber, .selects RX3 yX3_readNumber yX3_readNumber, .initialized RX3, .methodLink RX3 62 yX3_readSign, .instanceMethod yX3_readSign, .selects RX3 yX3_readSign yX3_readSign, .methodLink RX3 87 yX3_failAt, .instanceMethod yX3_failAt, .selects RX3 yX3_failAt yX3_failAt] ++ (wsX30 ++ (v_f_X3_readNumber ++ (v_f_X3_readSign ++ (v_f_X3_failAt ++ ([]))))))
theorem gw_f_X3_readSite : v_f_X3_readSite.all goodWord = true := by decide +kernel
theorem i_f_X3_readSite_X3 : ∀ w ∈ wsX30, w ∈ v_f_X3_readSite := fun _ h => List.mem_cons_of_mem _ (List.mem_append_right _ (List.mem_append_left _ h))
theorem g_f_X3_readSite_f_X3_readNumber_96 : GoodIn v_f_X3_readSite (wsV RX3 96 RX3 yX3_readNumber v_f_X3_readNumber) := goodIn_app (goodIn_of _ (by decide +kernel)) (goodIn_sub (fun _ h => List.mem_cons_of_mem _ (List.mem_append_right _ (List.mem_append_right _ (List.mem_append_left _ h)))) gw_f_X3_readNumber)
theorem g_f_X3_readSite_f_X3_readSign_62 : GoodIn v_f_X3_readSite (wsV RX3 62 RX3 yX3_readSign v_f_X3_readSign) := goodIn_app (goodIn_of _ (by decide +kernel)) (goodIn_sub (fun _ h => List.mem_cons_of_mem _ (List.mem_append_right _ (List.mem_append_right _ (List.mem_append_right _ (List.mem_append_left _ h))))) gw_f_X3_readSign)
theorem g_f_X3_readSite_f_X3_failAt_87 : GoodIn v_f_X3_readSite (wsV RX3 87 RX3 yX3_failAt v_f_X3_failAt) := goodIn_app (goodIn_of _ (by decide +kernel)) (goodIn_sub (fun _ h => List.mem_cons_of_mem _ (List.mem_append_right _ (List.mem_append_right _ (List.mem_append_right _ (List.mem_append_right _ (List.mem_append_left _ h)))))) gw_f_X3_failAt)
theorem hd_X3_readSite : yX3_readSite.cls = RX3 ∧ yX3_readSite.cls ≠ "java/lang/invoke/MethodHandle" ∧ yX3_readSite.cls ≠ "java/lang/invoke/VarHandle" ∧ (parseMethodDescriptor yX3_readSite.desc).map (fun d => d.parameters.length) = some 0 := by decide +kernel
set_option maxHeartbeats 4000000 in
set_option maxRecDepth 100000 in
theorem j_X3_readSite_41_r21 {p : Program} (l : Launch) {e : Env} {s : State} {m : MethodId} {below : List Frame} {meth : Method} {c : Code} {Q : State → Prop} (E : EE) (K : Nat) {a_ a_tape a_rules a_places a_steps a_tape_bytes : Nat} {c_stepCount : Int32} {c_seenRules : Int32} {c_wordStart : Int32} {c_tape_length : Int32} {c_tape_bytes : Nat → Int32} {x1 : Int32} {c_places : Nat → Int32} {c_siteCount : Int32} {c_at : Int32} {c_number : Int32} {c_failed : Int32} (hx : p.tables.exec = Jvm.exec) (hb : c.code = cX3_readSite) (hml : c.maxLocals = 2) (hown : s.vm.findClass RX3 = some m.cls) (hts : ∀ w ∈ v_f_X3_readSite, w.before #[Value.ref a_] s = true) (hK : va_K E.1 vwCl (TY E) s) (hN : NX s) {A : Nat → Prop} (hA : ∀ q : Nat, s.heap.size ≤ q → A q) {xx : (Int32 × (Nat → Int32) × Int32 × Int32 × Int32) ⊕ (Nat × (Nat → Int32) × Int32 × Int32 × Int32)} (hC : ∀ (x1 : Int32), ∀ (c_places : Nat → Int32), ∀ (c_at : Int32), ∀ (c_number : Int32), ∀ (c_failed : Int32), xx = .inl (x1, c_places, c_at, c_number, c_failed) → ∀ (H : Heap) (locs : List Loc) (ls : Array Slot), va_P E.1 vwCl (w_X3_readSite E a_ a_tape a_rules a_places a_steps a_tape_bytes c_siteCount c_stepCount c_seenRules c_at c_wordStart c_number c_failed c_tape_length c_tape_bytes c_places) H → va_D A (w_X3_readSite E a_ a_tape a_rules a_places a_steps a_tape_bytes c_siteCount c_stepCount c_seenRules c_at c_wordStart c_number c_failed c_tape_length c_tape_bytes c_places) → va_S A s.heap H locs → lv_has ls 2 [(0, .ref a_), (1, .int x1)] → W p l e ({ frames := 3, cells := 0, slots := 0, locals := 68 } : Room) s m #[Value.ref a_] below meth c H locs 0 0 Q (F0 m 20 ls [])) (hE : ∀ (t9 : Nat), ∀ (c_places : Nat → Int32), ∀ (c_at : Int32), ∀ (c_number : Int32), ∀ (c_failed : Int32), xx = .inr (t9, c_places, c_at, c_number, c_failed) → ((t9 = 0 → ∀ (H : Heap) (locs : List Loc) (ls : Array Slot), va_P E.1 vwCl (w_X3_readSite E a_ a_tape a_rules a_places a_steps a_tape_bytes c_siteCount c_stepCount c_seenRules c_at c_wordStart c_number c_failed c_tape_length c_tape_bytes c_places) H → va_D A (w_X3_readSite E a_ a_tape a_rules a_places a_steps a_tape_bytes c_siteCount c_stepCount c_seenRules c_at c_wordStart c_number c_failed c_tape_length c_tape_bytes c_places) → va_S A s.heap H locs → lv_has ls 2 [] → W p l e ({ frames := 3, cells := 0, slots := 0, locals := 68 } : Room) s m #[Value.ref a_] below meth c H locs 0 0 Q (F0 m 39 ls [])) ∧ (t9 = 1 → ∀ (H : Heap) (locs : List Loc) (ls : Array Slot), va_P E.1 vwCl (w_X3_readSite E a_ a_tape a_rules a_places a_steps a_tape_bytes c_siteCount c_stepCount c_seenRules c_at c_wordStart c_number c_failed c_tape_length c_tape_bytes c_places) H → va_D A (w_X3_readSite E a_ a_tape a_rules a_places a_steps a_tape_bytes c_siteCount c_stepCount c_seenRules c_at c_wordStart c_number c_failed c_tape_length c_tape_bytes c_places) → va_S A s.heap H locs → lv_has ls 2 [] → W p l e ({ frames := 3, cells := 0, slots := 0, locals := 68 } : Room) s m #[Value.ref a_] below meth c H locs 0 0 Q (F0 m 54 ls [])) ∧ (t9 = 2 → ∀ (H : Heap) (locs : List Loc) (ls : Array Slot), va_P E.1 vwCl (w_X3_readSite E a_ a_tape a_rules a_places a_steps a_tape_bytes c_siteCount c_stepCount c_seenRules c_at c_wordStart c_number c_failed c_tape_length c_tape_bytes c_places) H → va_D A (w_X3_readSite E a_ a_tape a_rules a_places a_steps a_tape_bytes c_siteCount c_stepCount c_seenRules c_at c_wordStart c_number c_failed c_tape_length c_tape_bytes c_places) → va_S A s.heap H locs → lv_has ls 2 [(0, .ref a_)] → W p l e ({ frames := 3, cells := 0, slots := 0, locals := 68 } : Room) s m #[Value.ref a_] below meth c H locs 0 0 Q (F0 m 79 ls [])))) (hF : J_X3_readSite_41_r21 K c_tape_length c_tape_bytes x1 c_places c_siteCount c_at c_number c_failed = some xx) : ∀ (H : Heap) (locs : List Loc) (ls : Array Slot), va_P E.1 vwCl (w_X3_readSite E a_ a_tape a_rules a_places a_steps a_tape_bytes c_siteCount c_stepCount c_seenRules c_at c_wordStart c_number c_failed c_tape_length c_tape_bytes c_places) H → va_D A (w_X3_readSite E a_ a_tape a_rules a_places a_steps a_tape_bytes c_siteCount c_stepCount c_seenRules c_at c_wordStart c_number c_failed c_tape_length c_tape_bytes c_places) → va_S A s.heap H locs → lv_has ls 2 [(0, .ref a_), (1, .int x1)] → W p l e ({ frames := 3, cells := 0, slots := 0, locals := 68 } : Room) s m #[Value.ref a_] below meth c H locs 0 0 Q (F0 m 41 ls []) := by
  unfold J_X3_readSite_41_r21 at hF
  intro H locs ls hP hD hS hl
  replace hP : va_P E.1 vwCl [(a_, .inr (4, [.ref a_tape, .ref a_rules, .ref a_places, .ref a_steps, .int c_siteCount, .int c_stepCount, .int c_seenRules, .int c_at, .int c_wordStart, .int c_number, .int c_failed])), (a_tape, .inr (7, [.ref a_tape_bytes, .int c_tape_length])), (a_tape_bytes, .inl (E.2.2.1, 320, .inl c_tape_bytes)), (a_places, .inl (E.2.1, 16, .inl c_places))] H := hP
  replace hD : va_D A [(a_, .inr (4, [.ref a_tape, .ref a_rules, .ref a_places, .ref a_steps, .int c_siteCount, .int c_stepCount, .int c_seenRules, .int c_at, .int c_wordStart, .int c_number, .int c_failed])), (a_tape, .inr (7, [.ref a_tape_bytes, .int c_tape_length])), (a_tape_bytes, .inl (E.2.2.1, 320, .inl c_tape_bytes)), (a_places, .inl (E.2.1, 16, .inl c_places))] := hD
  refine lv_aload_n hx hb dX3_readSite_41 rfl (lv_at hl 0 rfl) ?_
  refine lv_sipush (v := -999) hx hb dX3_readSite_42 (by decide) ?_
  refine lv_sipush (v := 999) hx hb dX3_readSite_45 (by decide) ?_
  replace hF := bd4_s hF
  obtain ⟨r_4, w_5, w_6, w_7, hc_8, hF⟩ := hF
  obtain ⟨hPc, hDc, hFc⟩ := wcut (wc := (w_X3_readNumber E a_ a_tape a_rules a_places a_steps a_tape_bytes c_siteCount c_stepCount c_seenRules c_at c_wordStart c_number c_failed c_tape_length c_tape_bytes)) hP hD hS hA [0, 1, 2] (by decide) rfl
  have hrc := va_recv hK hPc (ci := 4) (q0 := 0) rfl rfl
  refine cE_z (wc := (w_X3_readNumber E a_ a_tape a_rules a_places a_steps a_tape_bytes c_siteCount c_stepCount c_seenRules c_at c_wordStart c_number c_failed c_tape_length c_tape_bytes)) (wr := [(a_places, .inl (E.2.1, 16, .inl c_places))]) (w1 := (w_X3_readNumber E a_ a_tape a_rules a_places a_steps a_tape_bytes c_siteCount c_stepCount c_seenRules w_5 c_wordStart w_6 w_7 c_tape_length c_tape_bytes)) (va_runV (As := [.int (-999 : Int32), .int (999 : Int32)]) (rest := [])  ⟨hx, hb, hml, hown, hts⟩ (f_X3_readNumber l E H.size K (a_ := a_) (a_tape := a_tape) (a_rules := a_rules) (a_places := a_places) (a_steps := a_steps) (a_tape_bytes := a_tape_bytes) (p1 := (-999 : Int32)) (p2 := (999 : Int32)) (c_siteCount := c_siteCount) (c_stepCount := c_stepCount) (c_seenRules := c_seenRules) (c_at := c_at) (c_wordStart := c_wordStart) (c_number := c_number) (c_failed := c_failed) (c_tape_length := c_tape_length) (c_tape_bytes := c_tape_bytes) hc_8) (cwV 2 hts g_f_X3_readSite_f_X3_readNumber_96 rfl rfl rfl hd_X3_readNumber ⟨Nat.le_of_ble_eq_true rfl, Nat.le_of_ble_eq_true rfl⟩) ⟨pW.blind, hrc, (pW.pre ⟨hK, hN⟩ hPc hDc)⟩ rfl rfl hl.1 rfl (lv_room (Nat.le_of_ble_eq_true rfl)) dX3_readSite_48 ⟨Nat.le_of_ble_eq_true rfl, Nat.le_of_ble_eq_true rfl⟩) hS hFc hP hD [0, 1, 2] [3] rfl rfl (by decide) (by decide) (fun hb_9 H locs hP hD hS => ?_)
  replace hP : va_P E.1 vwCl [(a_places, .inl (E.2.1, 16, .inl c_places)), (a_, .inr (4, [.ref a_tape, .ref a_rules, .ref a_places, .ref a_steps, .int c_siteCount, .int c_stepCount, .int c_seenRules, .int w_5, .int c_wordStart, .int w_6, .int w_7])), (a_tape, .inr (7, [.ref a_tape_bytes, .int c_tape_length])), (a_tape_bytes, .inl (E.2.2.1, 320, .inl c_tape_bytes))] H := hP
  replace hD : va_D A [(a_places, .inl (E.2.1, 16, .inl c_places)), (a_, .inr (4, [.ref a_tape, .ref a_rules, .ref a_places, .ref a_steps, .int c_siteCount, .int c_stepCount, .int c_seenRules, .int w_5, .int c_wordStart, .int w_6, .int w_7])), (a_tape, .inr (7, [.ref a_tape_bytes, .int c_tape_length])), (a_tape_bytes, .inl (E.2.2.1, 320, .inl c_tape_bytes))] := hD
  refine lv_if_ne (tgt := 56) hx hb dX3_readSite_51 (by decide) (fun c_10 => ?_) (fun c_10 => ?_)
  ·
    replace hF := inn c_10 hF
    refine lv_aload_n hx hb dX3_readSite_56 rfl (lv_at hl 0 rfl) ?_
    refine gt_X3_2 (v := .ref a_places) hx hb hts i_f_X3_readSite_X3 hown hK hP 1 rfl (hts (.fieldLink RX3 15 "HushWatch$Reader" "places" "[I") (List.mem_of_getElem? (i := 2) rfl)) rfl dX3_readSite_57 ?_
    refine lv_iconst (v := 2) hx hb dX3_readSite_60 (by decide) ?_
    refine lv_aload_n hx hb dX3_readSite_61 rfl (lv_at hl 0 rfl) ?_
    refine gt_X3_4 (v := .int c_siteCount) hx hb hts i_f_X3_readSite_X3 hown hK hP 1 rfl (hts (.fieldLink RX3 21 "HushWatch$Reader" "siteCount" "I") (List.mem_of_getElem? (i := 1) rfl)) rfl dX3_readSite_62 ?_
    refine lv_imul hx hb dX3_readSite_65 ?_
    refine lv_iload_n hx hb dX3_readSite_66 rfl (lv_at hl 1 rfl) ?_
    refine lv_iadd hx hb dX3_readSite_67 ?_
    refine lv_aload_n hx hb dX3_readSite_68 rfl (lv_at hl 0 rfl) ?_
    refine gt_X3_9 (v := .int w_6) hx hb hts i_f_X3_readSite_X3 hown hK hP 1 rfl (hts (.fieldLink RX3 37 "HushWatch$Reader" "number" "I") (List.mem_of_getElem? (i := 3) rfl)) rfl dX3_readSite_69 ?_
    replace hF := ix_s hF
    obtain ⟨hi_11, hF⟩ := hF
    refine va_iast hx hb hK hP hD hS 0 0 rfl rfl hi_11 dX3_readSite_72 (fun H locs hP hD hS => ?_)
    replace hP : va_P E.1 vwCl [(a_places, .inl (E.2.1, 16, .inl (upd c_places (((2 : Int32) * c_siteCount) + x1).toNatClampNeg w_6))), (a_, .inr (4, [.ref a_tape, .ref a_rules, .ref a_places, .ref a_steps, .int c_siteCount, .int c_stepCount, .int c_seenRules, .int w_5, .int c_wordStart, .int w_6, .int w_7])), (a_tape, .inr (7, [.ref a_tape_bytes, .int c_tape_length])), (a_tape_bytes, .inl (E.2.2.1, 320, .inl c_tape_bytes))] H := hP
    replace hD : va_D A [(a_places, .inl (E.2.1, 16, .inl (upd c_places (((2 : Int32) * c_siteCount) + x1).toNatClampNeg w_6))), (a_, .inr (4, [.ref a_tape, .ref a_rules, .ref a_places, .ref a_steps, .int c_siteCount, .int c_stepCount, .int c_seenRules, .int w_5, .int c_wordStart, .int w_6, .int w_7])), (a_tape, .inr (7, [.ref a_tape_bytes, .int c_tape_length])), (a_tape_bytes, .inl (E.2.2.1, 320, .inl c_tape_bytes))] := hD
    replace hF := nm_s hF
    obtain ⟨f_12, hf_12, hF⟩ := hF
    rw [← hf_12] at hP hD
    refine lv_iinc (v := x1 + (1 : Int32)) (lv' := [(1, .int (x1 + (1 : Int32))), (0, .ref a_)]) hx hb dX3_readSite_73 hl (k := 1) rfl (rfl) (by decide) rfl (fun ls hl => ?_)
    refine lv_goto (tgt := 20) hx hb dX3_readSite_76 (by decide) ?_
    cases hF
    exact hC (x1 + (1 : Int32)) f_12 w_5 w_6 w_7 rfl H locs ls (hP.sub [1, 2, 3, 0] rfl) (hD.sub [1, 2, 3, 0] (by decide) rfl) hS (lv_sub hl [1, 0] rfl)
  ·
    replace hF := ip c_10 hF
    cases hF
    exact (hE 1 c_places w_5 w_6 w_7 rfl).2.1 rfl H locs ls (hP.sub [1, 2, 3, 0] rfl) (hD.sub [1, 2, 3, 0] (by decide) rfl) hS (lv_sub hl [] rfl)

set_option maxHeartbeats 4000000 in
set_option maxRecDepth 100000 in
theorem wb_X3_readSite_20 {p : Program} (l : Launch) {e : Env} {s : State} {m : MethodId} {below : List Frame} {meth : Method} {c : Code} {Q : State → Prop} (E : EE) (K : Nat) {a_ a_tape a_rules a_places a_steps a_tape_bytes : Nat} {c_stepCount : Int32} {c_seenRules : Int32} {c_wordStart : Int32} {c_tape_length : Int32} {c_tape_bytes : Nat → Int32} {x1 : Int32} {c_places : Nat → Int32} {c_siteCount : Int32} {c_at : Int32} {c_number : Int32} {c_failed : Int32} (hx : p.tables.exec = Jvm.exec) (hb : c.code = cX3_readSite) (hml : c.maxLocals = 2) (hown : s.vm.findClass RX3 = some m.cls) (hts : ∀ w ∈ v_f_X3_readSite, w.before #[Value.ref a_] s = true) (hK : va_K E.1 vwCl (TY E) s) (hN : NX s) {A : Nat → Prop} (hA : ∀ q : Nat, s.heap.size ≤ q → A q) {xx : (Int32 × (Nat → Int32) × Int32 × Int32 × Int32) ⊕ (Nat × (Nat → Int32) × Int32 × Int32 × Int32)} (hC : ∀ (x1 : Int32), ∀ (c_places : Nat → Int32), ∀ (c_at : Int32), ∀ (c_number : Int32), ∀ (c_failed : Int32), xx = .inl (x1, c_places, c_at, c_number, c_failed) → ∀ (H : Heap) (locs : List Loc) (ls : Array Slot), va_P E.1 vwCl (w_X3_readSite E a_ a_tape a_rules a_places a_steps a_tape_bytes c_siteCount c_stepCount c_seenRules c_at c_wordStart c_number c_failed c_tape_length c_tape_bytes c_places) H → va_D A (w_X3_readSite E a_ a_tape a_rules a_places a_steps a_tape_bytes c_siteCount c_stepCount c_seenRules c_at c_wordStart c_number c_failed c_tape_length c_tape_bytes c_places) → va_S A s.heap H locs → lv_has ls 2 [(0, .ref a_), (1, .int x1)] → W p l e ({ frames := 3, cells := 0, slots := 0, locals := 68 } : Room) s m #[Value.ref a_] below meth c H locs 0 0 Q (F0 m 20 ls [])) (hE : ∀ (t9 : Nat), ∀ (c_places : Nat → Int32), ∀ (c_at : Int32), ∀ (c_number : Int32), ∀ (c_failed : Int32), xx = .inr (t9, c_places, c_at, c_number, c_failed) → ((t9 = 0 → ∀ (H : Heap) (locs : List Loc) (ls : Array Slot), va_P E.1 vwCl (w_X3_readSite E a_ a_tape a_rules a_places a_steps a_tape_bytes c_siteCount c_stepCount c_seenRules c_at c_wordStart c_number c_failed c_tape_length c_tape_bytes c_places) H → va_D A (w_X3_readSite E a_ a_tape a_rules a_places a_steps a_tape_bytes c_siteCount c_stepCount c_seenRules c_at c_wordStart c_number c_failed c_tape_length c_tape_bytes c_places) → va_S A s.heap H locs → lv_has ls 2 [] → W p l e ({ frames := 3, cells := 0, slots := 0, locals := 68 } : Room) s m #[Value.ref a_] below meth c H locs 0 0 Q (F0 m 39 ls [])) ∧ (t9 = 1 → ∀ (H : Heap) (locs : List Loc) (ls : Array Slot), va_P E.1 vwCl (w_X3_readSite E a_ a_tape a_rules a_places a_steps a_tape_bytes c_siteCount c_stepCount c_seenRules c_at c_wordStart c_number c_failed c_tape_length c_tape_bytes c_places) H → va_D A (w_X3_readSite E a_ a_tape a_rules a_places a_steps a_tape_bytes c_siteCount c_stepCount c_seenRules c_at c_wordStart c_number c_failed c_tape_length c_tape_bytes c_places) → va_S A s.heap H locs → lv_has ls 2 [] → W p l e ({ frames := 3, cells := 0, slots := 0, locals := 68 } : Room) s m #[Value.ref a_] below meth c H locs 0 0 Q (F0 m 54 ls [])) ∧ (t9 = 2 → ∀ (H : Heap) (locs : List Loc) (ls : Array Slot), va_P E.1 vwCl (w_X3_readSite E a_ a_tape a_rules a_places a_steps a_tape_bytes c_siteCount c_stepCount c_seenRules c_at c_wordStart c_number c_failed c_tape_length c_tape_bytes c_places) H → va_D A (w_X3_readSite E a_ a_tape a_rules a_places a_steps a_tape_bytes c_siteCount c_stepCount c_seenRules c_at c_wordStart c_number c_failed c_tape_length c_tape_bytes c_places) → va_S A s.heap H locs → lv_has ls 2 [(0, .ref a_)] → W p l e ({ frames := 3, cells := 0, slots := 0, locals := 68 } : Room) s m #[Value.ref a_] below meth c H locs 0 0 Q (F0 m 79 ls [])))) (hF : B_X3_readSite_20 K c_tape_length c_tape_bytes c_siteCount x1 c_places c_at c_number c_failed = some xx) : ∀ (H : Heap) (locs : List Loc) (ls : Array Slot), va_P E.1 vwCl (w_X3_readSite E a_ a_tape a_rules a_places a_steps a_tape_bytes c_siteCount c_stepCount c_seenRules c_at c_wordStart c_number c_failed c_tape_length c_tape_bytes c_places) H → va_D A (w_X3_readSite E a_ a_tape a_rules a_places a_steps a_tape_bytes c_siteCount c_stepCount c_seenRules c_at c_wordStart c_number c_failed c_tape_length c_tape_bytes c_places) → va_S A s.heap H locs → lv_has ls 2 [(0, .ref a_), (1, .int x1)] → W p l e ({ frames := 3, cells := 0, slots := 0, locals := 68 } : Room) s m #[Value.ref a_] below meth c H locs 0 0 Q (F0 m 20 ls []) := by
  unfold B_X3_readSite_20 at hF
  intro H locs ls hP hD hS hl
  replace hP : va_P E.1 vwCl [(a_, .inr (4, [.ref a_tape, .ref a_rules, .ref a_places, .ref a_steps, .int c_siteCount, .int c_stepCount, .int c_seenRules, .int c_at, .int c_wordStart, .int c_number, .int c_failed])), (a_tape, .inr (7, [.ref a_tape_bytes, .int c_tape_length])), (a_tape_bytes, .inl (E.2.2.1, 320, .inl c_tape_bytes)), (a_places, .inl (E.2.1, 16, .inl c_places))] H := hP
  replace hD : va_D A [(a_, .inr (4, [.ref a_tape, .ref a_rules, .ref a_places, .ref a_steps, .int c_siteCount, .int c_stepCount, .int c_seenRules, .int c_at, .int c_wordStart, .int c_number, .int c_failed])), (a_tape, .inr (7, [.ref a_tape_bytes, .int c_tape_length])), (a_tape_bytes, .inl (E.2.2.1, 320, .inl c_tape_bytes)), (a_places, .inl (E.2.1, 16, .inl c_places))] := hD
  refine lv_iload_n hx hb dX3_readSite_20 rfl (lv_at hl 1 rfl) ?_
  refine lv_iconst (v := 2) hx hb dX3_readSite_21 (by decide) ?_
  refine lv_icmp_ge (tgt := 79) hx hb dX3_readSite_22 (by decide) (fun c_2 => ?_) (fun c_2 => ?_)
  ·
    replace hF := ip c_2 hF
    cases hF
    exact (hE 2 c_places c_at c_number c_failed rfl).2.2 rfl H locs ls (hP.sub [0, 1, 2, 3] rfl) (hD.sub [0, 1, 2, 3] (by decide) rfl) hS (lv_sub hl [0] rfl)
  ·
    replace hF := inn c_2 hF
    refine lv_iload_n hx hb dX3_readSite_25 rfl (lv_at hl 1 rfl) ?_
    refine lv_iconst (v := 1) hx hb dX3_readSite_26 (by decide) ?_
    refine lv_icmp_ne (tgt := 41) hx hb dX3_readSite_27 (by decide) (fun c_3 => ?_) (fun c_3 => ?_)
    ·
      replace hF := inn c_3 hF
      exact j_X3_readSite_41_r21 l E K (c_stepCount := c_stepCount) (c_seenRules := c_seenRules) (c_wordStart := c_wordStart) (c_tape_length := c_tape_length) (c_tape_bytes := c_tape_bytes) (x1 := x1) (c_places := c_places) (c_siteCount := c_siteCount) (c_at := c_at) (c_number := c_number) (c_failed := c_failed) hx hb hml hown hts hK hN hA hC hE hF H locs ls (hP.sub [0, 1, 2, 3] rfl) (hD.sub [0, 1, 2, 3] (by decide) rfl) hS (lv_sub hl [0, 1] rfl)
    ·
      replace hF := ip c_3 hF
      refine lv_aload_n hx hb dX3_readSite_30 rfl (lv_at hl 0 rfl) ?_
      refine lv_bipush (v := 44) hx hb dX3_readSite_31 (by decide) ?_
      replace hF := bd3_s hF
      obtain ⟨r_13, w_14, w_15, hc_16, hF⟩ := hF
      obtain ⟨hPc, hDc, hFc⟩ := wcut (wc := (w_X3_readSign E a_ a_tape a_rules a_places a_steps a_tape_bytes c_siteCount c_stepCount c_seenRules c_at c_wordStart c_number c_failed c_tape_length c_tape_bytes)) hP hD hS hA [0, 1, 2] (by decide) rfl
      have hrc := va_recv hK hPc (ci := 4) (q0 := 0) rfl rfl
      refine cE_z (wc := (w_X3_readSign E a_ a_tape a_rules a_places a_steps a_tape_bytes c_siteCount c_stepCount c_seenRules c_at c_wordStart c_number c_failed c_tape_length c_tape_bytes)) (wr := [(a_places, .inl (E.2.1, 16, .inl c_places))]) (w1 := (w_X3_readSign E a_ a_tape a_rules a_places a_steps a_tape_bytes c_siteCount c_stepCount c_seenRules w_14 c_wordStart c_number w_15 c_tape_length c_tape_bytes)) (va_runV (As := [.int (44 : Int32)]) (rest := [])  ⟨hx, hb, hml, hown, hts⟩ (f_X3_readSign l E H.size K (a_ := a_) (a_tape := a_tape) (a_rules := a_rules) (a_places := a_places) (a_steps := a_steps) (a_tape_bytes := a_tape_bytes) (p1 := (44 : Int32)) (c_siteCount := c_siteCount) (c_stepCount := c_stepCount) (c_seenRules := c_seenRules) (c_at := c_at) (c_wordStart := c_wordStart) (c_number := c_number) (c_failed := c_failed) (c_tape_length := c_tape_length) (c_tape_bytes := c_tape_bytes) hc_16) (cwV 1 hts g_f_X3_readSite_f_X3_readSign_62 rfl rfl rfl hd_X3_readSign ⟨Nat.le_of_ble_eq_true rfl, Nat.le_of_ble_eq_true rfl⟩) ⟨pW.blind, hrc, (pW.pre ⟨hK, hN⟩ hPc hDc)⟩ rfl rfl hl.1 rfl (lv_room (Nat.le_of_ble_eq_true rfl)) dX3_readSite_33 ⟨Nat.le_of_ble_eq_true rfl, Nat.le_of_ble_eq_true rfl⟩) hS hFc hP hD [0, 1, 2] [3] rfl rfl (by decide) (by decide) (fun hb_17 H locs hP hD hS => ?_)
      replace hP : va_P E.1 vwCl [(a_places, .inl (E.2.1, 16, .inl c_places)), (a_, .inr (4, [.ref a_tape, .ref a_rules, .ref a_places, .ref a_steps, .int c_siteCount, .int c_stepCount, .int c_seenRules, .int w_14, .int c_wordStart, .int c_number, .int w_15])), (a_tape, .inr (7, [.ref a_tape_bytes, .int c_tape_length])), (a_tape_bytes, .inl (E.2.2.1, 320, .inl c_tape_bytes))] H := hP
      replace hD : va_D A [(a_places, .inl (E.2.1, 16, .inl c_places)), (a_, .inr (4, [.ref a_tape, .ref a_rules, .ref a_places, .ref a_steps, .int c_siteCount, .int c_stepCount, .int c_seenRules, .int w_14, .int c_wordStart, .int c_number, .int w_15])), (a_tape, .inr (7, [.ref a_tape_bytes, .int c_tape_length])), (a_tape_bytes, .inl (E.2.2.1, 320, .inl c_tape_bytes))] := hD
      refine lv_if_ne (tgt := 41) hx hb dX3_readSite_36 (by decide) (fun c_18 => ?_) (fun c_18 => ?_)
      ·
        replace hF := inn c_18 hF
        exact j_X3_readSite_41_r21 l E K (c_stepCount := c_stepCount) (c_seenRules := c_seenRules) (c_wordStart := c_wordStart) (c_tape_length := c_tape_length) (c_tape_bytes := c_tape_bytes) (x1 := x1) (c_places := c_places) (c_siteCount := c_siteCount) (c_at := w_14) (c_number := c_number) (c_failed := w_15) hx hb hml hown hts hK hN hA hC hE hF H locs ls (hP.sub [1, 2, 3, 0] rfl) (hD.sub [1, 2, 3, 0] (by decide) rfl) hS (lv_sub hl [0, 1] rfl)
      ·
        replace hF := ip c_18 hF
        cases hF
        exact (hE 0 c_places w_14 c_number w_15 rfl).1 rfl H locs ls (hP.sub [1, 2, 3, 0] rfl) (hD.sub [1, 2, 3, 0] (by decide) rfl) hS (lv_sub hl [] rfl)

set_option maxHeartbeats 4000000 in
set_option maxRecDepth 100000 in
theorem lw_X3_readSite_20 {p : Program} (l : Launch) {e : Env} {s : State} {m : MethodId} {below : List Frame} {meth : Method} {c : Code} {Q : State → Prop} (E : EE) (K : Nat) {a_ a_tape a_rules a_places a_steps a_tape_bytes : Nat} {c_stepCount : Int32} {c_seenRules : Int32} {c_wordStart : Int32} {c_tape_length : Int32} {c_tape_bytes : Nat → Int32} {c_siteCount : Int32} (hx : p.tables.exec = Jvm.exec) (hb : c.code = cX3_readSite) (hml : c.maxLocals = 2) (hown : s.vm.findClass RX3 = some m.cls) (hts : ∀ w ∈ v_f_X3_readSite, w.before #[Value.ref a_] s = true) (hK : va_K E.1 vwCl (TY E) s) (hN : NX s) {A : Nat → Prop} (hA : ∀ q : Nat, s.heap.size ≤ q → A q) (j9 : Nat) (x1 : Int32) (c_places : Nat → Int32) (c_at : Int32) (c_number : Int32) (c_failed : Int32) (t9' : Nat) (c_places' : Nat → Int32) (c_at' : Int32) (c_number' : Int32) (c_failed' : Int32) (hL : lpF (fun u9 : Int32 × (Nat → Int32) × Int32 × Int32 × Int32 => B_X3_readSite_20 K c_tape_length c_tape_bytes c_siteCount u9.1 u9.2.1 u9.2.2.1 u9.2.2.2.1 u9.2.2.2.2) j9 (x1, c_places, c_at, c_number, c_failed) = some (t9', c_places', c_at', c_number', c_failed')) (hX : (t9' = 0 → ∀ (H : Heap) (locs : List Loc) (ls : Array Slot), va_P E.1 vwCl (w_X3_readSite E a_ a_tape a_rules a_places a_steps a_tape_bytes c_siteCount c_stepCount c_seenRules c_at' c_wordStart c_number' c_failed' c_tape_length c_tape_bytes c_places') H → va_D A (w_X3_readSite E a_ a_tape a_rules a_places a_steps a_tape_bytes c_siteCount c_stepCount c_seenRules c_at' c_wordStart c_number' c_failed' c_tape_length c_tape_bytes c_places') → va_S A s.heap H locs → lv_has ls 2 [] → W p l e ({ frames := 3, cells := 0, slots := 0, locals := 68 } : Room) s m #[Value.ref a_] below meth c H locs 0 0 Q (F0 m 39 ls [])) ∧ (t9' = 1 → ∀ (H : Heap) (locs : List Loc) (ls : Array Slot), va_P E.1 vwCl (w_X3_readSite E a_ a_tape a_rules a_places a_steps a_tape_bytes c_siteCount c_stepCount c_seenRules c_at' c_wordStart c_number' c_failed' c_tape_length c_tape_bytes c_places') H → va_D A (w_X3_readSite E a_ a_tape a_rules a_places a_steps a_tape_bytes c_siteCount c_stepCount c_seenRules c_at' c_wordStart c_number' c_failed' c_tape_length c_tape_bytes c_places') → va_S A s.heap H locs → lv_has ls 2 [] → W p l e ({ frames := 3, cells := 0, slots := 0, locals := 68 } : Room) s m #[Value.ref a_] below meth c H locs 0 0 Q (F0 m 54 ls [])) ∧ (t9' = 2 → ∀ (H : Heap) (locs : List Loc) (ls : Array Slot), va_P E.1 vwCl (w_X3_readSite E a_ a_tape a_rules a_places a_steps a_tape_bytes c_siteCount c_stepCount c_seenRules c_at' c_wordStart c_number' c_failed' c_tape_length c_tape_bytes c_places') H → va_D A (w_X3_readSite E a_ a_tape a_rules a_places a_steps a_tape_bytes c_siteCount c_stepCount c_seenRules c_at' c_wordStart c_number' c_failed' c_tape_length c_tape_bytes c_places') → va_S A s.heap H locs → lv_has ls 2 [(0, .ref a_)] → W p l e ({ frames := 3, cells := 0, slots := 0, locals := 68 } : Room) s m #[Value.ref a_] below meth c H locs 0 0 Q (F0 m 79 ls []))) : ∀ (H : Heap) (locs : List Loc) (ls : Array Slot), va_P E.1 vwCl (w_X3_readSite E a_ a_tape a_rules a_places a_steps a_tape_bytes c_siteCount c_stepCount c_seenRules c_at c_wordStart c_number c_failed c_tape_length c_tape_bytes c_places) H → va_D A (w_X3_readSite E a_ a_tape a_rules a_places a_steps a_tape_bytes c_siteCount c_stepCount c_seenRules c_at c_wordStart c_number c_failed c_tape_length c_tape_bytes c_places) → va_S A s.heap H locs → lv_has ls 2 [(0, .ref a_), (1, .int x1)] → W p l e ({ frames := 3, cells := 0, slots := 0, locals := 68 } : Room) s m #[Value.ref a_] below meth c H locs 0 0 Q (F0 m 20 ls []) := by
  exact lp_rule (P := (fun u9 : Int32 × (Nat → Int32) × Int32 × Int32 × Int32 => ∀ (H : Heap) (locs : List Loc) (ls : Array Slot), va_P E.1 vwCl (w_X3_readSite E a_ a_tape a_rules a_places a_steps a_tape_bytes c_siteCount c_stepCount c_seenRules u9.2.2.1 c_wordStart u9.2.2.2.1 u9.2.2.2.2 c_tape_length c_tape_bytes u9.2.1) H → va_D A (w_X3_readSite E a_ a_tape a_rules a_places a_steps a_tape_bytes c_siteCount c_stepCount c_seenRules u9.2.2.1 c_wordStart u9.2.2.2.1 u9.2.2.2.2 c_tape_length c_tape_bytes u9.2.1) → va_S A s.heap H locs → lv_has ls 2 [(0, .ref a_), (1, .int u9.1)] → W p l e ({ frames := 3, cells := 0, slots := 0, locals := 68 } : Room) s m #[Value.ref a_] below meth c H locs 0 0 Q (F0 m 20 ls []))) (R := (fun r9 : Nat × (Nat → Int32) × Int32 × Int32 × Int32 => (r9.1 = 0 → ∀ (H : Heap) (locs : List Loc) (ls : Array Slot), va_P E.1 vwCl (w_X3_readSite E a_ a_tape a_rules a_places a_steps a_tape_bytes c_siteCount c_stepCount c_seenRules r9.2.2.1 c_wordStart r9.2.2.2.1 r9.2.2.2.2 c_tape_length c_tape_bytes r9.2.1) H → va_D A (w_X3_readSite E a_ a_tape a_rules a_places a_steps a_tape_bytes c_siteCount c_stepCount c_seenRules r9.2.2.1 c_wordStart r9.2.2.2.1 r9.2.2.2.2 c_tape_length c_tape_bytes r9.2.1) → va_S A s.heap H locs → lv_has ls 2 [] → W p l e ({ frames := 3, cells := 0, slots := 0, locals := 68 } : Room) s m #[Value.ref a_] below meth c H locs 0 0 Q (F0 m 39 ls [])) ∧ (r9.1 = 1 → ∀ (H : Heap) (locs : List Loc) (ls : Array Slot), va_P E.1 vwCl (w_X3_readSite E a_ a_tape a_rules a_places a_steps a_tape_bytes c_siteCount c_stepCount c_seenRules r9.2.2.1 c_wordStart r9.2.2.2.1 r9.2.2.2.2 c_tape_length c_tape_bytes r9.2.1) H → va_D A (w_X3_readSite E a_ a_tape a_rules a_places a_steps a_tape_bytes c_siteCount c_stepCount c_seenRules r9.2.2.1 c_wordStart r9.2.2.2.1 r9.2.2.2.2 c_tape_length c_tape_bytes r9.2.1) → va_S A s.heap H locs → lv_has ls 2 [] → W p l e ({ frames := 3, cells := 0, slots := 0, locals := 68 } : Room) s m #[Value.ref a_] below meth c H locs 0 0 Q (F0 m 54 ls [])) ∧ (r9.1 = 2 → ∀ (H : Heap) (locs : List Loc) (ls : Array Slot), va_P E.1 vwCl (w_X3_readSite E a_ a_tape a_rules a_places a_steps a_tape_bytes c_siteCount c_stepCount c_seenRules r9.2.2.1 c_wordStart r9.2.2.2.1 r9.2.2.2.2 c_tape_length c_tape_bytes r9.2.1) H → va_D A (w_X3_readSite E a_ a_tape a_rules a_places a_steps a_tape_bytes c_siteCount c_stepCount c_seenRules r9.2.2.1 c_wordStart r9.2.2.2.1 r9.2.2.2.2 c_tape_length c_tape_bytes r9.2.1) → va_S A s.heap H locs → lv_has ls 2 [(0, .ref a_)] → W p l e ({ frames := 3, cells := 0, slots := 0, locals := 68 } : Room) s m #[Value.ref a_] below meth c H locs 0 0 Q (F0 m 79 ls [])))) (fun u9 xx hF hC hE => wb_X3_readSite_20 l E K (c_stepCount := c_stepCount) (c_seenRules := c_seenRules) (c_wordStart := c_wordStart) (c_tape_length := c_tape_length) (c_tape_bytes := c_tape_bytes) (x1 := u9.1) (c_places := u9.2.1) (c_siteCount := c_siteCount) (c_at := u9.2.2.1) (c_number := u9.2.2.2.1) (c_failed := u9.2.2.2.2) hx hb hml hown hts hK hN hA (fun x1 c_places c_at c_number c_failed q9 => hC _ q9) (fun t9 c_places c_at c_number c_failed q9 => hE _ q9) hF) j9 (x1, c_places, c_at, c_number, c_failed) (t9', c_places', c_at', c_number', c_failed') hL hX

set_option maxHeartbeats 4000000 in
set_option maxRecDepth 100000 in
theorem f_X3_readSite (l : Launch) (E : EE) (sz : Nat) (K : Nat) {a_ a_tape a_rules a_places a_steps a_tape_bytes : Nat} {c_siteCount : Int32} {c_stepCount : Int32} {c_seenRules : Int32} {c_at : Int32} {c_wordStart : Int32} {c_number : Int32} {c_failed : Int32} {c_tape_length : Int32} {c_tape_bytes : Nat → Int32} {c_places : Nat → Int32} {rr : Int32} {n_places : Nat → Int32} {n_siteCount : Int32} {n_at : Int32} {n_number : Int32} {n_failed : Int32} (hF : F_X3_readSite K c_tape_bytes c_tape_length c_places c_siteCount c_at c_wordStart c_number c_failed = some (rr, n_places, n_siteCount, n_at, n_number, n_failed)) : Met l yX3_readSite v_f_X3_readSite (({ frames := 3, cells := 0, slots := 0, locals := 68 } : Room)) (va_Pc [.ref a_] (pW E sz (w_X3_readSite E a_ a_tape a_rules a_places a_steps a_tape_bytes c_siteCount c_stepCount c_seenRules c_at c_wordStart c_number c_failed c_tape_length c_tape_bytes c_places))) (va_Qi (fun (q : Int32) (_u : Unit) => q = rr ∧ (q = 0 ∨ q = 1)) (fun (_u : Unit) tt => va_P E.1 vwCl (w_X3_readSite E a_ a_tape a_rules a_places a_steps a_tape_bytes n_siteCount c_stepCount c_seenRules n_at c_wordStart n_number n_failed c_tape_length c_tape_bytes n_places) tt.heap ∧ va_D (va_A (w_X3_readSite E a_ a_tape a_rules a_places a_steps a_tape_bytes c_siteCount c_stepCount c_seenRules c_at c_wordStart c_number c_failed c_tape_length c_tape_bytes c_places) sz) (w_X3_readSite E a_ a_tape a_rules a_places a_steps a_tape_bytes n_siteCount c_stepCount c_seenRules n_at c_wordStart n_number n_failed c_tape_length c_tape_bytes n_places)) (va_A (w_X3_readSite E a_ a_tape a_rules a_places a_steps a_tape_bytes c_siteCount c_stepCount c_seenRules c_at c_wordStart c_number c_failed c_tape_length c_tape_bytes c_places) sz)) 0 0 (va_A (w_X3_readSite E a_ a_tape a_rules a_places a_steps a_tape_bytes c_siteCount c_stepCount c_seenRules c_at c_wordStart c_number c_failed c_tape_length c_tape_bytes c_places) sz) := by
  refine Met.ofW (cc := cX3_readSite) (maxL := 2) (ret := (some .boolean)) (by decide) rfl ?_
  intro p e s m args below meth c s₁ B hml hv
  obtain ⟨rfl, hsz, ⟨hK, hN⟩, hP, hD0⟩ := hv
  have hx := B.exec
  have hb := B.bytes
  have hr := B.returns
  have hts := atoms_spec (ws := v_f_X3_readSite) B.pre
  have hown : s.vm.findClass RX3 = some m.cls := own_of hd_X3_readSite.1 (findClass_of_methodNamed B.named)
  have hlocks : meth.locks = false := B.notSynchronized
  subst hsz
  have hD := hD0.self (sz := s.heap.size)
  generalize hAe : va_A (w_X3_readSite E a_ a_tape a_rules a_places a_steps a_tape_bytes c_siteCount c_stepCount c_seenRules c_at c_wordStart c_number c_failed c_tape_length c_tape_bytes c_places) s.heap.size = A at hD ⊢
  have hA : ∀ q : Nat, s.heap.size ≤ q → A q := fun q h => by rw [← hAe]; exact Or.inr h
  have hS : va_S A s.heap s.heap [] := va_S.rf
  have hl := lv_entry ([.ref a_]) (n := 2) (Nat.le_of_ble_eq_true rfl)
  rw [lg_entry_eq]
  generalize (lg_sl ([.ref a_]) ++ List.replicate (2 - (lg_sl ([.ref a_])).length) Slot.unset).toArray = ls at hl ⊢
  have hl : lv_has ls 2 [(0, .ref a_)] := hl
  obtain ⟨Q, hQ⟩ : ∃ Q : State → Prop, Q = MQ below (va_Qi (fun (q : Int32) (_u : Unit) => q = rr ∧ (q = 0 ∨ q = 1)) (fun (_u : Unit) tt => va_P E.1 vwCl (w_X3_readSite E a_ a_tape a_rules a_places a_steps a_tape_bytes n_siteCount c_stepCount c_seenRules n_at c_wordStart n_number n_failed c_tape_length c_tape_bytes n_places) tt.heap ∧ va_D A (w_X3_readSite E a_ a_tape a_rules a_places a_steps a_tape_bytes n_siteCount c_stepCount c_seenRules n_at c_wordStart n_number n_failed c_tape_length c_tape_bytes n_places)) A) #[Value.ref a_] s 0 0 A := ⟨_, rfl⟩
  rw [← hQ]
  change W p l e ({ frames := 3, cells := 0, slots := 0, locals := 68 } : Room) s m #[Value.ref a_] below meth c s.heap [] 0 0 Q (F0 m 0 ls [])
  suffices hh9 : ∀ (H : Heap) (locs : List Loc), va_P E.1 vwCl (w_X3_readSite E a_ a_tape a_rules a_places a_steps a_tape_bytes c_siteCount c_stepCount c_seenRules c_at c_wordStart c_number c_failed c_tape_length c_tape_bytes c_places) H → va_D A (w_X3_readSite E a_ a_tape a_rules a_places a_steps a_tape_bytes c_siteCount c_stepCount c_seenRules c_at c_wordStart c_number c_failed c_tape_length c_tape_bytes c_places) → va_S A s.heap H locs → W p l e ({ frames := 3, cells := 0, slots := 0, locals := 68 } : Room) s m #[Value.ref a_] below meth c H locs 0 0 Q (F0 m 0 ls []) from hh9 s.heap [] hP hD hS
  clear hP hD hS
  intro H locs hP hD hS
  replace hP : va_P E.1 vwCl [(a_, .inr (4, [.ref a_tape, .ref a_rules, .ref a_places, .ref a_steps, .int c_siteCount, .int c_stepCount, .int c_seenRules, .int c_at, .int c_wordStart, .int c_number, .int c_failed])), (a_tape, .inr (7, [.ref a_tape_bytes, .int c_tape_length])), (a_tape_bytes, .inl (E.2.2.1, 320, .inl c_tape_bytes)), (a_places, .inl (E.2.1, 16, .inl c_places))] H := hP
  replace hD : va_D A [(a_, .inr (4, [.ref a_tape, .ref a_rules, .ref a_places, .ref a_steps, .int c_siteCount, .int c_stepCount, .int c_seenRules, .int c_at, .int c_wordStart, .int c_number, .int c_failed])), (a_tape, .inr (7, [.ref a_tape_bytes, .int c_tape_length])), (a_tape_bytes, .inl (E.2.2.1, 320, .inl c_tape_bytes)), (a_places, .inl (E.2.1, 16, .inl c_places))] := hD
  unfold F_X3_readSite at hF
  refine lv_aload_n hx hb dX3_readSite_0 rfl (lv_at hl 0 rfl) ?_
  refine gt_X3_4 (v := .int c_siteCount) hx hb hts i_f_X3_readSite_X3 hown hK hP 0 rfl (hts (.fieldLink RX3 21 "HushWatch$Reader" "siteCount" "I") (List.mem_of_getElem? (i := 1) rfl)) rfl dX3_readSite_1 ?_
  refine lv_bipush (v := 8) hx hb dX3_readSite_4 (by decide) ?_
  refine lv_icmp_lt (tgt := 18) hx hb dX3_readSite_6 (by decide) (fun c_1 => ?_) (fun c_1 => ?_)
  ·
    replace hF := ip c_1 hF
    refine lv_iconst (v := 0) hx hb dX3_readSite_18 (by decide) ?_
    refine lv_istore_n (lv' := [(1, .int (0 : Int32)), (0, .ref a_)]) hx hb dX3_readSite_19 rfl hl (by decide) rfl (fun ls hl => ?_)
    replace hF := bd5_s hF
    obtain ⟨t_19, c_places_20, c_at_21, c_number_22, c_failed_23, hL_24, hF⟩ := hF
    refine lw_X3_readSite_20 l E K (c_stepCount := c_stepCount) (c_seenRules := c_seenRules) (c_wordStart := c_wordStart) (c_tape_length := c_tape_length) (c_tape_bytes := c_tape_bytes) (c_siteCount := c_siteCount) hx hb hml hown hts hK hN hA K (0 : Int32) c_places c_at c_number c_failed t_19 c_places_20 c_at_21 c_number_22 c_failed_23 hL_24 ⟨?_, ?_, ?_⟩ H locs ls (hP.sub [0, 1, 2, 3] rfl) (hD.sub [0, 1, 2, 3] (by decide) rfl) hS (lv_sub hl [1, 0] rfl)
    ·
      intro t9
      replace hF := ip t9 hF
      intro H locs ls hP hD hS hl
      replace hP : va_P E.1 vwCl [(a_, .inr (4, [.ref a_tape, .ref a_rules, .ref a_places, .ref a_steps, .int c_siteCount, .int c_stepCount, .int c_seenRules, .int c_at_21, .int c_wordStart, .int c_number_22, .int c_failed_23])), (a_tape, .inr (7, [.ref a_tape_bytes, .int c_tape_length])), (a_tape_bytes, .inl (E.2.2.1, 320, .inl c_tape_bytes)), (a_places, .inl (E.2.1, 16, .inl c_places_20))] H := hP
      replace hD : va_D A [(a_, .inr (4, [.ref a_tape, .ref a_rules, .ref a_places, .ref a_steps, .int c_siteCount, .int c_stepCount, .int c_seenRules, .int c_at_21, .int c_wordStart, .int c_number_22, .int c_failed_23])), (a_tape, .inr (7, [.ref a_tape_bytes, .int c_tape_length])), (a_tape_bytes, .inl (E.2.2.1, 320, .inl c_tape_bytes)), (a_places, .inl (E.2.1, 16, .inl c_places_20))] := hD
      refine lv_iconst (v := 0) hx hb dX3_readSite_39 (by decide) ?_
      rw [hQ]
      have h9 := fin9 (P := fun u9 : Int32 × (Nat → Int32) × Int32 × Int32 × Int32 × Int32 => (0 : Int32) = u9.1 ∧ va_P E.1 vwCl (w_X3_readSite E a_ a_tape a_rules a_places a_steps a_tape_bytes u9.2.2.1 c_stepCount c_seenRules u9.2.2.2.1 c_wordStart u9.2.2.2.2.1 u9.2.2.2.2.2 c_tape_length c_tape_bytes u9.2.1) H ∧ va_D A (w_X3_readSite E a_ a_tape a_rules a_places a_steps a_tape_bytes u9.2.2.1 c_stepCount c_seenRules u9.2.2.2.1 c_wordStart u9.2.2.2.2.1 u9.2.2.2.2.2 c_tape_length c_tape_bytes u9.2.1)) hF ⟨rfl, hP, hD⟩
      obtain ⟨e9_0, hP9, hD9⟩ := h9
      exact W.zret (v := (0 : Int32)) hx hb hr rfl (fun tt ht hW => ⟨⟨_, (), rfl, ⟨e9_0, Or.inl rfl⟩, ht ▸ hP9, hD9⟩, hS.F ht⟩) hS.2.2 dX3_readSite_40
    ·
      intro t9
      replace hF := inn (show ¬ t_19 = 0 by omega) hF
      replace hF := ip t9 hF
      intro H locs ls hP hD hS hl
      replace hP : va_P E.1 vwCl [(a_, .inr (4, [.ref a_tape, .ref a_rules, .ref a_places, .ref a_steps, .int c_siteCount, .int c_stepCount, .int c_seenRules, .int c_at_21, .int c_wordStart, .int c_number_22, .int c_failed_23])), (a_tape, .inr (7, [.ref a_tape_bytes, .int c_tape_length])), (a_tape_bytes, .inl (E.2.2.1, 320, .inl c_tape_bytes)), (a_places, .inl (E.2.1, 16, .inl c_places_20))] H := hP
      replace hD : va_D A [(a_, .inr (4, [.ref a_tape, .ref a_rules, .ref a_places, .ref a_steps, .int c_siteCount, .int c_stepCount, .int c_seenRules, .int c_at_21, .int c_wordStart, .int c_number_22, .int c_failed_23])), (a_tape, .inr (7, [.ref a_tape_bytes, .int c_tape_length])), (a_tape_bytes, .inl (E.2.2.1, 320, .inl c_tape_bytes)), (a_places, .inl (E.2.1, 16, .inl c_places_20))] := hD
      refine lv_iconst (v := 0) hx hb dX3_readSite_54 (by decide) ?_
      rw [hQ]
      have h9 := fin9 (P := fun u9 : Int32 × (Nat → Int32) × Int32 × Int32 × Int32 × Int32 => (0 : Int32) = u9.1 ∧ va_P E.1 vwCl (w_X3_readSite E a_ a_tape a_rules a_places a_steps a_tape_bytes u9.2.2.1 c_stepCount c_seenRules u9.2.2.2.1 c_wordStart u9.2.2.2.2.1 u9.2.2.2.2.2 c_tape_length c_tape_bytes u9.2.1) H ∧ va_D A (w_X3_readSite E a_ a_tape a_rules a_places a_steps a_tape_bytes u9.2.2.1 c_stepCount c_seenRules u9.2.2.2.1 c_wordStart u9.2.2.2.2.1 u9.2.2.2.2.2 c_tape_length c_tape_bytes u9.2.1)) hF ⟨rfl, hP, hD⟩
      obtain ⟨e9_0, hP9, hD9⟩ := h9
      exact W.zret (v := (0 : Int32)) hx hb hr rfl (fun tt ht hW => ⟨⟨_, (), rfl, ⟨e9_0, Or.inl rfl⟩, ht ▸ hP9, hD9⟩, hS.F ht⟩) hS.2.2 dX3_readSite_55
    ·
      intro t9
      replace hF := inn (show ¬ t_19 = 0 by omega) hF
      replace hF := inn (show ¬ t_19 = 1 by omega) hF
      replace hF := ip t9 hF
      intro H locs ls hP hD hS hl
      replace hP : va_P E.1 vwCl [(a_, .inr (4, [.ref a_tape, .ref a_rules, .ref a_places, .ref a_steps, .int c_siteCount, .int c_stepCount, .int c_seenRules, .int c_at_21, .int c_wordStart, .int c_number_22, .int c_failed_23])), (a_tape, .inr (7, [.ref a_tape_bytes, .int c_tape_length])), (a_tape_bytes, .inl (E.2.2.1, 320, .inl c_tape_bytes)), (a_places, .inl (E.2.1, 16, .inl c_places_20))] H := hP
      replace hD : va_D A [(a_, .inr (4, [.ref a_tape, .ref a_rules, .ref a_places, .ref a_steps, .int c_siteCount, .int c_stepCount, .int c_seenRules, .int c_at_21, .int c_wordStart, .int c_number_22, .int c_failed_23])), (a_tape, .inr (7, [.ref a_tape_bytes, .int c_tape_length])), (a_tape_bytes, .inl (E.2.2.1, 320, .inl c_tape_bytes)), (a_places, .inl (E.2.1, 16, .inl c_places_20))] := hD
      refine lv_aload_n hx hb dX3_readSite_79 rfl (lv_at hl 0 rfl) ?_
      refine lv_dup hx hb dX3_readSite_80 rfl ?_
      refine gt_X3_4 (v := .int c_siteCount) hx hb hts i_f_X3_readSite_X3 hown hK hP 0 rfl (hts (.fieldLink RX3 21 "HushWatch$Reader" "siteCount" "I") (List.mem_of_getElem? (i := 1) rfl)) rfl dX3_readSite_81 ?_
      refine lv_iconst (v := 1) hx hb dX3_readSite_84 (by decide) ?_
      refine lv_iadd hx hb dX3_readSite_85 ?_
      refine pt_X3_4 (v := .int (c_siteCount + (1 : Int32))) hx hb hts i_f_X3_readSite_X3 hown hK hP hD hS 0 rfl (hts (.fieldLink RX3 21 "HushWatch$Reader" "siteCount" "I") (List.mem_of_getElem? (i := 1) rfl)) rfl rfl (Nat.le_of_ble_eq_true rfl) dX3_readSite_86 (fun H locs hP hD hS => ?_)
      replace hP : va_P E.1 vwCl [(a_, .inr (4, [.ref a_tape, .ref a_rules, .ref a_places, .ref a_steps, .int (c_siteCount + (1 : Int32)), .int c_stepCount, .int c_seenRules, .int c_at_21, .int c_wordStart, .int c_number_22, .int c_failed_23])), (a_tape, .inr (7, [.ref a_tape_bytes, .int c_tape_length])), (a_tape_bytes, .inl (E.2.2.1, 320, .inl c_tape_bytes)), (a_places, .inl (E.2.1, 16, .inl c_places_20))] H := hP
      replace hD : va_D A [(a_, .inr (4, [.ref a_tape, .ref a_rules, .ref a_places, .ref a_steps, .int (c_siteCount + (1 : Int32)), .int c_stepCount, .int c_seenRules, .int c_at_21, .int c_wordStart, .int c_number_22, .int c_failed_23])), (a_tape, .inr (7, [.ref a_tape_bytes, .int c_tape_length])), (a_tape_bytes, .inl (E.2.2.1, 320, .inl c_tape_bytes)), (a_places, .inl (E.2.1, 16, .inl c_places_20))] := hD
      refine lv_iconst (v := 1) hx hb dX3_readSite_89 (by decide) ?_
      rw [hQ]
      have h9 := fin9 (P := fun u9 : Int32 × (Nat → Int32) × Int32 × Int32 × Int32 × Int32 => (1 : Int32) = u9.1 ∧ va_P E.1 vwCl (w_X3_readSite E a_ a_tape a_rules a_places a_steps a_tape_bytes u9.2.2.1 c_stepCount c_seenRules u9.2.2.2.1 c_wordStart u9.2.2.2.2.1 u9.2.2.2.2.2 c_tape_length c_tape_bytes u9.2.1) H ∧ va_D A (w_X3_readSite E a_ a_tape a_rules a_places a_steps a_tape_bytes u9.2.2.1 c_stepCount c_seenRules u9.2.2.2.1 c_wordStart u9.2.2.2.2.1 u9.2.2.2.2.2 c_tape_length c_tape_bytes u9.2.1)) hF ⟨rfl, hP, hD⟩
      obtain ⟨e9_0, hP9, hD9⟩ := h9
      exact W.zret (v := (1 : Int32)) hx hb hr rfl (fun tt ht hW => ⟨⟨_, (), rfl, ⟨e9_0, Or.inr rfl⟩, ht ▸ hP9, hD9⟩, hS.F ht⟩) hS.2.2 dX3_readSite_90
  ·
    replace hF := inn c_1 hF
    refine lv_aload_n hx hb dX3_readSite_9 rfl (lv_at hl 0 rfl) ?_
    refine lv_aload_n hx hb dX3_readSite_10 rfl (lv_at hl 0 rfl) ?_
    refine gt_X3_8 (v := .int c_wordStart) hx hb hts i_f_X3_readSite_X3 hown hK hP 0 rfl (hts (.fieldLink RX3 34 "HushWatch$Reader" "wordStart" "I") (List.mem_of_getElem? (i := 4) rfl)) rfl dX3_readSite_11 ?_
    replace hF := bd2_s hF
    obtain ⟨r_25, w_26, hc_27, hF⟩ := hF
    obtain ⟨hPc, hDc, hFc⟩ := wcut (wc := (w_X3_failAt E a_ a_tape a_rules a_places a_steps c_siteCount c_stepCount c_seenRules c_at c_wordStart c_number c_failed)) hP hD hS hA [0] (by decide) rfl
    have hrc := va_recv hK hPc (ci := 4) (q0 := 0) rfl rfl
    refine cE_z (wc := (w_X3_failAt E a_ a_tape a_rules a_places a_steps c_siteCount c_stepCount c_seenRules c_at c_wordStart c_number c_failed)) (wr := [(a_tape, .inr (7, [.ref a_tape_bytes, .int c_tape_length])), (a_tape_bytes, .inl (E.2.2.1, 320, .inl c_tape_bytes)), (a_places, .inl (E.2.1, 16, .inl c_places))]) (w1 := (w_X3_failAt E a_ a_tape a_rules a_places a_steps c_siteCount c_stepCount c_seenRules c_at c_wordStart c_number w_26)) (va_runV (As := [.int c_wordStart]) (rest := [])  ⟨hx, hb, hml, hown, hts⟩ (f_X3_failAt l E H.size (a_ := a_) (a_tape := a_tape) (a_rules := a_rules) (a_places := a_places) (a_steps := a_steps) (p1 := c_wordStart) (c_siteCount := c_siteCount) (c_stepCount := c_stepCount) (c_seenRules := c_seenRules) (c_at := c_at) (c_wordStart := c_wordStart) (c_number := c_number) (c_failed := c_failed) hc_27) (cwV 1 hts g_f_X3_readSite_f_X3_failAt_87 rfl rfl rfl hd_X3_failAt ⟨Nat.le_of_ble_eq_true rfl, Nat.le_of_ble_eq_true rfl⟩) ⟨pW.blind, hrc, (pW.pre ⟨hK, hN⟩ hPc hDc)⟩ rfl rfl hl.1 rfl (lv_room (Nat.le_of_ble_eq_true rfl)) dX3_readSite_14 ⟨Nat.le_of_ble_eq_true rfl, Nat.le_of_ble_eq_true rfl⟩) hS hFc hP hD [0] [1, 2, 3] rfl rfl (by decide) (by decide) (fun hb_28 H locs hP hD hS => ?_)
    replace hP : va_P E.1 vwCl [(a_tape, .inr (7, [.ref a_tape_bytes, .int c_tape_length])), (a_tape_bytes, .inl (E.2.2.1, 320, .inl c_tape_bytes)), (a_places, .inl (E.2.1, 16, .inl c_places)), (a_, .inr (4, [.ref a_tape, .ref a_rules, .ref a_places, .ref a_steps, .int c_siteCount, .int c_stepCount, .int c_seenRules, .int c_at, .int c_wordStart, .int c_number, .int w_26]))] H := hP
    replace hD : va_D A [(a_tape, .inr (7, [.ref a_tape_bytes, .int c_tape_length])), (a_tape_bytes, .inl (E.2.2.1, 320, .inl c_tape_bytes)), (a_places, .inl (E.2.1, 16, .inl c_places)), (a_, .inr (4, [.ref a_tape, .ref a_rules, .ref a_places, .ref a_steps, .int c_siteCount, .int c_stepCount, .int c_seenRules, .int c_at, .int c_wordStart, .int c_number, .int w_26]))] := hD
    rw [hQ]
    have h9 := fin9 (P := fun u9 : Int32 × (Nat → Int32) × Int32 × Int32 × Int32 × Int32 => r_25 = u9.1 ∧ va_P E.1 vwCl (w_X3_readSite E a_ a_tape a_rules a_places a_steps a_tape_bytes u9.2.2.1 c_stepCount c_seenRules u9.2.2.2.1 c_wordStart u9.2.2.2.2.1 u9.2.2.2.2.2 c_tape_length c_tape_bytes u9.2.1) H ∧ va_D A (w_X3_readSite E a_ a_tape a_rules a_places a_steps a_tape_bytes u9.2.2.1 c_stepCount c_seenRules u9.2.2.2.1 c_wordStart u9.2.2.2.2.1 u9.2.2.2.2.2 c_tape_length c_tape_bytes u9.2.1)) hF ⟨rfl, hP.sub [3, 0, 1, 2] rfl, hD.sub [3, 0, 1, 2] (by decide) rfl⟩
    obtain ⟨e9_0, hP9, hD9⟩ := h9
    exact W.zret (v := r_25) hx hb hr (nar_bool hb_28) (fun tt ht hW => ⟨⟨_, (), rfl, ⟨e9_0, hb_28⟩, ht ▸ hP9, hD9⟩, hS.F ht⟩) hS.2.2 dX3_readSite_17
end
-- 27.rd02
section
def dl_X3_ruleOfWord_27_rd02_0 : List (Nat × Instr × Nat) := [(0, .aload_n 0, 1), (1, .ldc 100, 2), (3, .invokevirtual 76, 3), (6, .ifCond .eq 5, 3), (11, .aload_n 0, 1), (12, .ldc 102, 2), (14, .invokevirtual 76, 3), (17, .ifCond .eq 5, 3), (22, .aload_n 0, 1), (23, .ldc 104, 2), (25, .invokevirtual 76, 3), (28, .ifCond .eq 7, 3), (35, .iconst (-1), 1), (36, .ireturn, 1), (31, .iconst 2, 1), (32, .goto 4, 3), (20, .iconst 1, 1), (21, .ireturn, 1), (9, .iconst 0, 1), (10, .ireturn, 1)]
set_option maxRecDepth 100000 in
theorem dall_X3_ruleOfWord_27_rd02_0 : dchk cX3_ruleOfWord dl_X3_ruleOfWord_27_rd02_0 = true := by decide +kernel
theorem dX3_ruleOfWord_0 : decode cX3_ruleOfWord 0 = .ok (.aload_n 0, 1) := dchk_at dall_X3_ruleOfWord_27_rd02_0 (k := 0) rfl
theorem dX3_ruleOfWord_1 : decode cX3_ruleOfWord 1 = .ok (.ldc 100, 2) := dchk_at dall_X3_ruleOfWord_27_rd02_0 (k := 1) rfl
theorem dX3_ruleOfWord_3 : decode cX3_ruleOfWord 3 = .ok (.invokevirtual 76, 3) := dchk_at dall_X3_ruleOfWord_27_rd02_0 (k := 2) rfl
theorem dX3_ruleOfWord_6 : decode cX3_ruleOfWord 6 = .ok (.ifCond .eq 5, 3) := dchk_at dall_X3_ruleOfWord_27_rd02_0 (k := 3) rfl
theorem dX3_ruleOfWord_11 : decode cX3_ruleOfWord 11 = .ok (.aload_n 0, 1) := dchk_at dall_X3_ruleOfWord_27_rd02_0 (k := 4) rfl
theorem dX3_ruleOfWord_12 : decode cX3_ruleOfWord 12 = .ok (.ldc 102, 2) := dchk_at dall_X3_ruleOfWord_27_rd02_0 (k := 5) rfl
theorem dX3_ruleOfWord_14 : decode cX3_ruleOfWord 14 = .ok (.invokevirtual 76, 3) := dchk_at dall_X3_ruleOfWord_27_rd02_0 (k := 6) rfl
theorem dX3_ruleOfWord_17 : decode cX3_ruleOfWord 17 = .ok (.ifCond .eq 5, 3) := dchk_at dall_X3_ruleOfWord_27_rd02_0 (k := 7) rfl
theorem dX3_ruleOfWord_22 : decode cX3_ruleOfWord 22 = .ok (.aload_n 0, 1) := dchk_at dall_X3_ruleOfWord_27_rd02_0 (k := 8) rfl
theorem dX3_ruleOfWord_23 : decode cX3_ruleOfWord 23 = .ok (.ldc 104, 2) := dchk_at dall_X3_ruleOfWord_27_rd02_0 (k := 9) rfl
theorem dX3_ruleOfWord_25 : decode cX3_ruleOfWord 25 = .ok (.invokevirtual 76, 3) := dchk_at dall_X3_ruleOfWord_27_rd02_0 (k := 10) rfl
theorem dX3_ruleOfWord_28 : decode cX3_ruleOfWord 28 = .ok (.ifCond .eq 7, 3) := dchk_at dall_X3_ruleOfWord_27_rd02_0 (k := 11) rfl
theorem dX3_ruleOfWord_35 : decode cX3_ruleOfWord 35 = .ok (.iconst (-1), 1) := dchk_at dall_X3_ruleOfWord_27_rd02_0 (k := 12) rfl
theorem dX3_ruleOfWord_36 : decode cX3_ruleOfWord 36 = .ok (.ireturn, 1) := dchk_at dall_X3_ruleOfWord_27_rd02_0 (k := 13) rfl
theorem dX3_ruleOfWord_31 : decode cX3_ruleOfWord 31 = .ok (.iconst 2, 1) := dchk_at dall_X3_ruleOfWord_27_rd02_0 (k := 14) rfl
theorem dX3_ruleOfWord_32 : decode cX3_ruleOfWord 32 = .ok (.goto 4, 3) := dchk_at dall_X3_ruleOfWord_27_rd02_0 (k := 15) rfl
theorem dX3_ruleOfWord_20 : decode cX3_ruleOfWord 20 = .ok (.iconst 1, 1) := dchk_at dall_X3_ruleOfWord_27_rd02_0 (k := 16) rfl
theorem dX3_ruleOfWord_21 : decode cX3_ruleOfWord 21 = .ok (.ireturn, 1) := dchk_at dall_X3_ruleOfWord_27_rd02_0 (k := 17) rfl
theorem dX3_ruleOfWord_9 : decode cX3_ruleOfWord 9 = .ok (.iconst 0, 1) := dchk_at dall_X3_ruleOfWord_27_rd02_0 (k := 18) rfl
theorem dX3_ruleOfWord_10 : decode cX3_ruleOfWord 10 = .ok (.ireturn, 1) := dchk_at dall_X3_ruleOfWord_27_rd02_0 (k := 19) rfl
def dl_X3_readLaw_27_rd02_0 : List (Nat × Instr × Nat) := [(0, .aload_n 0, 1), (1, .invokevirtual 71, 3), (4, .ifCond .ne 5, 3), (9, .aload_n 0, 1), (10, .aload_n 0, 1), (11, .invokevirtual 129, 3), (14, .putfield 37, 3), (17, .aload_n 0, 1), (18, .getfield 37, 3), (21, .iconst (-1), 1), (22, .if_icmp .ne 14, 3), (36, .iconst 1, 1), (37, .goto 4, 3), (41, .ireturn, 1), (25, .aload_n 0, 1), (26, .aload_n 0, 1), (27, .getfield 34, 3), (30, .invokevirtual 87, 3), (33, .ifCond .eq 7, 3), (40, .iconst 0, 1), (7, .iconst 0, 1), (8, .ireturn, 1)]
set_option maxRecDepth 100000 in
theorem dall_X3_readLaw_27_rd02_0 : dchk cX3_readLaw dl_X3_readLaw_27_rd02_0 = true := by decide +kernel
theorem dX3_readLaw_0 : decode cX3_readLaw 0 = .ok (.aload_n 0, 1) := dchk_at dall_X3_readLaw_27_rd02_0 (k := 0) rfl
theorem dX3_readLaw_1 : decode cX3_readLaw 1 = .ok (.invokevirtual 71, 3) := dchk_at dall_X3_readLaw_27_rd02_0 (k := 1) rfl
theorem dX3_readLaw_4 : decode cX3_readLaw 4 = .ok (.ifCond .ne 5, 3) := dchk_at dall_X3_readLaw_27_rd02_0 (k := 2) rfl
theorem dX3_readLaw_9 : decode cX3_readLaw 9 = .ok (.aload_n 0, 1) := dchk_at dall_X3_readLaw_27_rd02_0 (k := 3) rfl
theorem dX3_readLaw_10 : decode cX3_readLaw 10 = .ok (.aload_n 0, 1) := dchk_at dall_X3_readLaw_27_rd02_0 (k := 4) rfl
theorem dX3_readLaw_11 : decode cX3_readLaw 11 = .ok (.invokevirtual 129, 3) := dchk_at dall_X3_readLaw_27_rd02_0 (k := 5) rfl
theorem dX3_readLaw_14 : decode cX3_readLaw 14 = .ok (.putfield 37, 3) := dchk_at dall_X3_readLaw_27_rd02_0 (k := 6) rfl
theorem dX3_readLaw_17 : decode cX3_readLaw 17 = .ok (.aload_n 0, 1) := dchk_at dall_X3_readLaw_27_rd02_0 (k := 7) rfl
theorem dX3_readLaw_18 : decode cX3_readLaw 18 = .ok (.getfield 37, 3) := dchk_at dall_X3_readLaw_27_rd02_0 (k := 8) rfl
theorem dX3_readLaw_21 : decode cX3_readLaw 21 = .ok (.iconst (-1), 1) := dchk_at dall_X3_readLaw_27_rd02_0 (k := 9) rfl
theorem dX3_readLaw_22 : decode cX3_readLaw 22 = .ok (.if_icmp .ne 14, 3) := dchk_at dall_X3_readLaw_27_rd02_0 (k := 10) rfl
theorem dX3_readLaw_36 : decode cX3_readLaw 36 = .ok (.iconst 1, 1) := dchk_at dall_X3_readLaw_27_rd02_0 (k := 11) rfl
theorem dX3_readLaw_37 : decode cX3_readLaw 37 = .ok (.goto 4, 3) := dchk_at dall_X3_readLaw_27_rd02_0 (k := 12) rfl
theorem dX3_readLaw_41 : decode cX3_readLaw 41 = .ok (.ireturn, 1) := dchk_at dall_X3_readLaw_27_rd02_0 (k := 13) rfl
theorem dX3_readLaw_25 : decode cX3_readLaw 25 = .ok (.aload_n 0, 1) := dchk_at dall_X3_readLaw_27_rd02_0 (k := 14) rfl
theorem dX3_readLaw_26 : decode cX3_readLaw 26 = .ok (.aload_n 0, 1) := dchk_at dall_X3_readLaw_27_rd02_0 (k := 15) rfl
theorem dX3_readLaw_27 : decode cX3_readLaw 27 = .ok (.getfield 34, 3) := dchk_at dall_X3_readLaw_27_rd02_0 (k := 16) rfl
theorem dX3_readLaw_30 : decode cX3_readLaw 30 = .ok (.invokevirtual 87, 3) := dchk_at dall_X3_readLaw_27_rd02_0 (k := 17) rfl
theorem dX3_readLaw_33 : decode cX3_readLaw 33 = .ok (.ifCond .eq 7, 3) := dchk_at dall_X3_readLaw_27_rd02_0 (k := 18) rfl
theorem dX3_readLaw_40 : decode cX3_readLaw 40 = .ok (.iconst 0, 1) := dchk_at dall_X3_readLaw_27_rd02_0 (k := 19) rfl
theorem dX3_readLaw_7 : decode cX3_readLaw 7 = .ok (.iconst 0, 1) := dchk_at dall_X3_readLaw_27_rd02_0 (k := 20) rfl
theorem dX3_readLaw_8 : decode cX3_readLaw 8 = .ok (.ireturn, 1) := dchk_at dall_X3_readLaw_27_rd02_0 (k := 21) rfl
def dl_X3_readClause_27_rd02_0 : List (Nat × Instr × Nat) := [(108, .istore_n 2, 1), (109, .iload_n 2, 1), (110, .ifCond .eq 13, 3), (123, .iload_n 2, 1), (124, .ireturn, 1), (113, .aload_n 0, 1), (114, .getfield 9, 3), (117, .iload_n 1, 1), (118, .aload_n 0, 1), (119, .getfield 37, 3), (122, .iastore, 1), (0, .aload_n 0, 1), (1, .invokevirtual 71, 3), (4, .ifCond .ne 5, 3), (9, .aload_n 0, 1), (10, .ldc 74, 2), (12, .invokevirtual 76, 3), (15, .ifCond .eq 8, 3), (23, .aload_n 0, 1), (24, .invokevirtual 83, 3), (27, .istore_n 1, 1), (28, .iload_n 1, 1), (29, .ifCond .lt 23, 3), (52, .aload_n 0, 1), (53, .aload_n 0, 1), (54, .getfield 34, 3), (57, .invokevirtual 87, 3), (60, .ireturn, 1), (32, .iload_n 1, 1), (33, .aload_n 0, 1), (34, .getfield 9, 3), (37, .arraylength, 1), (38, .if_icmp .ge 14, 3), (41, .aload_n 0, 1), (42, .getfield 28, 3), (45, .iload_n 1, 1), (46, .ishr, 1), (47, .iconst 1, 1), (48, .iand, 1), (49, .ifCond .eq 12, 3), (61, .aload_n 0, 1), (62, .dup, 1), (63, .getfield 28, 3), (66, .iconst 1, 1), (67, .iload_n 1, 1), (68, .ishl, 1), (69, .ior, 1), (70, .putfield 28, 3), (73, .iload_n 1, 1), (74, .ifCond .ne 10, 3)]
set_option maxRecDepth 100000 in
theorem dall_X3_readClause_27_rd02_0 : dchk cX3_readClause dl_X3_readClause_27_rd02_0 = true := by decide +kernel
theorem dX3_readClause_108 : decode cX3_readClause 108 = .ok (.istore_n 2, 1) := dchk_at dall_X3_readClause_27_rd02_0 (k := 0) rfl
theorem dX3_readClause_109 : decode cX3_readClause 109 = .ok (.iload_n 2, 1) := dchk_at dall_X3_readClause_27_rd02_0 (k := 1) rfl
theorem dX3_readClause_110 : decode cX3_readClause 110 = .ok (.ifCond .eq 13, 3) := dchk_at dall_X3_readClause_27_rd02_0 (k := 2) rfl
theorem dX3_readClause_123 : decode cX3_readClause 123 = .ok (.iload_n 2, 1) := dchk_at dall_X3_readClause_27_rd02_0 (k := 3) rfl
theorem dX3_readClause_124 : decode cX3_readClause 124 = .ok (.ireturn, 1) := dchk_at dall_X3_readClause_27_rd02_0 (k := 4) rfl
theorem dX3_readClause_113 : decode cX3_readClause 113 = .ok (.aload_n 0, 1) := dchk_at dall_X3_readClause_27_rd02_0 (k := 5) rfl
theorem dX3_readClause_114 : decode cX3_readClause 114 = .ok (.getfield 9, 3) := dchk_at dall_X3_readClause_27_rd02_0 (k := 6) rfl
theorem dX3_readClause_117 : decode cX3_readClause 117 = .ok (.iload_n 1, 1) := dchk_at dall_X3_readClause_27_rd02_0 (k := 7) rfl
theorem dX3_readClause_118 : decode cX3_readClause 118 = .ok (.aload_n 0, 1) := dchk_at dall_X3_readClause_27_rd02_0 (k := 8) rfl
theorem dX3_readClause_119 : decode cX3_readClause 119 = .ok (.getfield 37, 3) := dchk_at dall_X3_readClause_27_rd02_0 (k := 9) rfl
theorem dX3_readClause_122 : decode cX3_readClause 122 = .ok (.iastore, 1) := dchk_at dall_X3_readClause_27_rd02_0 (k := 10) rfl
theorem dX3_readClause_0 : decode cX3_readClause 0 = .ok (.aload_n 0, 1) := dchk_at dall_X3_readClause_27_rd02_0 (k := 11) rfl
theorem dX3_readClause_1 : decode cX3_readClause 1 = .ok (.invokevirtual 71, 3) := dchk_at dall_X3_readClause_27_rd02_0 (k := 12) rfl
theorem dX3_readClause_4 : decode cX3_readClause 4 = .ok (.ifCond .ne 5, 3) := dchk_at dall_X3_readClause_27_rd02_0 (k := 13) rfl
theorem dX3_readClause_9 : decode cX3_readClause 9 = .ok (.aload_n 0, 1) := dchk_at dall_X3_readClause_27_rd02_0 (k := 14) rfl
theorem dX3_readClause_10 : decode cX3_readClause 10 = .ok (.ldc 74, 2) := dchk_at dall_X3_readClause_27_rd02_0 (k := 15) rfl
theorem dX3_readClause_12 : decode cX3_readClause 12 = .ok (.invokevirtual 76, 3) := dchk_at dall_X3_readClause_27_rd02_0 (k := 16) rfl
theorem dX3_readClause_15 : decode cX3_readClause 15 = .ok (.ifCond .eq 8, 3) := dchk_at dall_X3_readClause_27_rd02_0 (k := 17) rfl
theorem dX3_readClause_23 : decode cX3_readClause 23 = .ok (.aload_n 0, 1) := dchk_at dall_X3_readClause_27_rd02_0 (k := 18) rfl
theorem dX3_readClause_24 : decode cX3_readClause 24 = .ok (.invokevirtual 83, 3) := dchk_at dall_X3_readClause_27_rd02_0 (k := 19) rfl
theorem dX3_readClause_27 : decode cX3_readClause 27 = .ok (.istore_n 1, 1) := dchk_at dall_X3_readClause_27_rd02_0 (k := 20) rfl
theorem dX3_readClause_28 : decode cX3_readClause 28 = .ok (.iload_n 1, 1) := dchk_at dall_X3_readClause_27_rd02_0 (k := 21) rfl
theorem dX3_readClause_29 : decode cX3_readClause 29 = .ok (.ifCond .lt 23, 3) := dchk_at dall_X3_readClause_27_rd02_0 (k := 22) rfl
theorem dX3_readClause_52 : decode cX3_readClause 52 = .ok (.aload_n 0, 1) := dchk_at dall_X3_readClause_27_rd02_0 (k := 23) rfl
theorem dX3_readClause_53 : decode cX3_readClause 53 = .ok (.aload_n 0, 1) := dchk_at dall_X3_readClause_27_rd02_0 (k := 24) rfl
theorem dX3_readClause_54 : decode cX3_readClause 54 = .ok (.getfield 34, 3) := dchk_at dall_X3_readClause_27_rd02_0 (k := 25) rfl
theorem dX3_readClause_57 : decode cX3_readClause 57 = .ok (.invokevirtual 87, 3) := dchk_at dall_X3_readClause_27_rd02_0 (k := 26) rfl
theorem dX3_readClause_60 : decode cX3_readClause 60 = .ok (.ireturn, 1) := dchk_at dall_X3_readClause_27_rd02_0 (k := 27) rfl
theorem dX3_readClause_32 : decode cX3_readClause 32 = .ok (.iload_n 1, 1) := dchk_at dall_X3_readClause_27_rd02_0 (k := 28) rfl
theorem dX3_readClause_33 : decode cX3_readClause 33 = .ok (.aload_n 0, 1) := dchk_at dall_X3_readClause_27_rd02_0 (k := 29) rfl
theorem dX3_readClause_34 : decode cX3_readClause 34 = .ok (.getfield 9, 3) := dchk_at dall_X3_readClause_27_rd02_0 (k := 30) rfl
theorem dX3_readClause_37 : decode cX3_readClause 37 = .ok (.arraylength, 1) := dchk_at dall_X3_readClause_27_rd02_0 (k := 31) rfl
theorem dX3_readClause_38 : decode cX3_readClause 38 = .ok (.if_icmp .ge 14, 3) := dchk_at dall_X3_readClause_27_rd02_0 (k := 32) rfl
theorem dX3_readClause_41 : decode cX3_readClause 41 = .ok (.aload_n 0, 1) := dchk_at dall_X3_readClause_27_rd02_0 (k := 33) rfl
theorem dX3_readClause_42 : decode cX3_readClause 42 = .ok (.getfield 28, 3) := dchk_at dall_X3_readClause_27_rd02_0 (k := 34) rfl
theorem dX3_readClause_45 : decode cX3_readClause 45 = .ok (.iload_n 1, 1) := dchk_at dall_X3_readClause_27_rd02_0 (k := 35) rfl
theorem dX3_readClause_46 : decode cX3_readClause 46 = .ok (.ishr, 1) := dchk_at dall_X3_readClause_27_rd02_0 (k := 36) rfl
theorem dX3_readClause_47 : decode cX3_readClause 47 = .ok (.iconst 1, 1) := dchk_at dall_X3_readClause_27_rd02_0 (k := 37) rfl
theorem dX3_readClause_48 : decode cX3_readClause 48 = .ok (.iand, 1) := dchk_at dall_X3_readClause_27_rd02_0 (k := 38) rfl
theorem dX3_readClause_49 : decode cX3_readClause 49 = .ok (.ifCond .eq 12, 3) := dchk_at dall_X3_readClause_27_rd02_0 (k := 39) rfl
theorem dX3_readClause_61 : decode cX3_readClause 61 = .ok (.aload_n 0, 1) := dchk_at dall_X3_readClause_27_rd02_0 (k := 40) rfl
theorem dX3_readClause_62 : decode cX3_readClause 62 = .ok (.dup, 1) := dchk_at dall_X3_readClause_27_rd02_0 (k := 41) rfl
theorem dX3_readClause_63 : decode cX3_readClause 63 = .ok (.getfield 28, 3) := dchk_at dall_X3_readClause_27_rd02_0 (k := 42) rfl
theorem dX3_readClause_66 : decode cX3_readClause 66 = .ok (.iconst 1, 1) := dchk_at dall_X3_readClause_27_rd02_0 (k := 43) rfl
theorem dX3_readClause_67 : decode cX3_readClause 67 = .ok (.iload_n 1, 1) := dchk_at dall_X3_readClause_27_rd02_0 (k := 44) rfl
theorem dX3_readClause_68 : decode cX3_readClause 68 = .ok (.ishl, 1) := dchk_at dall_X3_readClause_27_rd02_0 (k := 45) rfl
theorem dX3_readClause_69 : decode cX3_readClause 69 = .ok (.ior, 1) := dchk_at dall_X3_readClause_27_rd02_0 (k := 46) rfl
theorem dX3_readClause_70 : decode cX3_readClause 70 = .ok (.putfield 28, 3) := dchk_at dall_X3_readClause_27_rd02_0 (k := 47) rfl
theorem dX3_readClause_73 : decode cX3_readClause 73 = .ok (.iload_n 1, 1) := dchk_at dall_X3_readClause_27_rd02_0 (k := 48) rfl
theorem dX3_readClause_74 : decode cX3_readClause 74 = .ok (.ifCond .ne 10, 3) := dchk_at dall_X3_readClause_27_rd02_0 (k := 49) rfl
def dl_X3_readClause_27_rd02_1 : List (Nat × Instr × Nat) := [(84, .iload_n 1, 1), (85, .iconst 1, 1), (86, .if_icmp .ne 14, 3), (100, .aload_n 0, 1), (101, .iconst 1, 1), (102, .sipush 9999, 3), (105, .invokevirtual 96, 3), (89, .aload_n 0, 1), (90, .ldc 94, 2), (92, .ldc 95, 2), (94, .invokevirtual 96, 3), (97, .goto 11, 3), (77, .aload_n 0, 1), (78, .invokevirtual 91, 3), (81, .goto 27, 3), (18, .aload_n 0, 1), (19, .invokevirtual 80, 3), (22, .ireturn, 1), (7, .iconst 0, 1), (8, .ireturn, 1)]
set_option maxRecDepth 100000 in
theorem dall_X3_readClause_27_rd02_1 : dchk cX3_readClause dl_X3_readClause_27_rd02_1 = true := by decide +kernel
theorem dX3_readClause_84 : decode cX3_readClause 84 = .ok (.iload_n 1, 1) := dchk_at dall_X3_readClause_27_rd02_1 (k := 0) rfl
theorem dX3_readClause_85 : decode cX3_readClause 85 = .ok (.iconst 1, 1) := dchk_at dall_X3_readClause_27_rd02_1 (k := 1) rfl
theorem dX3_readClause_86 : decode cX3_readClause 86 = .ok (.if_icmp .ne 14, 3) := dchk_at dall_X3_readClause_27_rd02_1 (k := 2) rfl
theorem dX3_readClause_100 : decode cX3_readClause 100 = .ok (.aload_n 0, 1) := dchk_at dall_X3_readClause_27_rd02_1 (k := 3) rfl
theorem dX3_readClause_101 : decode cX3_readClause 101 = .ok (.iconst 1, 1) := dchk_at dall_X3_readClause_27_rd02_1 (k := 4) rfl
theorem dX3_readClause_102 : decode cX3_readClause 102 = .ok (.sipush 9999, 3) := dchk_at dall_X3_readClause_27_rd02_1 (k := 5) rfl
theorem dX3_readClause_105 : decode cX3_readClause 105 = .ok (.invokevirtual 96, 3) := dchk_at dall_X3_readClause_27_rd02_1 (k := 6) rfl
theorem dX3_readClause_89 : decode cX3_readClause 89 = .ok (.aload_n 0, 1) := dchk_at dall_X3_readClause_27_rd02_1 (k := 7) rfl
theorem dX3_readClause_90 : decode cX3_readClause 90 = .ok (.ldc 94, 2) := dchk_at dall_X3_readClause_27_rd02_1 (k := 8) rfl
theorem dX3_readClause_92 : decode cX3_readClause 92 = .ok (.ldc 95, 2) := dchk_at dall_X3_readClause_27_rd02_1 (k := 9) rfl
theorem dX3_readClause_94 : decode cX3_readClause 94 = .ok (.invokevirtual 96, 3) := dchk_at dall_X3_readClause_27_rd02_1 (k := 10) rfl
theorem dX3_readClause_97 : decode cX3_readClause 97 = .ok (.goto 11, 3) := dchk_at dall_X3_readClause_27_rd02_1 (k := 11) rfl
theorem dX3_readClause_77 : decode cX3_readClause 77 = .ok (.aload_n 0, 1) := dchk_at dall_X3_readClause_27_rd02_1 (k := 12) rfl
theorem dX3_readClause_78 : decode cX3_readClause 78 = .ok (.invokevirtual 91, 3) := dchk_at dall_X3_readClause_27_rd02_1 (k := 13) rfl
theorem dX3_readClause_81 : decode cX3_readClause 81 = .ok (.goto 27, 3) := dchk_at dall_X3_readClause_27_rd02_1 (k := 14) rfl
theorem dX3_readClause_18 : decode cX3_readClause 18 = .ok (.aload_n 0, 1) := dchk_at dall_X3_readClause_27_rd02_1 (k := 15) rfl
theorem dX3_readClause_19 : decode cX3_readClause 19 = .ok (.invokevirtual 80, 3) := dchk_at dall_X3_readClause_27_rd02_1 (k := 16) rfl
theorem dX3_readClause_22 : decode cX3_readClause 22 = .ok (.ireturn, 1) := dchk_at dall_X3_readClause_27_rd02_1 (k := 17) rfl
theorem dX3_readClause_7 : decode cX3_readClause 7 = .ok (.iconst 0, 1) := dchk_at dall_X3_readClause_27_rd02_1 (k := 18) rfl
theorem dX3_readClause_8 : decode cX3_readClause 8 = .ok (.ireturn, 1) := dchk_at dall_X3_readClause_27_rd02_1 (k := 19) rfl
def dl_X3_start_27_rd02_0 : List (Nat × Instr × Nat) := [(0, .aload_n 0, 1), (1, .getfield 9, 3), (4, .iconst 0, 1), (5, .iconst 0, 1), (6, .iastore, 1), (7, .aload_n 0, 1), (8, .getfield 9, 3), (11, .iconst 1, 1), (12, .sipush 1000, 3), (15, .iastore, 1), (16, .aload_n 0, 1), (17, .getfield 9, 3), (20, .iconst 2, 1), (21, .bipush 100, 2), (23, .iastore, 1), (24, .aload_n 0, 1), (25, .iconst 0, 1), (26, .putfield 21, 3), (29, .aload_n 0, 1), (30, .iconst 0, 1), (31, .putfield 25, 3), (34, .aload_n 0, 1), (35, .iconst 0, 1), (36, .putfield 28, 3), (39, .aload_n 0, 1), (40, .iconst 0, 1), (41, .putfield 31, 3), (44, .aload_n 0, 1), (45, .iconst (-1), 1), (46, .putfield 40, 3), (49, .return_, 1)]
set_option maxRecDepth 100000 in
theorem dall_X3_start_27_rd02_0 : dchk cX3_start dl_X3_start_27_rd02_0 = true := by decide +kernel
theorem dX3_start_0 : decode cX3_start 0 = .ok (.aload_n 0, 1) := dchk_at dall_X3_start_27_rd02_0 (k := 0) rfl
theorem dX3_start_1 : decode cX3_start 1 = .ok (.getfield 9, 3) := dchk_at dall_X3_start_27_rd02_0 (k := 1) rfl
theorem dX3_start_4 : decode cX3_start 4 = .ok (.iconst 0, 1) := dchk_at dall_X3_start_27_rd02_0 (k := 2) rfl
theorem dX3_start_5 : decode cX3_start 5 = .ok (.iconst 0, 1) := dchk_at dall_X3_start_27_rd02_0 (k := 3) rfl
theorem dX3_start_6 : decode cX3_start 6 = .ok (.iastore, 1) := dchk_at dall_X3_start_27_rd02_0 (k := 4) rfl
theorem dX3_start_7 : decode cX3_start 7 = .ok (.aload_n 0, 1) := dchk_at dall_X3_start_27_rd02_0 (k := 5) rfl
theorem dX3_start_8 : decode cX3_start 8 = .ok (.getfield 9, 3) := dchk_at dall_X3_start_27_rd02_0 (k := 6) rfl
theorem dX3_start_11 : decode cX3_start 11 = .ok (.iconst 1, 1) := dchk_at dall_X3_start_27_rd02_0 (k := 7) rfl
theorem dX3_start_12 : decode cX3_start 12 = .ok (.sipush 1000, 3) := dchk_at dall_X3_start_27_rd02_0 (k := 8) rfl
theorem dX3_start_15 : decode cX3_start 15 = .ok (.iastore, 1) := dchk_at dall_X3_start_27_rd02_0 (k := 9) rfl
theorem dX3_start_16 : decode cX3_start 16 = .ok (.aload_n 0, 1) := dchk_at dall_X3_start_27_rd02_0 (k := 10) rfl
theorem dX3_start_17 : decode cX3_start 17 = .ok (.getfield 9, 3) := dchk_at dall_X3_start_27_rd02_0 (k := 11) rfl
theorem dX3_start_20 : decode cX3_start 20 = .ok (.iconst 2, 1) := dchk_at dall_X3_start_27_rd02_0 (k := 12) rfl
theorem dX3_start_21 : decode cX3_start 21 = .ok (.bipush 100, 2) := dchk_at dall_X3_start_27_rd02_0 (k := 13) rfl
theorem dX3_start_23 : decode cX3_start 23 = .ok (.iastore, 1) := dchk_at dall_X3_start_27_rd02_0 (k := 14) rfl
theorem dX3_start_24 : decode cX3_start 24 = .ok (.aload_n 0, 1) := dchk_at dall_X3_start_27_rd02_0 (k := 15) rfl
theorem dX3_start_25 : decode cX3_start 25 = .ok (.iconst 0, 1) := dchk_at dall_X3_start_27_rd02_0 (k := 16) rfl
theorem dX3_start_26 : decode cX3_start 26 = .ok (.putfield 21, 3) := dchk_at dall_X3_start_27_rd02_0 (k := 17) rfl
theorem dX3_start_29 : decode cX3_start 29 = .ok (.aload_n 0, 1) := dchk_at dall_X3_start_27_rd02_0 (k := 18) rfl
theorem dX3_start_30 : decode cX3_start 30 = .ok (.iconst 0, 1) := dchk_at dall_X3_start_27_rd02_0 (k := 19) rfl
theorem dX3_start_31 : decode cX3_start 31 = .ok (.putfield 25, 3) := dchk_at dall_X3_start_27_rd02_0 (k := 20) rfl
theorem dX3_start_34 : decode cX3_start 34 = .ok (.aload_n 0, 1) := dchk_at dall_X3_start_27_rd02_0 (k := 21) rfl
theorem dX3_start_35 : decode cX3_start 35 = .ok (.iconst 0, 1) := dchk_at dall_X3_start_27_rd02_0 (k := 22) rfl
theorem dX3_start_36 : decode cX3_start 36 = .ok (.putfield 28, 3) := dchk_at dall_X3_start_27_rd02_0 (k := 23) rfl
theorem dX3_start_39 : decode cX3_start 39 = .ok (.aload_n 0, 1) := dchk_at dall_X3_start_27_rd02_0 (k := 24) rfl
theorem dX3_start_40 : decode cX3_start 40 = .ok (.iconst 0, 1) := dchk_at dall_X3_start_27_rd02_0 (k := 25) rfl
theorem dX3_start_41 : decode cX3_start 41 = .ok (.putfield 31, 3) := dchk_at dall_X3_start_27_rd02_0 (k := 26) rfl
theorem dX3_start_44 : decode cX3_start 44 = .ok (.aload_n 0, 1) := dchk_at dall_X3_start_27_rd02_0 (k := 27) rfl
theorem dX3_start_45 : decode cX3_start 45 = .ok (.iconst (-1), 1) := dchk_at dall_X3_start_27_rd02_0 (k := 28) rfl
theorem dX3_start_46 : decode cX3_start 46 = .ok (.putfield 40, 3) := dchk_at dall_X3_start_27_rd02_0 (k := 29) rfl
theorem dX3_start_49 : decode cX3_start 49 = .ok (.return_, 1) := dchk_at dall_X3_start_27_rd02_0 (k := 30) rfl
def dl_X3_stepOfWord_27_rd02_0 : List (Nat × Instr × Nat) := [(0, .aload_n 0, 1), (1, .ldc 121, 2), (3, .invokevirtual 76, 3), (6, .ifCond .eq 5, 3), (11, .aload_n 0, 1), (12, .ldc 123, 2), (14, .invokevirtual 76, 3), (17, .ifCond .eq 5, 3), (22, .aload_n 0, 1), (23, .ldc 102, 2), (25, .invokevirtual 76, 3), (28, .ifCond .eq 5, 3), (33, .aload_n 0, 1), (34, .ldc 100, 2), (36, .invokevirtual 76, 3), (39, .ifCond .eq 5, 3), (44, .aload_n 0, 1), (45, .ldc 125, 2), (47, .invokevirtual 76, 3), (50, .ifCond .eq 5, 3), (55, .aload_n 0, 1), (56, .ldc 104, 2), (58, .invokevirtual 76, 3), (61, .ifCond .eq 5, 3), (66, .aload_n 0, 1), (67, .ldc 127, 2), (69, .invokevirtual 76, 3), (72, .ifCond .eq 8, 3), (80, .iconst (-1), 1), (81, .ireturn, 1), (75, .bipush 6, 2), (77, .goto 4, 3), (64, .iconst 5, 1), (65, .ireturn, 1), (53, .iconst 4, 1), (54, .ireturn, 1), (42, .iconst 3, 1), (43, .ireturn, 1), (31, .iconst 2, 1), (32, .ireturn, 1), (20, .iconst 1, 1), (21, .ireturn, 1), (9, .iconst 0, 1), (10, .ireturn, 1)]
set_option maxRecDepth 100000 in
theorem dall_X3_stepOfWord_27_rd02_0 : dchk cX3_stepOfWord dl_X3_stepOfWord_27_rd02_0 = true := by decide +kernel
theorem dX3_stepOfWord_0 : decode cX3_stepOfWord 0 = .ok (.aload_n 0, 1) := dchk_at dall_X3_stepOfWord_27_rd02_0 (k := 0) rfl
theorem dX3_stepOfWord_1 : decode cX3_stepOfWord 1 = .ok (.ldc 121, 2) := dchk_at dall_X3_stepOfWord_27_rd02_0 (k := 1) rfl
theorem dX3_stepOfWord_3 : decode cX3_stepOfWord 3 = .ok (.invokevirtual 76, 3) := dchk_at dall_X3_stepOfWord_27_rd02_0 (k := 2) rfl
theorem dX3_stepOfWord_6 : decode cX3_stepOfWord 6 = .ok (.ifCond .eq 5, 3) := dchk_at dall_X3_stepOfWord_27_rd02_0 (k := 3) rfl
theorem dX3_stepOfWord_11 : decode cX3_stepOfWord 11 = .ok (.aload_n 0, 1) := dchk_at dall_X3_stepOfWord_27_rd02_0 (k := 4) rfl
theorem dX3_stepOfWord_12 : decode cX3_stepOfWord 12 = .ok (.ldc 123, 2) := dchk_at dall_X3_stepOfWord_27_rd02_0 (k := 5) rfl
theorem dX3_stepOfWord_14 : decode cX3_stepOfWord 14 = .ok (.invokevirtual 76, 3) := dchk_at dall_X3_stepOfWord_27_rd02_0 (k := 6) rfl
theorem dX3_stepOfWord_17 : decode cX3_stepOfWord 17 = .ok (.ifCond .eq 5, 3) := dchk_at dall_X3_stepOfWord_27_rd02_0 (k := 7) rfl
theorem dX3_stepOfWord_22 : decode cX3_stepOfWord 22 = .ok (.aload_n 0, 1) := dchk_at dall_X3_stepOfWord_27_rd02_0 (k := 8) rfl
theorem dX3_stepOfWord_23 : decode cX3_stepOfWord 23 = .ok (.ldc 102, 2) := dchk_at dall_X3_stepOfWord_27_rd02_0 (k := 9) rfl
theorem dX3_stepOfWord_25 : decode cX3_stepOfWord 25 = .ok (.invokevirtual 76, 3) := dchk_at dall_X3_stepOfWord_27_rd02_0 (k := 10) rfl
theorem dX3_stepOfWord_28 : decode cX3_stepOfWord 28 = .ok (.ifCond .eq 5, 3) := dchk_at dall_X3_stepOfWord_27_rd02_0 (k := 11) rfl
theorem dX3_stepOfWord_33 : decode cX3_stepOfWord 33 = .ok (.aload_n 0, 1) := dchk_at dall_X3_stepOfWord_27_rd02_0 (k := 12) rfl
theorem dX3_stepOfWord_34 : decode cX3_stepOfWord 34 = .ok (.ldc 100, 2) := dchk_at dall_X3_stepOfWord_27_rd02_0 (k := 13) rfl
theorem dX3_stepOfWord_36 : decode cX3_stepOfWord 36 = .ok (.invokevirtual 76, 3) := dchk_at dall_X3_stepOfWord_27_rd02_0 (k := 14) rfl
theorem dX3_stepOfWord_39 : decode cX3_stepOfWord 39 = .ok (.ifCond .eq 5, 3) := dchk_at dall_X3_stepOfWord_27_rd02_0 (k := 15) rfl
theorem dX3_stepOfWord_44 : decode cX3_stepOfWord 44 = .ok (.aload_n 0, 1) := dchk_at dall_X3_stepOfWord_27_rd02_0 (k := 16) rfl
theorem dX3_stepOfWord_45 : decode cX3_stepOfWord 45 = .ok (.ldc 125, 2) := dchk_at dall_X3_stepOfWord_27_rd02_0 (k := 17) rfl
theorem dX3_stepOfWord_47 : decode cX3_stepOfWord 47 = .ok (.invokevirtual 76, 3) := dchk_at dall_X3_stepOfWord_27_rd02_0 (k := 18) rfl
theorem dX3_stepOfWord_50 : decode cX3_stepOfWord 50 = .ok (.ifCond .eq 5, 3) := dchk_at dall_X3_stepOfWord_27_rd02_0 (k := 19) rfl
theorem dX3_stepOfWord_55 : decode cX3_stepOfWord 55 = .ok (.aload_n 0, 1) := dchk_at dall_X3_stepOfWord_27_rd02_0 (k := 20) rfl
theorem dX3_stepOfWord_56 : decode cX3_stepOfWord 56 = .ok (.ldc 104, 2) := dchk_at dall_X3_stepOfWord_27_rd02_0 (k := 21) rfl
theorem dX3_stepOfWord_58 : decode cX3_stepOfWord 58 = .ok (.invokevirtual 76, 3) := dchk_at dall_X3_stepOfWord_27_rd02_0 (k := 22) rfl
theorem dX3_stepOfWord_61 : decode cX3_stepOfWord 61 = .ok (.ifCond .eq 5, 3) := dchk_at dall_X3_stepOfWord_27_rd02_0 (k := 23) rfl
theorem dX3_stepOfWord_66 : decode cX3_stepOfWord 66 = .ok (.aload_n 0, 1) := dchk_at dall_X3_stepOfWord_27_rd02_0 (k := 24) rfl
theorem dX3_stepOfWord_67 : decode cX3_stepOfWord 67 = .ok (.ldc 127, 2) := dchk_at dall_X3_stepOfWord_27_rd02_0 (k := 25) rfl
theorem dX3_stepOfWord_69 : decode cX3_stepOfWord 69 = .ok (.invokevirtual 76, 3) := dchk_at dall_X3_stepOfWord_27_rd02_0 (k := 26) rfl
theorem dX3_stepOfWord_72 : decode cX3_stepOfWord 72 = .ok (.ifCond .eq 8, 3) := dchk_at dall_X3_stepOfWord_27_rd02_0 (k := 27) rfl
theorem dX3_stepOfWord_80 : decode cX3_stepOfWord 80 = .ok (.iconst (-1), 1) := dchk_at dall_X3_stepOfWord_27_rd02_0 (k := 28) rfl
theorem dX3_stepOfWord_81 : decode cX3_stepOfWord 81 = .ok (.ireturn, 1) := dchk_at dall_X3_stepOfWord_27_rd02_0 (k := 29) rfl
theorem dX3_stepOfWord_75 : decode cX3_stepOfWord 75 = .ok (.bipush 6, 2) := dchk_at dall_X3_stepOfWord_27_rd02_0 (k := 30) rfl
theorem dX3_stepOfWord_77 : decode cX3_stepOfWord 77 = .ok (.goto 4, 3) := dchk_at dall_X3_stepOfWord_27_rd02_0 (k := 31) rfl
theorem dX3_stepOfWord_64 : decode cX3_stepOfWord 64 = .ok (.iconst 5, 1) := dchk_at dall_X3_stepOfWord_27_rd02_0 (k := 32) rfl
theorem dX3_stepOfWord_65 : decode cX3_stepOfWord 65 = .ok (.ireturn, 1) := dchk_at dall_X3_stepOfWord_27_rd02_0 (k := 33) rfl
theorem dX3_stepOfWord_53 : decode cX3_stepOfWord 53 = .ok (.iconst 4, 1) := dchk_at dall_X3_stepOfWord_27_rd02_0 (k := 34) rfl
theorem dX3_stepOfWord_54 : decode cX3_stepOfWord 54 = .ok (.ireturn, 1) := dchk_at dall_X3_stepOfWord_27_rd02_0 (k := 35) rfl
theorem dX3_stepOfWord_42 : decode cX3_stepOfWord 42 = .ok (.iconst 3, 1) := dchk_at dall_X3_stepOfWord_27_rd02_0 (k := 36) rfl
theorem dX3_stepOfWord_43 : decode cX3_stepOfWord 43 = .ok (.ireturn, 1) := dchk_at dall_X3_stepOfWord_27_rd02_0 (k := 37) rfl
theorem dX3_stepOfWord_31 : decode cX3_stepOfWord 31 = .ok (.iconst 2, 1) := dchk_at dall_X3_stepOfWord_27_rd02_0 (k := 38) rfl
theorem dX3_stepOfWord_32 : decode cX3_stepOfWord 32 = .ok (.ireturn, 1) := dchk_at dall_X3_stepOfWord_27_rd02_0 (k := 39) rfl
theorem dX3_stepOfWord_20 : decode cX3_stepOfWord 20 = .ok (.iconst 1, 1) := dchk_at dall_X3_stepOfWord_27_rd02_0 (k := 40) rfl
theorem dX3_stepOfWord_21 : decode cX3_stepOfWord 21 = .ok (.ireturn, 1) := dchk_at dall_X3_stepOfWord_27_rd02_0 (k := 41) rfl
theorem dX3_stepOfWord_9 : decode cX3_stepOfWord 9 = .ok (.iconst 0, 1) := dchk_at dall_X3_stepOfWord_27_rd02_0 (k := 42) rfl
theorem dX3_stepOfWord_10 : decode cX3_stepOfWord 10 = .ok (.ireturn, 1) := dchk_at dall_X3_stepOfWord_27_rd02_0 (k := 43) rfl
def F_X3_ruleOfWord (K : Nat) (c_tape_bytes : Nat → Int32) (c_tape_length : Int32) (c_at : Int32) (c_wordStart : Int32) : Option (Int32) :=
  bd1 (F_X3_isWord K 1 c_tape_bytes c_tape_length c_at c_wordStart) (fun r_1 => if r_1 = (0 : Int32) then bd1 (F_X3_isWord K 2 c_tape_bytes c_tape_length c_at c_wordStart) (fun r_5 => if r_5 = (0 : Int32) then bd1 (F_X3_isWord K 3 c_tape_bytes c_tape_length c_at c_wordStart) (fun r_9 => if r_9 = (0 : Int32) then some (-1 : Int32) else some (2 : Int32)) else some (1 : Int32)) else some (0 : Int32))
abbrev w_X3_ruleOfWord (E : EE) (a_ a_tape a_rules a_places a_steps a_tape_bytes : Nat) (c_siteCount : Int32) (c_stepCount : Int32) (c_seenRules : Int32) (c_at : Int32) (c_wordStart : Int32) (c_number : Int32) (c_failed : Int32) (c_tape_length : Int32) (c_tape_bytes : Nat → Int32) : va_W := [(a_, .inr (4, [.ref a_tape, .ref a_rules, .ref a_places, .ref a_steps, .int c_siteCount, .int c_stepCount, .int c_seenRules, .int c_at, .int c_wordStart, .int c_number, .int c_failed])), (a_tape, .inr (7, [.ref a_tape_bytes, .int c_tape_length])), (a_tape_bytes, .inl (E.2.2.1, 320, .inl c_tape_bytes))]
def v_f_X3_ruleOfWord : List Cond := .code yX3_ruleOfWord cX3_ruleOfWord 1 (some .int) :: ([.methodLink RX3 76 yX3_isWord, .instanceMethod yX3_isWord, .selects RX3 yX3_isWord yX3_isWord, .initialized RX3] ++ (v_f_X3_isWord ++ ([])))
theorem gw_f_X3_ruleOfWord : v_f_X3_ruleOfWord.all goodWord = true := by decide +kernel
theorem g_f_X3_ruleOfWord_f_X3_isWord_76 : GoodIn v_f_X3_ruleOfWord (wsV RX3 76 RX3 yX3_isWord v_f_X3_isWord) := goodIn_app (goodIn_of _ (by decide +kernel)) (goodIn_sub (fun _ h => List.mem_cons_of_mem _ (List.mem_append_right _ (List.mem_append_left _ h))) gw_f_X3_isWord)
theorem hd_X3_ruleOfWord : yX3_ruleOfWord.cls = RX3 ∧ yX3_ruleOfWord.cls ≠ "java/lang/invoke/MethodHandle" ∧ yX3_ruleOfWord.cls ≠ "java/lang/invoke/VarHandle" ∧ (parseMethodDescriptor yX3_ruleOfWord.desc).map (fun d => d.parameters.length) = some 0 := by decide +kernel
set_option maxHeartbeats 4000000 in
set_option maxRecDepth 100000 in
theorem f_X3_ruleOfWord (l : Launch) (E : EE) (K : Nat) (z9 : Nat → Nat) {a_ a_tape a_rules a_places a_steps a_tape_bytes : Nat} {c_siteCount : Int32} {c_stepCount : Int32} {c_seenRules : Int32} {c_at : Int32} {c_wordStart : Int32} {c_number : Int32} {c_failed : Int32} {c_tape_length : Int32} {c_tape_bytes : Nat → Int32} {rr : Int32} (hF : F_X3_ruleOfWord K c_tape_bytes c_tape_length c_at c_wordStart = some rr) : Met l yX3_ruleOfWord v_f_X3_ruleOfWord (({ frames := 5, cells := 0, slots := 0, locals := 107 } : Room)) (va_Pc [.ref a_] (qPZ E z9 (w_X3_ruleOfWord E a_ a_tape a_rules a_places a_steps a_tape_bytes c_siteCount c_stepCount c_seenRules c_at c_wordStart c_number c_failed c_tape_length c_tape_bytes))) (vp_Si (fun q : Int32 => q = rr)) 0 0 (fun _ => False) := by
  refine Met.ofW (cc := cX3_ruleOfWord) (maxL := 1) (ret := (some .int)) (by decide) rfl ?_
  intro p e s m args below meth c s₁ B hml hv
  obtain ⟨rfl, ⟨hK, hN⟩, hP, hZ⟩ := hv
  have hx := B.exec
  have hb := B.bytes
  have hr := B.returns
  have hts := atoms_spec (ws := v_f_X3_ruleOfWord) B.pre
  have hown : s.vm.findClass RX3 = some m.cls := own_of hd_X3_ruleOfWord.1 (findClass_of_methodNamed B.named)
  have hlocks : meth.locks = false := B.notSynchronized
  replace hP : va_P E.1 vwCl [(a_, .inr (4, [.ref a_tape, .ref a_rules, .ref a_places, .ref a_steps, .int c_siteCount, .int c_stepCount, .int c_seenRules, .int c_at, .int c_wordStart, .int c_number, .int c_failed])), (a_tape, .inr (7, [.ref a_tape_bytes, .int c_tape_length])), (a_tape_bytes, .inl (E.2.2.1, 320, .inl c_tape_bytes))] s.heap := hP
  have hl := lv_entry ([.ref a_]) (n := 1) (Nat.le_of_ble_eq_true rfl)
  rw [lg_entry_eq]
  generalize (lg_sl ([.ref a_]) ++ List.replicate (1 - (lg_sl ([.ref a_])).length) Slot.unset).toArray = ls at hl ⊢
  have hl : lv_has ls 1 [(0, .ref a_)] := hl
  obtain ⟨Q, hQ⟩ : ∃ Q : State → Prop, Q = MQ below (vp_Si (fun q : Int32 => q = rr)) #[Value.ref a_] s 0 0 (fun _ => False) := ⟨_, rfl⟩
  rw [← hQ]
  change W p l e ({ frames := 5, cells := 0, slots := 0, locals := 107 } : Room) s m #[Value.ref a_] below meth c s.heap [] 0 0 Q (F0 m 0 ls [])
  unfold F_X3_ruleOfWord at hF
  refine lv_aload_n hx hb dX3_ruleOfWord_0 rfl (lv_at hl 0 rfl) ?_
  refine va_ldcS hx hb hown (ZZ.s1 hZ) dX3_ruleOfWord_1 ?_
  replace hF := bd1_s hF
  obtain ⟨r_1, hc_2, hF⟩ := hF
  have hPc : va_P E.1 vwCl (w_X3_isWord E a_ a_tape a_rules a_places a_steps a_tape_bytes c_siteCount c_stepCount c_seenRules c_at c_wordStart c_number c_failed c_tape_length c_tape_bytes) s.heap := hP.sub (ws' := [(a_, .inr (4, [.ref a_tape, .ref a_rules, .ref a_places, .ref a_steps, .int c_siteCount, .int c_stepCount, .int c_seenRules, .int c_at, .int c_wordStart, .int c_number, .int c_failed])), (a_tape, .inr (7, [.ref a_tape_bytes, .int c_tape_length])), (a_tape_bytes, .inl (E.2.2.1, 320, .inl c_tape_bytes))]) [0, 1, 2] rfl
  have hrc := va_recv hK hPc (ci := 4) (q0 := 0) rfl rfl
  refine pE_z (va_runV (As := [.ref (z9 (20 + 1))]) (rest := [])  ⟨hx, hb, hml, hown, hts⟩ (f_X3_isWord l E K z9 (a_ := a_) (a_tape := a_tape) (a_rules := a_rules) (a_places := a_places) (a_steps := a_steps) (a_tape_bytes := a_tape_bytes) (p1 := 1) (c_siteCount := c_siteCount) (c_stepCount := c_stepCount) (c_seenRules := c_seenRules) (c_at := c_at) (c_wordStart := c_wordStart) (c_number := c_number) (c_failed := c_failed) (c_tape_length := c_tape_length) (c_tape_bytes := c_tape_bytes) hc_2) (cwV 1 hts g_f_X3_ruleOfWord_f_X3_isWord_76 rfl rfl rfl hd_X3_isWord ⟨Nat.le_of_ble_eq_true rfl, Nat.le_of_ble_eq_true rfl⟩) ⟨qPZ.blind, hrc, (qPZ.pre0 ⟨hK, hN⟩ hPc hZ)⟩ rfl rfl hl.1 rfl (lv_room (Nat.le_of_ble_eq_true rfl)) dX3_ruleOfWord_3 ⟨Nat.le_of_ble_eq_true rfl, Nat.le_of_ble_eq_true rfl⟩) (fun hb_3 => ?_)
  refine lv_if_eq (tgt := 11) hx hb dX3_ruleOfWord_6 (by decide) (fun c_4 => ?_) (fun c_4 => ?_)
  ·
    replace hF := ip c_4 hF
    refine lv_aload_n hx hb dX3_ruleOfWord_11 rfl (lv_at hl 0 rfl) ?_
    refine va_ldcS hx hb hown (ZZ.s2 hZ) dX3_ruleOfWord_12 ?_
    replace hF := bd1_s hF
    obtain ⟨r_5, hc_6, hF⟩ := hF
    have hPc : va_P E.1 vwCl (w_X3_isWord E a_ a_tape a_rules a_places a_steps a_tape_bytes c_siteCount c_stepCount c_seenRules c_at c_wordStart c_number c_failed c_tape_length c_tape_bytes) s.heap := hP.sub (ws' := [(a_, .inr (4, [.ref a_tape, .ref a_rules, .ref a_places, .ref a_steps, .int c_siteCount, .int c_stepCount, .int c_seenRules, .int c_at, .int c_wordStart, .int c_number, .int c_failed])), (a_tape, .inr (7, [.ref a_tape_bytes, .int c_tape_length])), (a_tape_bytes, .inl (E.2.2.1, 320, .inl c_tape_bytes))]) [0, 1, 2] rfl
    have hrc := va_recv hK hPc (ci := 4) (q0 := 0) rfl rfl
    refine pE_z (va_runV (As := [.ref (z9 (20 + 2))]) (rest := [])  ⟨hx, hb, hml, hown, hts⟩ (f_X3_isWord l E K z9 (a_ := a_) (a_tape := a_tape) (a_rules := a_rules) (a_places := a_places) (a_steps := a_steps) (a_tape_bytes := a_tape_bytes) (p1 := 2) (c_siteCount := c_siteCount) (c_stepCount := c_stepCount) (c_seenRules := c_seenRules) (c_at := c_at) (c_wordStart := c_wordStart) (c_number := c_number) (c_failed := c_failed) (c_tape_length := c_tape_length) (c_tape_bytes := c_tape_bytes) hc_6) (cwV 1 hts g_f_X3_ruleOfWord_f_X3_isWord_76 rfl rfl rfl hd_X3_isWord ⟨Nat.le_of_ble_eq_true rfl, Nat.le_of_ble_eq_true rfl⟩) ⟨qPZ.blind, hrc, (qPZ.pre0 ⟨hK, hN⟩ hPc hZ)⟩ rfl rfl hl.1 rfl (lv_room (Nat.le_of_ble_eq_true rfl)) dX3_ruleOfWord_14 ⟨Nat.le_of_ble_eq_true rfl, Nat.le_of_ble_eq_true rfl⟩) (fun hb_7 => ?_)
    refine lv_if_eq (tgt := 22) hx hb dX3_ruleOfWord_17 (by decide) (fun c_8 => ?_) (fun c_8 => ?_)
    ·
      replace hF := ip c_8 hF
      refine lv_aload_n hx hb dX3_ruleOfWord_22 rfl (lv_at hl 0 rfl) ?_
      refine va_ldcS hx hb hown (ZZ.s3 hZ) dX3_ruleOfWord_23 ?_
      replace hF := bd1_s hF
      obtain ⟨r_9, hc_10, hF⟩ := hF
      have hPc : va_P E.1 vwCl (w_X3_isWord E a_ a_tape a_rules a_places a_steps a_tape_bytes c_siteCount c_stepCount c_seenRules c_at c_wordStart c_number c_failed c_tape_length c_tape_bytes) s.heap := hP.sub (ws' := [(a_, .inr (4, [.ref a_tape, .ref a_rules, .ref a_places, .ref a_steps, .int c_siteCount, .int c_stepCount, .int c_seenRules, .int c_at, .int c_wordStart, .int c_number, .int c_failed])), (a_tape, .inr (7, [.ref a_tape_bytes, .int c_tape_length])), (a_tape_bytes, .inl (E.2.2.1, 320, .inl c_tape_bytes))]) [0, 1, 2] rfl
      have hrc := va_recv hK hPc (ci := 4) (q0 := 0) rfl rfl
      refine pE_z (va_runV (As := [.ref (z9 (20 + 3))]) (rest := [])  ⟨hx, hb, hml, hown, hts⟩ (f_X3_isWord l E K z9 (a_ := a_) (a_tape := a_tape) (a_rules := a_rules) (a_places := a_places) (a_steps := a_steps) (a_tape_bytes := a_tape_bytes) (p1 := 3) (c_siteCount := c_siteCount) (c_stepCount := c_stepCount) (c_seenRules := c_seenRules) (c_at := c_at) (c_wordStart := c_wordStart) (c_number := c_number) (c_failed := c_failed) (c_tape_length := c_tape_length) (c_tape_bytes := c_tape_bytes) hc_10) (cwV 1 hts g_f_X3_ruleOfWord_f_X3_isWord_76 rfl rfl rfl hd_X3_isWord ⟨Nat.le_of_ble_eq_true rfl, Nat.le_of_ble_eq_true rfl⟩) ⟨qPZ.blind, hrc, (qPZ.pre0 ⟨hK, hN⟩ hPc hZ)⟩ rfl rfl hl.1 rfl (lv_room (Nat.le_of_ble_eq_true rfl)) dX3_ruleOfWord_25 ⟨Nat.le_of_ble_eq_true rfl, Nat.le_of_ble_eq_true rfl⟩) (fun hb_11 => ?_)
      refine lv_if_eq (tgt := 35) hx hb dX3_ruleOfWord_28 (by decide) (fun c_12 => ?_) (fun c_12 => ?_)
      ·
        replace hF := ip c_12 hF
        refine lv_iconst (v := -1) hx hb dX3_ruleOfWord_35 (by decide) ?_
        rw [hQ]
        obtain e9_0 := inj1 hF
        exact W.iret (v := (-1 : Int32)) hx hb hr (fun tt ht hW => ⟨_, rfl, e9_0, ht⟩) (fun _ h => by cases h) dX3_ruleOfWord_36
      ·
        replace hF := inn c_12 hF
        refine lv_iconst (v := 2) hx hb dX3_ruleOfWord_31 (by decide) ?_
        refine lv_goto (tgt := 36) hx hb dX3_ruleOfWord_32 (by decide) ?_
        rw [hQ]
        obtain e9_0 := inj1 hF
        exact W.iret (v := (2 : Int32)) hx hb hr (fun tt ht hW => ⟨_, rfl, e9_0, ht⟩) (fun _ h => by cases h) dX3_ruleOfWord_36
    ·
      replace hF := inn c_8 hF
      refine lv_iconst (v := 1) hx hb dX3_ruleOfWord_20 (by decide) ?_
      rw [hQ]
      obtain e9_0 := inj1 hF
      exact W.iret (v := (1 : Int32)) hx hb hr (fun tt ht hW => ⟨_, rfl, e9_0, ht⟩) (fun _ h => by cases h) dX3_ruleOfWord_21
  ·
    replace hF := inn c_4 hF
    refine lv_iconst (v := 0) hx hb dX3_ruleOfWord_9 (by decide) ?_
    rw [hQ]
    obtain e9_0 := inj1 hF
    exact W.iret (v := (0 : Int32)) hx hb hr (fun tt ht hW => ⟨_, rfl, e9_0, ht⟩) (fun _ h => by cases h) dX3_ruleOfWord_10

def F_X3_readLaw (K : Nat) (c_tape_bytes : Nat → Int32) (c_tape_length : Int32) (c_at : Int32) (c_wordStart : Int32) (c_number : Int32) (c_failed : Int32) : Option (Int32 × Int32 × Int32 × Int32 × Int32) :=
  bd4 (F_X3_readWord K c_tape_bytes c_tape_length c_at c_wordStart c_failed) (fun r_1 w_2 w_3 w_4 => if r_1 = (0 : Int32) then some ((0 : Int32), w_2, w_3, c_number, w_4) else bd1 (F_X3_lawOfWord K c_tape_bytes c_tape_length w_2 w_3) (fun r_8 => if r_8 = (-1 : Int32) then bd2 (F_X3_failAt w_3 w_4) (fun r_11 w_12 => if r_11 = (0 : Int32) then some ((0 : Int32), w_2, w_3, r_8, w_12) else some ((1 : Int32), w_2, w_3, r_8, w_12)) else some ((1 : Int32), w_2, w_3, r_8, w_4)))
abbrev w_X3_readLaw (E : EE) (a_ a_tape a_rules a_places a_steps a_tape_bytes : Nat) (c_siteCount : Int32) (c_stepCount : Int32) (c_seenRules : Int32) (c_at : Int32) (c_wordStart : Int32) (c_number : Int32) (c_failed : Int32) (c_tape_length : Int32) (c_tape_bytes : Nat → Int32) : va_W := [(a_, .inr (4, [.ref a_tape, .ref a_rules, .ref a_places, .ref a_steps, .int c_siteCount, .int c_stepCount, .int c_seenRules, .int c_at, .int c_wordStart, .int c_number, .int c_failed])), (a_tape, .inr (7, [.ref a_tape_bytes, .int c_tape_length])), (a_tape_bytes, .inl (E.2.2.1, 320, .inl c_tape_bytes))]
def v_f_X3_readLaw : List Cond := .code yX3_readLaw cX3_readLaw 1 (some .boolean) :: ([.fieldLink RX3 37 "HushWatch$Reader" "number" "I", .fieldLink RX3 34 "HushWatch$Reader" "wordStart" "I", .methodLink RX3 71 yX3_readWord, .instanceMethod yX3_readWord, .selects RX3 yX3_readWord yX3_readWord, .initialized RX3, .methodLink RX3 129 yX3_lawOfWord, .instanceMethod yX3_lawOfWord, .selects RX3 yX3_lawOfWord yX3_lawOfWord, .methodLink RX3 87 yX3_failAt, .instanceMethod yX3_failAt, .selects RX3 yX3_failAt yX3_failAt] ++ (v_f_X3_readWord ++ (v_f_X3_lawOfWord ++ (wsX30 ++ (v_f_X3_failAt ++ ([]))))))
theorem gw_f_X3_readLaw : v_f_X3_readLaw.all goodWord = true := by decide +kernel
theorem i_f_X3_readLaw_X3 : ∀ w ∈ wsX30, w ∈ v_f_X3_readLaw := fun _ h => List.mem_cons_of_mem _ (List.mem_append_right _ (List.mem_append_right _ (List.mem_append_right _ (List.mem_append_left _ h))))
theorem g_f_X3_readLaw_f_X3_readWord_71 : GoodIn v_f_X3_readLaw (wsV RX3 71 RX3 yX3_readWord v_f_X3_readWord) := goodIn_app (goodIn_of _ (by decide +kernel)) (goodIn_sub (fun _ h => List.mem_cons_of_mem _ (List.mem_append_right _ (List.mem_append_left _ h))) gw_f_X3_readWord)
theorem g_f_X3_readLaw_f_X3_lawOfWord_129 : GoodIn v_f_X3_readLaw (wsV RX3 129 RX3 yX3_lawOfWord v_f_X3_lawOfWord) := goodIn_app (goodIn_of _ (by decide +kernel)) (goodIn_sub (fun _ h => List.mem_cons_of_mem _ (List.mem_append_right _ (List.mem_append_right _ (List.mem_append_left _ h)))) gw_f_X3_lawOfWord)
theorem g_f_X3_readLaw_f_X3_failAt_87 : GoodIn v_f_X3_readLaw (wsV RX3 87 RX3 yX3_failAt v_f_X3_failAt) := goodIn_app (goodIn_of _ (by decide +kernel)) (goodIn_sub (fun _ h => List.mem_cons_of_mem _ (List.mem_append_right _ (List.mem_append_right _ (List.mem_append_right _ (List.mem_append_right _ (List.mem_append_left _ h)))))) gw_f_X3_failAt)
theorem hd_X3_readLaw : yX3_readLaw.cls = RX3 ∧ yX3_readLaw.cls ≠ "java/lang/invoke/MethodHandle" ∧ yX3_readLaw.cls ≠ "java/lang/invoke/VarHandle" ∧ (parseMethodDescriptor yX3_readLaw.desc).map (fun d => d.parameters.length) = some 0 := by decide +kernel
set_option maxHeartbeats 4000000 in
set_option maxRecDepth 100000 in
theorem f_X3_readLaw (l : Launch) (E : EE) (sz : Nat) (K : Nat) (z9 : Nat → Nat) {a_ a_tape a_rules a_places a_steps a_tape_bytes : Nat} {c_siteCount : Int32} {c_stepCount : Int32} {c_seenRules : Int32} {c_at : Int32} {c_wordStart : Int32} {c_number : Int32} {c_failed : Int32} {c_tape_length : Int32} {c_tape_bytes : Nat → Int32} {rr : Int32} {n_at : Int32} {n_wordStart : Int32} {n_number : Int32} {n_failed : Int32} (hF : F_X3_readLaw K c_tape_bytes c_tape_length c_at c_wordStart c_number c_failed = some (rr, n_at, n_wordStart, n_number, n_failed)) : Met l yX3_readLaw v_f_X3_readLaw (({ frames := 6, cells := 0, slots := 0, locals := 127 } : Room)) (va_Pc [.ref a_] (qWZ E z9 sz (w_X3_readLaw E a_ a_tape a_rules a_places a_steps a_tape_bytes c_siteCount c_stepCount c_seenRules c_at c_wordStart c_number c_failed c_tape_length c_tape_bytes))) (va_Qi (fun (q : Int32) (_u : Unit) => q = rr ∧ (q = 0 ∨ q = 1)) (fun (_u : Unit) tt => va_P E.1 vwCl (w_X3_readLaw E a_ a_tape a_rules a_places a_steps a_tape_bytes c_siteCount c_stepCount c_seenRules n_at n_wordStart n_number n_failed c_tape_length c_tape_bytes) tt.heap ∧ va_D (va_A (w_X3_readLaw E a_ a_tape a_rules a_places a_steps a_tape_bytes c_siteCount c_stepCount c_seenRules c_at c_wordStart c_number c_failed c_tape_length c_tape_bytes) sz) (w_X3_readLaw E a_ a_tape a_rules a_places a_steps a_tape_bytes c_siteCount c_stepCount c_seenRules n_at n_wordStart n_number n_failed c_tape_length c_tape_bytes)) (va_A (w_X3_readLaw E a_ a_tape a_rules a_places a_steps a_tape_bytes c_siteCount c_stepCount c_seenRules c_at c_wordStart c_number c_failed c_tape_length c_tape_bytes) sz)) 0 0 (va_A (w_X3_readLaw E a_ a_tape a_rules a_places a_steps a_tape_bytes c_siteCount c_stepCount c_seenRules c_at c_wordStart c_number c_failed c_tape_length c_tape_bytes) sz) := by
  refine Met.ofW (cc := cX3_readLaw) (maxL := 1) (ret := (some .boolean)) (by decide) rfl ?_
  intro p e s m args below meth c s₁ B hml hv
  obtain ⟨rfl, hsz, ⟨hK, hN⟩, hP, hD0, hZ⟩ := hv
  have hx := B.exec
  have hb := B.bytes
  have hr := B.returns
  have hts := atoms_spec (ws := v_f_X3_readLaw) B.pre
  have hown : s.vm.findClass RX3 = some m.cls := own_of hd_X3_readLaw.1 (findClass_of_methodNamed B.named)
  have hlocks : meth.locks = false := B.notSynchronized
  subst hsz
  have hD := hD0.self (sz := s.heap.size)
  generalize hAe : va_A (w_X3_readLaw E a_ a_tape a_rules a_places a_steps a_tape_bytes c_siteCount c_stepCount c_seenRules c_at c_wordStart c_number c_failed c_tape_length c_tape_bytes) s.heap.size = A at hD hZ ⊢
  have hA : ∀ q : Nat, s.heap.size ≤ q → A q := fun q h => by rw [← hAe]; exact Or.inr h
  have hS : va_S A s.heap s.heap [] := va_S.rf
  have hl := lv_entry ([.ref a_]) (n := 1) (Nat.le_of_ble_eq_true rfl)
  rw [lg_entry_eq]
  generalize (lg_sl ([.ref a_]) ++ List.replicate (1 - (lg_sl ([.ref a_])).length) Slot.unset).toArray = ls at hl ⊢
  have hl : lv_has ls 1 [(0, .ref a_)] := hl
  obtain ⟨Q, hQ⟩ : ∃ Q : State → Prop, Q = MQ below (va_Qi (fun (q : Int32) (_u : Unit) => q = rr ∧ (q = 0 ∨ q = 1)) (fun (_u : Unit) tt => va_P E.1 vwCl (w_X3_readLaw E a_ a_tape a_rules a_places a_steps a_tape_bytes c_siteCount c_stepCount c_seenRules n_at n_wordStart n_number n_failed c_tape_length c_tape_bytes) tt.heap ∧ va_D A (w_X3_readLaw E a_ a_tape a_rules a_places a_steps a_tape_bytes c_siteCount c_stepCount c_seenRules n_at n_wordStart n_number n_failed c_tape_length c_tape_bytes)) A) #[Value.ref a_] s 0 0 A := ⟨_, rfl⟩
  rw [← hQ]
  change W p l e ({ frames := 6, cells := 0, slots := 0, locals := 127 } : Room) s m #[Value.ref a_] below meth c s.heap [] 0 0 Q (F0 m 0 ls [])
  suffices hh9 : ∀ (H : Heap) (locs : List Loc), va_P E.1 vwCl (w_X3_readLaw E a_ a_tape a_rules a_places a_steps a_tape_bytes c_siteCount c_stepCount c_seenRules c_at c_wordStart c_number c_failed c_tape_length c_tape_bytes) H → va_D A (w_X3_readLaw E a_ a_tape a_rules a_places a_steps a_tape_bytes c_siteCount c_stepCount c_seenRules c_at c_wordStart c_number c_failed c_tape_length c_tape_bytes) → va_S A s.heap H locs → W p l e ({ frames := 6, cells := 0, slots := 0, locals := 127 } : Room) s m #[Value.ref a_] below meth c H locs 0 0 Q (F0 m 0 ls []) from hh9 s.heap [] hP hD hS
  clear hP hD hS
  intro H locs hP hD hS
  replace hP : va_P E.1 vwCl [(a_, .inr (4, [.ref a_tape, .ref a_rules, .ref a_places, .ref a_steps, .int c_siteCount, .int c_stepCount, .int c_seenRules, .int c_at, .int c_wordStart, .int c_number, .int c_failed])), (a_tape, .inr (7, [.ref a_tape_bytes, .int c_tape_length])), (a_tape_bytes, .inl (E.2.2.1, 320, .inl c_tape_bytes))] H := hP
  replace hD : va_D A [(a_, .inr (4, [.ref a_tape, .ref a_rules, .ref a_places, .ref a_steps, .int c_siteCount, .int c_stepCount, .int c_seenRules, .int c_at, .int c_wordStart, .int c_number, .int c_failed])), (a_tape, .inr (7, [.ref a_tape_bytes, .int c_tape_length])), (a_tape_bytes, .inl (E.2.2.1, 320, .inl c_tape_bytes))] := hD
  unfold F_X3_readLaw at hF
  refine lv_aload_n hx hb dX3_readLaw_0 rfl (lv_at hl 0 rfl) ?_
  replace hF := bd4_s hF
  obtain ⟨r_1, w_2, w_3, w_4, hc_5, hF⟩ := hF
  obtain ⟨hPc, hDc, hFc⟩ := wcut (wc := (w_X3_readWord E a_ a_tape a_rules a_places a_steps a_tape_bytes c_siteCount c_stepCount c_seenRules c_at c_wordStart c_number c_failed c_tape_length c_tape_bytes)) hP hD hS hA [0, 1, 2] (by decide) rfl
  have hrc := va_recv hK hPc (ci := 4) (q0 := 0) rfl rfl
  refine cE_z (wc := (w_X3_readWord E a_ a_tape a_rules a_places a_steps a_tape_bytes c_siteCount c_stepCount c_seenRules c_at c_wordStart c_number c_failed c_tape_length c_tape_bytes)) (wr := []) (w1 := (w_X3_readWord E a_ a_tape a_rules a_places a_steps a_tape_bytes c_siteCount c_stepCount c_seenRules w_2 w_3 c_number w_4 c_tape_length c_tape_bytes)) (va_runV (As := []) (rest := [])  ⟨hx, hb, hml, hown, hts⟩ (f_X3_readWord l E H.size K (a_ := a_) (a_tape := a_tape) (a_rules := a_rules) (a_places := a_places) (a_steps := a_steps) (a_tape_bytes := a_tape_bytes) (c_siteCount := c_siteCount) (c_stepCount := c_stepCount) (c_seenRules := c_seenRules) (c_at := c_at) (c_wordStart := c_wordStart) (c_number := c_number) (c_failed := c_failed) (c_tape_length := c_tape_length) (c_tape_bytes := c_tape_bytes) hc_5) (cwV 0 hts g_f_X3_readLaw_f_X3_readWord_71 rfl rfl rfl hd_X3_readWord ⟨Nat.le_of_ble_eq_true rfl, Nat.le_of_ble_eq_true rfl⟩) ⟨pW.blind, hrc, (pW.pre ⟨hK, hN⟩ hPc hDc)⟩ rfl rfl hl.1 rfl (lv_room (Nat.le_of_ble_eq_true rfl)) dX3_readLaw_1 ⟨Nat.le_of_ble_eq_true rfl, Nat.le_of_ble_eq_true rfl⟩) hS hFc hP hD [0, 1, 2] [] rfl rfl (by decide) (by decide) (fun hb_6 H locs hP hD hS => ?_)
  replace hP : va_P E.1 vwCl [(a_, .inr (4, [.ref a_tape, .ref a_rules, .ref a_places, .ref a_steps, .int c_siteCount, .int c_stepCount, .int c_seenRules, .int w_2, .int w_3, .int c_number, .int w_4])), (a_tape, .inr (7, [.ref a_tape_bytes, .int c_tape_length])), (a_tape_bytes, .inl (E.2.2.1, 320, .inl c_tape_bytes))] H := hP
  replace hD : va_D A [(a_, .inr (4, [.ref a_tape, .ref a_rules, .ref a_places, .ref a_steps, .int c_siteCount, .int c_stepCount, .int c_seenRules, .int w_2, .int w_3, .int c_number, .int w_4])), (a_tape, .inr (7, [.ref a_tape_bytes, .int c_tape_length])), (a_tape_bytes, .inl (E.2.2.1, 320, .inl c_tape_bytes))] := hD
  refine lv_if_ne (tgt := 9) hx hb dX3_readLaw_4 (by decide) (fun c_7 => ?_) (fun c_7 => ?_)
  ·
    replace hF := inn c_7 hF
    refine lv_aload_n hx hb dX3_readLaw_9 rfl (lv_at hl 0 rfl) ?_
    refine lv_aload_n hx hb dX3_readLaw_10 rfl (lv_at hl 0 rfl) ?_
    replace hF := bd1_s hF
    obtain ⟨r_8, hc_9, hF⟩ := hF
    have hPc : va_P E.1 vwCl (w_X3_lawOfWord E a_ a_tape a_rules a_places a_steps a_tape_bytes c_siteCount c_stepCount c_seenRules w_2 w_3 c_number w_4 c_tape_length c_tape_bytes) H := hP.sub (ws' := [(a_, .inr (4, [.ref a_tape, .ref a_rules, .ref a_places, .ref a_steps, .int c_siteCount, .int c_stepCount, .int c_seenRules, .int w_2, .int w_3, .int c_number, .int w_4])), (a_tape, .inr (7, [.ref a_tape_bytes, .int c_tape_length])), (a_tape_bytes, .inl (E.2.2.1, 320, .inl c_tape_bytes))]) [0, 1, 2] rfl
    have hrc := va_recv hK hPc (ci := 4) (q0 := 0) rfl rfl
    refine pE_i (va_runV (As := []) (rest := [.ref a_])  ⟨hx, hb, hml, hown, hts⟩ (f_X3_lawOfWord l E K z9 (a_ := a_) (a_tape := a_tape) (a_rules := a_rules) (a_places := a_places) (a_steps := a_steps) (a_tape_bytes := a_tape_bytes) (c_siteCount := c_siteCount) (c_stepCount := c_stepCount) (c_seenRules := c_seenRules) (c_at := w_2) (c_wordStart := w_3) (c_number := c_number) (c_failed := w_4) (c_tape_length := c_tape_length) (c_tape_bytes := c_tape_bytes) hc_9) (cwV 0 hts g_f_X3_readLaw_f_X3_lawOfWord_129 rfl rfl rfl hd_X3_lawOfWord ⟨Nat.le_of_ble_eq_true rfl, Nat.le_of_ble_eq_true rfl⟩) ⟨qPZ.blind, hrc, (qPZ.pre ⟨hK, hN⟩ hPc hZ hS)⟩ rfl rfl hl.1 rfl (lv_room (Nat.le_of_ble_eq_true rfl)) dX3_readLaw_11 ⟨Nat.le_of_ble_eq_true rfl, Nat.le_of_ble_eq_true rfl⟩) ?_
    refine pt_X3_9 (v := .int r_8) hx hb hts i_f_X3_readLaw_X3 hown hK hP hD hS 0 rfl (hts (.fieldLink RX3 37 "HushWatch$Reader" "number" "I") (List.mem_of_getElem? (i := 1) rfl)) rfl rfl (Nat.le_of_ble_eq_true rfl) dX3_readLaw_14 (fun H locs hP hD hS => ?_)
    replace hP : va_P E.1 vwCl [(a_, .inr (4, [.ref a_tape, .ref a_rules, .ref a_places, .ref a_steps, .int c_siteCount, .int c_stepCount, .int c_seenRules, .int w_2, .int w_3, .int r_8, .int w_4])), (a_tape, .inr (7, [.ref a_tape_bytes, .int c_tape_length])), (a_tape_bytes, .inl (E.2.2.1, 320, .inl c_tape_bytes))] H := hP
    replace hD : va_D A [(a_, .inr (4, [.ref a_tape, .ref a_rules, .ref a_places, .ref a_steps, .int c_siteCount, .int c_stepCount, .int c_seenRules, .int w_2, .int w_3, .int r_8, .int w_4])), (a_tape, .inr (7, [.ref a_tape_bytes, .int c_tape_length])), (a_tape_bytes, .inl (E.2.2.1, 320, .inl c_tape_bytes))] := hD
    refine lv_aload_n hx hb dX3_readLaw_17 rfl (lv_at hl 0 rfl) ?_
    refine gt_X3_9 (v := .int r_8) hx hb hts i_f_X3_readLaw_X3 hown hK hP 0 rfl (hts (.fieldLink RX3 37 "HushWatch$Reader" "number" "I") (List.mem_of_getElem? (i := 1) rfl)) rfl dX3_readLaw_18 ?_
    refine lv_iconst (v := -1) hx hb dX3_readLaw_21 (by decide) ?_
    refine lv_icmp_ne (tgt := 36) hx hb dX3_readLaw_22 (by decide) (fun c_10 => ?_) (fun c_10 => ?_)
    ·
      replace hF := inn c_10 hF
      refine lv_iconst (v := 1) hx hb dX3_readLaw_36 (by decide) ?_
      refine lv_goto (tgt := 41) hx hb dX3_readLaw_37 (by decide) ?_
      rw [hQ]
      have h9 := fin9 (P := fun u9 : Int32 × Int32 × Int32 × Int32 × Int32 => (1 : Int32) = u9.1 ∧ va_P E.1 vwCl (w_X3_readLaw E a_ a_tape a_rules a_places a_steps a_tape_bytes c_siteCount c_stepCount c_seenRules u9.2.1 u9.2.2.1 u9.2.2.2.1 u9.2.2.2.2 c_tape_length c_tape_bytes) H ∧ va_D A (w_X3_readLaw E a_ a_tape a_rules a_places a_steps a_tape_bytes c_siteCount c_stepCount c_seenRules u9.2.1 u9.2.2.1 u9.2.2.2.1 u9.2.2.2.2 c_tape_length c_tape_bytes)) hF ⟨rfl, hP, hD⟩
      obtain ⟨e9_0, hP9, hD9⟩ := h9
      exact W.zret (v := (1 : Int32)) hx hb hr rfl (fun tt ht hW => ⟨⟨_, (), rfl, ⟨e9_0, Or.inr rfl⟩, ht ▸ hP9, hD9⟩, hS.F ht⟩) hS.2.2 dX3_readLaw_41
    ·
      replace hF := ip c_10 hF
      refine lv_aload_n hx hb dX3_readLaw_25 rfl (lv_at hl 0 rfl) ?_
      refine lv_aload_n hx hb dX3_readLaw_26 rfl (lv_at hl 0 rfl) ?_
      refine gt_X3_8 (v := .int w_3) hx hb hts i_f_X3_readLaw_X3 hown hK hP 0 rfl (hts (.fieldLink RX3 34 "HushWatch$Reader" "wordStart" "I") (List.mem_of_getElem? (i := 2) rfl)) rfl dX3_readLaw_27 ?_
      replace hF := bd2_s hF
      obtain ⟨r_11, w_12, hc_13, hF⟩ := hF
      obtain ⟨hPc, hDc, hFc⟩ := wcut (wc := (w_X3_failAt E a_ a_tape a_rules a_places a_steps c_siteCount c_stepCount c_seenRules w_2 w_3 r_8 w_4)) hP hD hS hA [0] (by decide) rfl
      have hrc := va_recv hK hPc (ci := 4) (q0 := 0) rfl rfl
      refine cE_z (wc := (w_X3_failAt E a_ a_tape a_rules a_places a_steps c_siteCount c_stepCount c_seenRules w_2 w_3 r_8 w_4)) (wr := [(a_tape, .inr (7, [.ref a_tape_bytes, .int c_tape_length])), (a_tape_bytes, .inl (E.2.2.1, 320, .inl c_tape_bytes))]) (w1 := (w_X3_failAt E a_ a_tape a_rules a_places a_steps c_siteCount c_stepCount c_seenRules w_2 w_3 r_8 w_12)) (va_runV (As := [.int w_3]) (rest := [])  ⟨hx, hb, hml, hown, hts⟩ (f_X3_failAt l E H.size (a_ := a_) (a_tape := a_tape) (a_rules := a_rules) (a_places := a_places) (a_steps := a_steps) (p1 := w_3) (c_siteCount := c_siteCount) (c_stepCount := c_stepCount) (c_seenRules := c_seenRules) (c_at := w_2) (c_wordStart := w_3) (c_number := r_8) (c_failed := w_4) hc_13) (cwV 1 hts g_f_X3_readLaw_f_X3_failAt_87 rfl rfl rfl hd_X3_failAt ⟨Nat.le_of_ble_eq_true rfl, Nat.le_of_ble_eq_true rfl⟩) ⟨pW.blind, hrc, (pW.pre ⟨hK, hN⟩ hPc hDc)⟩ rfl rfl hl.1 rfl (lv_room (Nat.le_of_ble_eq_true rfl)) dX3_readLaw_30 ⟨Nat.le_of_ble_eq_true rfl, Nat.le_of_ble_eq_true rfl⟩) hS hFc hP hD [0] [1, 2] rfl rfl (by decide) (by decide) (fun hb_14 H locs hP hD hS => ?_)
      replace hP : va_P E.1 vwCl [(a_tape, .inr (7, [.ref a_tape_bytes, .int c_tape_length])), (a_tape_bytes, .inl (E.2.2.1, 320, .inl c_tape_bytes)), (a_, .inr (4, [.ref a_tape, .ref a_rules, .ref a_places, .ref a_steps, .int c_siteCount, .int c_stepCount, .int c_seenRules, .int w_2, .int w_3, .int r_8, .int w_12]))] H := hP
      replace hD : va_D A [(a_tape, .inr (7, [.ref a_tape_bytes, .int c_tape_length])), (a_tape_bytes, .inl (E.2.2.1, 320, .inl c_tape_bytes)), (a_, .inr (4, [.ref a_tape, .ref a_rules, .ref a_places, .ref a_steps, .int c_siteCount, .int c_stepCount, .int c_seenRules, .int w_2, .int w_3, .int r_8, .int w_12]))] := hD
      refine lv_if_eq (tgt := 40) hx hb dX3_readLaw_33 (by decide) (fun c_15 => ?_) (fun c_15 => ?_)
      ·
        replace hF := ip c_15 hF
        refine lv_iconst (v := 0) hx hb dX3_readLaw_40 (by decide) ?_
        rw [hQ]
        have h9 := fin9 (P := fun u9 : Int32 × Int32 × Int32 × Int32 × Int32 => (0 : Int32) = u9.1 ∧ va_P E.1 vwCl (w_X3_readLaw E a_ a_tape a_rules a_places a_steps a_tape_bytes c_siteCount c_stepCount c_seenRules u9.2.1 u9.2.2.1 u9.2.2.2.1 u9.2.2.2.2 c_tape_length c_tape_bytes) H ∧ va_D A (w_X3_readLaw E a_ a_tape a_rules a_places a_steps a_tape_bytes c_siteCount c_stepCount c_seenRules u9.2.1 u9.2.2.1 u9.2.2.2.1 u9.2.2.2.2 c_tape_length c_tape_bytes)) hF ⟨rfl, hP.sub [2, 0, 1] rfl, hD.sub [2, 0, 1] (by decide) rfl⟩
        obtain ⟨e9_0, hP9, hD9⟩ := h9
        exact W.zret (v := (0 : Int32)) hx hb hr rfl (fun tt ht hW => ⟨⟨_, (), rfl, ⟨e9_0, Or.inl rfl⟩, ht ▸ hP9, hD9⟩, hS.F ht⟩) hS.2.2 dX3_readLaw_41
      ·
        replace hF := inn c_15 hF
        refine lv_iconst (v := 1) hx hb dX3_readLaw_36 (by decide) ?_
        refine lv_goto (tgt := 41) hx hb dX3_readLaw_37 (by decide) ?_
        rw [hQ]
        have h9 := fin9 (P := fun u9 : Int32 × Int32 × Int32 × Int32 × Int32 => (1 : Int32) = u9.1 ∧ va_P E.1 vwCl (w_X3_readLaw E a_ a_tape a_rules a_places a_steps a_tape_bytes c_siteCount c_stepCount c_seenRules u9.2.1 u9.2.2.1 u9.2.2.2.1 u9.2.2.2.2 c_tape_length c_tape_bytes) H ∧ va_D A (w_X3_readLaw E a_ a_tape a_rules a_places a_steps a_tape_bytes c_siteCount c_stepCount c_seenRules u9.2.1 u9.2.2.1 u9.2.2.2.1 u9.2.2.2.2 c_tape_length c_tape_bytes)) hF ⟨rfl, hP.sub [2, 0, 1] rfl, hD.sub [2, 0, 1] (by decide) rfl⟩
        obtain ⟨e9_0, hP9, hD9⟩ := h9
        exact W.zret (v := (1 : Int32)) hx hb hr rfl (fun tt ht hW => ⟨⟨_, (), rfl, ⟨e9_0, Or.inr rfl⟩, ht ▸ hP9, hD9⟩, hS.F ht⟩) hS.2.2 dX3_readLaw_41
  ·
    replace hF := ip c_7 hF
    refine lv_iconst (v := 0) hx hb dX3_readLaw_7 (by decide) ?_
    rw [hQ]
    have h9 := fin9 (P := fun u9 : Int32 × Int32 × Int32 × Int32 × Int32 => (0 : Int32) = u9.1 ∧ va_P E.1 vwCl (w_X3_readLaw E a_ a_tape a_rules a_places a_steps a_tape_bytes c_siteCount c_stepCount c_seenRules u9.2.1 u9.2.2.1 u9.2.2.2.1 u9.2.2.2.2 c_tape_length c_tape_bytes) H ∧ va_D A (w_X3_readLaw E a_ a_tape a_rules a_places a_steps a_tape_bytes c_siteCount c_stepCount c_seenRules u9.2.1 u9.2.2.1 u9.2.2.2.1 u9.2.2.2.2 c_tape_length c_tape_bytes)) hF ⟨rfl, hP, hD⟩
    obtain ⟨e9_0, hP9, hD9⟩ := h9
    exact W.zret (v := (0 : Int32)) hx hb hr rfl (fun tt ht hW => ⟨⟨_, (), rfl, ⟨e9_0, Or.inl rfl⟩, ht ▸ hP9, hD9⟩, hS.F ht⟩) hS.2.2 dX3_readLaw_8

def J_X3_readClause_108 (k0 : Int32) (x1 : Int32) (c_rules : Nat → Int32) (c_places : Nat → Int32) (c_siteCount : Int32) (c_seenRules : Int32) (c_at : Int32) (c_wordStart : Int32) (c_number : Int32) (c_failed : Int32) : Option (Int32 × (Nat → Int32) × (Nat → Int32) × Int32 × Int32 × Int32 × Int32 × Int32 × Int32) :=
  if k0 = (0 : Int32) then zbF k0 (some (k0, c_rules, c_places, c_siteCount, c_seenRules, c_at, c_wordStart, c_number, c_failed)) else ixF x1 3 (nmF (upd c_rules x1.toNatClampNeg c_number) (fun f_36 => zbF k0 (some (k0, f_36, c_places, c_siteCount, c_seenRules, c_at, c_wordStart, c_number, c_failed))))
def F_X3_readClause (K : Nat) (c_tape_bytes : Nat → Int32) (c_tape_length : Int32) (c_rules : Nat → Int32) (c_places : Nat → Int32) (c_siteCount : Int32) (c_seenRules : Int32) (c_at : Int32) (c_wordStart : Int32) (c_number : Int32) (c_failed : Int32) : Option (Int32 × (Nat → Int32) × (Nat → Int32) × Int32 × Int32 × Int32 × Int32 × Int32 × Int32) :=
  bd4 (F_X3_readWord K c_tape_bytes c_tape_length c_at c_wordStart c_failed) (fun r_1 w_2 w_3 w_4 => if r_1 = (0 : Int32) then some ((0 : Int32), c_rules, c_places, c_siteCount, c_seenRules, w_2, w_3, c_number, w_4) else bd1 (F_X3_isWord K 0 c_tape_bytes c_tape_length w_2 w_3) (fun r_8 => if r_8 = (0 : Int32) then bd1 (F_X3_ruleOfWord K c_tape_bytes c_tape_length w_2 w_3) (fun r_12 => if r_12 < (0 : Int32) then bd2 (F_X3_failAt w_3 w_4) (fun r_15 w_16 => some (r_15, c_rules, c_places, c_siteCount, c_seenRules, w_2, w_3, c_number, w_16)) else if (3 : Int32) ≤ r_12 then bd2 (F_X3_failAt w_3 w_4) (fun r_20 w_21 => some (r_20, c_rules, c_places, c_siteCount, c_seenRules, w_2, w_3, c_number, w_21)) else if (c_seenRules >>> (r_12 &&& (31 : Int32))) &&& (1 : Int32) = (0 : Int32) then if r_12 = (0 : Int32) then bd5 (F_X3_readLaw K c_tape_bytes c_tape_length w_2 w_3 c_number w_4) (fun r_44 w_45 w_46 w_47 w_48 => J_X3_readClause_108 r_44 r_12 c_rules c_places c_siteCount (c_seenRules ||| ((1 : Int32) <<< (r_12 &&& (31 : Int32)))) w_45 w_46 w_47 w_48) else if r_12 = (1 : Int32) then bd4 (F_X3_readNumber K (-9999999 : Int32) (9999999 : Int32) c_tape_bytes c_tape_length w_2 c_number w_4) (fun r_38 w_39 w_40 w_41 => J_X3_readClause_108 r_38 r_12 c_rules c_places c_siteCount (c_seenRules ||| ((1 : Int32) <<< (r_12 &&& (31 : Int32)))) w_39 w_3 w_40 w_41) else bd4 (F_X3_readNumber K (1 : Int32) (9999 : Int32) c_tape_bytes c_tape_length w_2 c_number w_4) (fun r_27 w_28 w_29 w_30 => J_X3_readClause_108 r_27 r_12 c_rules c_places c_siteCount (c_seenRules ||| ((1 : Int32) <<< (r_12 &&& (31 : Int32)))) w_28 w_3 w_29 w_30) else bd2 (F_X3_failAt w_3 w_4) (fun r_51 w_52 => some (r_51, c_rules, c_places, c_siteCount, c_seenRules, w_2, w_3, c_number, w_52))) else bd6 (F_X3_readSite K c_tape_bytes c_tape_length c_places c_siteCount w_2 w_3 c_number w_4) (fun r_55 w_56 w_57 w_58 w_59 w_60 => some (r_55, c_rules, w_56, w_57, c_seenRules, w_58, w_3, w_59, w_60))))
abbrev w_X3_readClause (E : EE) (a_ a_tape a_rules a_places a_steps a_tape_bytes : Nat) (c_siteCount : Int32) (c_stepCount : Int32) (c_seenRules : Int32) (c_at : Int32) (c_wordStart : Int32) (c_number : Int32) (c_failed : Int32) (c_tape_length : Int32) (c_tape_bytes : Nat → Int32) (c_rules : Nat → Int32) (c_places : Nat → Int32) : va_W := [(a_, .inr (4, [.ref a_tape, .ref a_rules, .ref a_places, .ref a_steps, .int c_siteCount, .int c_stepCount, .int c_seenRules, .int c_at, .int c_wordStart, .int c_number, .int c_failed])), (a_tape, .inr (7, [.ref a_tape_bytes, .int c_tape_length])), (a_tape_bytes, .inl (E.2.2.1, 320, .inl c_tape_bytes)), (a_rules, .inl (E.2.1, 3, .inl c_rules)), (a_places, .inl (E.2.1, 16, .inl c_places))]
def v_f_X3_readClause : List Cond := .code yX3_readClause cX3_readClause 3 (some .boolean) :: ([.fieldLink RX3 34 "HushWatch$Reader" "wordStart" "I", .fieldLink RX3 9 "HushWatch$Reader" "rules" "[I", .fieldLink RX3 28 "HushWatch$Reader" "seenRules" "I", .fieldLink RX3 37 "HushWatch$Reader" "number" "I", .constant RX3 94 (-9999999), .constant RX3 95 (9999999), .methodLink RX3 71 yX3_readWord, .instanceMethod yX3_readWord, .selects RX3 yX3_readWord yX3_readWord, .initialized RX3, .methodLink RX3 76 yX3_isWord, .instanceMethod yX3_isWord, .selects RX3 yX3_isWord yX3_isWord, .methodLink RX3 83 yX3_ruleOfWord, .instanceMethod yX3_ruleOfWord, .selects RX3 yX3_ruleOfWord yX3_ruleOfWord, .methodLink RX3 87 yX3_failAt, .instanceMethod yX3_failAt, .selects RX3 yX3_failAt yX3_failAt, .methodLink RX3 96 yX3_readNumber, .instanceMethod yX3_readNumber, .selects RX3 yX3_readNumber yX3_readNumber, .methodLink RX3 91 yX3_readLaw, .instanceMethod yX3_readLaw, .selects RX3 yX3_readLaw yX3_readLaw, .methodLink RX3 80 yX3_readSite, .instanceMethod yX3_readSite, .selects RX3 yX3_readSite yX3_readSite] ++ (v_f_X3_readWord ++ (v_f_X3_isWord ++ (v_f_X3_ruleOfWord ++ (wsX30 ++ (v_f_X3_failAt ++ (v_f_X3_readNumber ++ (v_f_X3_readLaw ++ (v_f_X3_readSite ++ ([]))))))))))
theorem gw_f_X3_readClause : v_f_X3_readClause.all goodWord = true := by decide +kernel
theorem i_f_X3_readClause_X3 : ∀ w ∈ wsX30, w ∈ v_f_X3_readClause := fun _ h => List.mem_cons_of_mem _ (List.mem_append_right _ (List.mem_append_right _ (List.mem_append_right _ (List.mem_append_right _ (List.mem_append_left _ h)))))
theorem g_f_X3_readClause_f_X3_readWord_71 : GoodIn v_f_X3_readClause (wsV RX3 71 RX3 yX3_readWord v_f_X3_readWord) := goodIn_app (goodIn_of _ (by decide +kernel)) (goodIn_sub (fun _ h => List.mem_cons_of_mem _ (List.mem_append_right _ (List.mem_append_left _ h))) gw_f_X3_readWord)
theorem g_f_X3_readClause_f_X3_isWord_76 : GoodIn v_f_X3_readClause (wsV RX3 76 RX3 yX3_isWord v_f_X3_isWord) := goodIn_app (goodIn_of _ (by decide +kernel)) (goodIn_sub (fun _ h => List.mem_cons_of_mem _ (List.mem_append_right _ (List.mem_append_right _ (List.mem_append_left _ h)))) gw_f_X3_isWord)
theorem g_f_X3_readClause_f_X3_ruleOfWord_83 : GoodIn v_f_X3_readClause (wsV RX3 83 RX3 yX3_ruleOfWord v_f_X3_ruleOfWord) := goodIn_app (goodIn_of _ (by decide +kernel)) (goodIn_sub (fun _ h => List.mem_cons_of_mem _ (List.mem_append_right _ (List.mem_append_right _ (List.mem_append_right _ (List.mem_append_left _ h))))) gw_f_X3_ruleOfWord)
theorem g_f_X3_readClause_f_X3_failAt_87 : GoodIn v_f_X3_readClause (wsV RX3 87 RX3 yX3_failAt v_f_X3_failAt) := goodIn_app (goodIn_of _ (by decide +kernel)) (goodIn_sub (fun _ h => List.mem_cons_of_mem _ (List.mem_append_right _ (List.mem_append_right _ (List.mem_append_right _ (List.mem_append_right _ (List.mem_append_right _ (List.mem_append_left _ h))))))) gw_f_X3_failAt)
theorem g_f_X3_readClause_f_X3_readNumber_96 : GoodIn v_f_X3_readClause (wsV RX3 96 RX3 yX3_readNumber v_f_X3_readNumber) := goodIn_app (goodIn_of _ (by decide +kernel)) (goodIn_sub (fun _ h => List.mem_cons_of_mem _ (List.mem_append_right _ (List.mem_append_right _ (List.mem_append_right _ (List.mem_append_right _ (List.mem_append_right _ (List.mem_append_right _ (List.mem_append_left _ h)))))))) gw_f_X3_readNumber)
theorem g_f_X3_readClause_f_X3_readLaw_91 : GoodIn v_f_X3_readClause (wsV RX3 91 RX3 yX3_readLaw v_f_X3_readLaw) := goodIn_app (goodIn_of _ (by decide +kernel)) (goodIn_sub (fun _ h => List.mem_cons_of_mem _ (List.mem_append_right _ (List.mem_append_right _ (List.mem_append_right _ (List.mem_append_right _ (List.mem_append_right _ (List.mem_append_right _ (List.mem_append_right _ (List.mem_append_left _ h))))))))) gw_f_X3_readLaw)
theorem g_f_X3_readClause_f_X3_readSite_80 : GoodIn v_f_X3_readClause (wsV RX3 80 RX3 yX3_readSite v_f_X3_readSite) := goodIn_app (goodIn_of _ (by decide +kernel)) (goodIn_sub (fun _ h => List.mem_cons_of_mem _ (List.mem_append_right _ (List.mem_append_right _ (List.mem_append_right _ (List.mem_append_right _ (List.mem_append_right _ (List.mem_append_right _ (List.mem_append_right _ (List.mem_append_right _ (List.mem_append_left _ h)))))))))) gw_f_X3_readSite)
theorem hd_X3_readClause : yX3_readClause.cls = RX3 ∧ yX3_readClause.cls ≠ "java/lang/invoke/MethodHandle" ∧ yX3_readClause.cls ≠ "java/lang/invoke/VarHandle" ∧ (parseMethodDescriptor yX3_readClause.desc).map (fun d => d.parameters.length) = some 0 := by decide +kernel
set_option maxHeartbeats 4000000 in
set_option maxRecDepth 100000 in
theorem j_X3_readClause_108 {p : Program} (l : Launch) {e : Env} {s : State} {m : MethodId} {below : List Frame} {meth : Method} {c : Code} {Q : State → Prop} (E : EE) (K : Nat) {z9 : Nat → Nat} {a_ a_tape a_rules a_places a_steps a_tape_bytes : Nat} {c_stepCount : Int32} {c_tape_length : Int32} {c_tape_bytes : Nat → Int32} {k0 : Int32} {x1 : Int32} {c_rules : Nat → Int32} {c_places : Nat → Int32} {c_siteCount : Int32} {c_seenRules : Int32} {c_at : Int32} {c_wordStart : Int32} {c_number : Int32} {c_failed : Int32} (hx : p.tables.exec = Jvm.exec) (hb : c.code = cX3_readClause) (hml : c.maxLocals = 3) (hown : s.vm.findClass RX3 = some m.cls) (hts : ∀ w ∈ v_f_X3_readClause, w.before #[Value.ref a_] s = true) (hK : va_K E.1 vwCl (TY E) s) (hN : NX s) {A : Nat → Prop} (hA : ∀ q : Nat, s.heap.size ≤ q → A q) (hZ : ZZ z9 A s s.heap) {rr : Int32} {n_rules : Nat → Int32} {n_places : Nat → Int32} {n_siteCount : Int32} {n_seenRules : Int32} {n_at : Int32} {n_wordStart : Int32} {n_number : Int32} {n_failed : Int32} (hr : meth.sig.returnType = (some .boolean)) (hlocks : meth.locks = false) (hQ : Q = MQ below (va_Qi (fun (q : Int32) (_u : Unit) => q = rr ∧ (q = 0 ∨ q = 1)) (fun (_u : Unit) tt => va_P E.1 vwCl (w_X3_readClause E a_ a_tape a_rules a_places a_steps a_tape_bytes n_siteCount c_stepCount n_seenRules n_at n_wordStart n_number n_failed c_tape_length c_tape_bytes n_rules n_places) tt.heap ∧ va_D A (w_X3_readClause E a_ a_tape a_rules a_places a_steps a_tape_bytes n_siteCount c_stepCount n_seenRules n_at n_wordStart n_number n_failed c_tape_length c_tape_bytes n_rules n_places)) A) #[Value.ref a_] s 0 0 A) (hF : J_X3_readClause_108 k0 x1 c_rules c_places c_siteCount c_seenRules c_at c_wordStart c_number c_failed = some (rr, n_rules, n_places, n_siteCount, n_seenRules, n_at, n_wordStart, n_number, n_failed)) : ∀ (H : Heap) (locs : List Loc) (ls : Array Slot), va_P E.1 vwCl (w_X3_readClause E a_ a_tape a_rules a_places a_steps a_tape_bytes c_siteCount c_stepCount c_seenRules c_at c_wordStart c_number c_failed c_tape_length c_tape_bytes c_rules c_places) H → va_D A (w_X3_readClause E a_ a_tape a_rules a_places a_steps a_tape_bytes c_siteCount c_stepCount c_seenRules c_at c_wordStart c_number c_failed c_tape_length c_tape_bytes c_rules c_places) → va_S A s.heap H locs → lv_has ls 3 [(0, .ref a_), (1, .int x1)] → W p l e ({ frames := 7, cells := 0, slots := 0, locals := 147 } : Room) s m #[Value.ref a_] below meth c H locs 0 0 Q (F0 m 108 ls [.int k0]) := by
  unfold J_X3_readClause_108 at hF
  intro H locs ls hP hD hS hl
  replace hP : va_P E.1 vwCl [(a_, .inr (4, [.ref a_tape, .ref a_rules, .ref a_places, .ref a_steps, .int c_siteCount, .int c_stepCount, .int c_seenRules, .int c_at, .int c_wordStart, .int c_number, .int c_failed])), (a_tape, .inr (7, [.ref a_tape_bytes, .int c_tape_length])), (a_tape_bytes, .inl (E.2.2.1, 320, .inl c_tape_bytes)), (a_rules, .inl (E.2.1, 3, .inl c_rules)), (a_places, .inl (E.2.1, 16, .inl c_places))] H := hP
  replace hD : va_D A [(a_, .inr (4, [.ref a_tape, .ref a_rules, .ref a_places, .ref a_steps, .int c_siteCount, .int c_stepCount, .int c_seenRules, .int c_at, .int c_wordStart, .int c_number, .int c_failed])), (a_tape, .inr (7, [.ref a_tape_bytes, .int c_tape_length])), (a_tape_bytes, .inl (E.2.2.1, 320, .inl c_tape_bytes)), (a_rules, .inl (E.2.1, 3, .inl c_rules)), (a_places, .inl (E.2.1, 16, .inl c_places))] := hD
  refine lv_istore_n (lv' := [(2, .int k0), (0, .ref a_), (1, .int x1)]) hx hb dX3_readClause_108 rfl hl (by decide) rfl (fun ls hl => ?_)
  refine lv_iload_n hx hb dX3_readClause_109 rfl (lv_at hl 0 rfl) ?_
  refine lv_if_eq (tgt := 123) hx hb dX3_readClause_110 (by decide) (fun c_33 => ?_) (fun c_33 => ?_)
  ·
    replace hF := ip c_33 hF
    refine lv_iload_n hx hb dX3_readClause_123 rfl (lv_at hl 0 rfl) ?_
    rw [hQ]
    replace hF := zb_s hF
    obtain ⟨hz_34, hF⟩ := hF
    have h9 := fin9 (P := fun u9 : Int32 × (Nat → Int32) × (Nat → Int32) × Int32 × Int32 × Int32 × Int32 × Int32 × Int32 => k0 = u9.1 ∧ va_P E.1 vwCl (w_X3_readClause E a_ a_tape a_rules a_places a_steps a_tape_bytes u9.2.2.2.1 c_stepCount u9.2.2.2.2.1 u9.2.2.2.2.2.1 u9.2.2.2.2.2.2.1 u9.2.2.2.2.2.2.2.1 u9.2.2.2.2.2.2.2.2 c_tape_length c_tape_bytes u9.2.1 u9.2.2.1) H ∧ va_D A (w_X3_readClause E a_ a_tape a_rules a_places a_steps a_tape_bytes u9.2.2.2.1 c_stepCount u9.2.2.2.2.1 u9.2.2.2.2.2.1 u9.2.2.2.2.2.2.1 u9.2.2.2.2.2.2.2.1 u9.2.2.2.2.2.2.2.2 c_tape_length c_tape_bytes u9.2.1 u9.2.2.1)) hF ⟨rfl, hP, hD⟩
    obtain ⟨e9_0, hP9, hD9⟩ := h9
    exact W.zret (v := k0) hx hb hr (nar_bool hz_34) (fun tt ht hW => ⟨⟨_, (), rfl, ⟨e9_0, hz_34⟩, ht ▸ hP9, hD9⟩, hS.F ht⟩) hS.2.2 dX3_readClause_124
  ·
    replace hF := inn c_33 hF
    refine lv_aload_n hx hb dX3_readClause_113 rfl (lv_at hl 1 rfl) ?_
    refine gt_X3_1 (v := .ref a_rules) hx hb hts i_f_X3_readClause_X3 hown hK hP 0 rfl (hts (.fieldLink RX3 9 "HushWatch$Reader" "rules" "[I") (List.mem_of_getElem? (i := 2) rfl)) rfl dX3_readClause_114 ?_
    refine lv_iload_n hx hb dX3_readClause_117 rfl (lv_at hl 2 rfl) ?_
    refine lv_aload_n hx hb dX3_readClause_118 rfl (lv_at hl 1 rfl) ?_
    refine gt_X3_9 (v := .int c_number) hx hb hts i_f_X3_readClause_X3 hown hK hP 0 rfl (hts (.fieldLink RX3 37 "HushWatch$Reader" "number" "I") (List.mem_of_getElem? (i := 4) rfl)) rfl dX3_readClause_119 ?_
    replace hF := ix_s hF
    obtain ⟨hi_35, hF⟩ := hF
    refine va_iast hx hb hK hP hD hS 3 0 rfl rfl hi_35 dX3_readClause_122 (fun H locs hP hD hS => ?_)
    replace hP : va_P E.1 vwCl [(a_, .inr (4, [.ref a_tape, .ref a_rules, .ref a_places, .ref a_steps, .int c_siteCount, .int c_stepCount, .int c_seenRules, .int c_at, .int c_wordStart, .int c_number, .int c_failed])), (a_tape, .inr (7, [.ref a_tape_bytes, .int c_tape_length])), (a_tape_bytes, .inl (E.2.2.1, 320, .inl c_tape_bytes)), (a_rules, .inl (E.2.1, 3, .inl (upd c_rules x1.toNatClampNeg c_number))), (a_places, .inl (E.2.1, 16, .inl c_places))] H := hP
    replace hD : va_D A [(a_, .inr (4, [.ref a_tape, .ref a_rules, .ref a_places, .ref a_steps, .int c_siteCount, .int c_stepCount, .int c_seenRules, .int c_at, .int c_wordStart, .int c_number, .int c_failed])), (a_tape, .inr (7, [.ref a_tape_bytes, .int c_tape_length])), (a_tape_bytes, .inl (E.2.2.1, 320, .inl c_tape_bytes)), (a_rules, .inl (E.2.1, 3, .inl (upd c_rules x1.toNatClampNeg c_number))), (a_places, .inl (E.2.1, 16, .inl c_places))] := hD
    replace hF := nm_s hF
    obtain ⟨f_36, hf_36, hF⟩ := hF
    rw [← hf_36] at hP hD
    refine lv_iload_n hx hb dX3_readClause_123 rfl (lv_at hl 0 rfl) ?_
    rw [hQ]
    replace hF := zb_s hF
    obtain ⟨hz_37, hF⟩ := hF
    have h9 := fin9 (P := fun u9 : Int32 × (Nat → Int32) × (Nat → Int32) × Int32 × Int32 × Int32 × Int32 × Int32 × Int32 => k0 = u9.1 ∧ va_P E.1 vwCl (w_X3_readClause E a_ a_tape a_rules a_places a_steps a_tape_bytes u9.2.2.2.1 c_stepCount u9.2.2.2.2.1 u9.2.2.2.2.2.1 u9.2.2.2.2.2.2.1 u9.2.2.2.2.2.2.2.1 u9.2.2.2.2.2.2.2.2 c_tape_length c_tape_bytes u9.2.1 u9.2.2.1) H ∧ va_D A (w_X3_readClause E a_ a_tape a_rules a_places a_steps a_tape_bytes u9.2.2.2.1 c_stepCount u9.2.2.2.2.1 u9.2.2.2.2.2.1 u9.2.2.2.2.2.2.1 u9.2.2.2.2.2.2.2.1 u9.2.2.2.2.2.2.2.2 c_tape_length c_tape_bytes u9.2.1 u9.2.2.1)) hF ⟨rfl, hP, hD⟩
    obtain ⟨e9_0, hP9, hD9⟩ := h9
    exact W.zret (v := k0) hx hb hr (nar_bool hz_37) (fun tt ht hW => ⟨⟨_, (), rfl, ⟨e9_0, hz_37⟩, ht ▸ hP9, hD9⟩, hS.F ht⟩) hS.2.2 dX3_readClause_124

set_option maxHeartbeats 4000000 in
set_option maxRecDepth 100000 in
theorem f_X3_readClause (l : Launch) (E : EE) (sz : Nat) (K : Nat) (z9 : Nat → Nat) {a_ a_tape a_rules a_places a_steps a_tape_bytes : Nat} {c_siteCount : Int32} {c_stepCount : Int32} {c_seenRules : Int32} {c_at : Int32} {c_wordStart : Int32} {c_number : Int32} {c_failed : Int32} {c_tape_length : Int32} {c_tape_bytes : Nat → Int32} {c_rules : Nat → Int32} {c_places : Nat → Int32} {rr : Int32} {n_rules : Nat → Int32} {n_places : Nat → Int32} {n_siteCount : Int32} {n_seenRules : Int32} {n_at : Int32} {n_wordStart : Int32} {n_number : Int32} {n_failed : Int32} (hF : F_X3_readClause K c_tape_bytes c_tape_length c_rules c_places c_siteCount c_seenRules c_at c_wordStart c_number c_failed = some (rr, n_rules, n_places, n_siteCount, n_seenRules, n_at, n_wordStart, n_number, n_failed)) : Met l yX3_readClause v_f_X3_readClause (({ frames := 7, cells := 0, slots := 0, locals := 147 } : Room)) (va_Pc [.ref a_] (qWZ E z9 sz (w_X3_readClause E a_ a_tape a_rules a_places a_steps a_tape_bytes c_siteCount c_stepCount c_seenRules c_at c_wordStart c_number c_failed c_tape_length c_tape_bytes c_rules c_places))) (va_Qi (fun (q : Int32) (_u : Unit) => q = rr ∧ (q = 0 ∨ q = 1)) (fun (_u : Unit) tt => va_P E.1 vwCl (w_X3_readClause E a_ a_tape a_rules a_places a_steps a_tape_bytes n_siteCount c_stepCount n_seenRules n_at n_wordStart n_number n_failed c_tape_length c_tape_bytes n_rules n_places) tt.heap ∧ va_D (va_A (w_X3_readClause E a_ a_tape a_rules a_places a_steps a_tape_bytes c_siteCount c_stepCount c_seenRules c_at c_wordStart c_number c_failed c_tape_length c_tape_bytes c_rules c_places) sz) (w_X3_readClause E a_ a_tape a_rules a_places a_steps a_tape_bytes n_siteCount c_stepCount n_seenRules n_at n_wordStart n_number n_failed c_tape_length c_tape_bytes n_rules n_places)) (va_A (w_X3_readClause E a_ a_tape a_rules a_places a_steps a_tape_bytes c_siteCount c_stepCount c_seenRules c_at c_wordStart c_number c_failed c_tape_length c_tape_bytes c_rules c_places) sz)) 0 0 (va_A (w_X3_readClause E a_ a_tape a_rules a_places a_steps a_tape_bytes c_siteCount c_stepCount c_seenRules c_at c_wordStart c_number c_failed c_tape_length c_tape_bytes c_rules c_places) sz) := by
  refine Met.ofW (cc := cX3_readClause) (maxL := 3) (ret := (some .boolean)) (by decide) rfl ?_
  intro p e s m args below meth c s₁ B hml hv
  obtain ⟨rfl, hsz, ⟨hK, hN⟩, hP, hD0, hZ⟩ := hv
  have hx := B.exec
  have hb := B.bytes
  have hr := B.returns
  have hts := atoms_spec (ws := v_f_X3_readClause) B.pre
  have hown : s.vm.findClass RX3 = some m.cls := own_of hd_X3_readClause.1 (findClass_of_methodNamed B.named)
  have hlocks : meth.locks = false := B.notSynchronized
  subst hsz
  have hD := hD0.self (sz := s.heap.size)
  generalize hAe : va_A (w_X3_readClause E a_ a_tape a_rules a_places a_steps a_tape_bytes c_siteCount c_stepCount c_seenRules c_at c_wordStart c_number c_failed c_tape_length c_tape_bytes c_rules c_places) s.heap.size = A at hD hZ ⊢
  have hA : ∀ q : Nat, s.heap.size ≤ q → A q := fun q h => by rw [← hAe]; exact Or.inr h
  have hS : va_S A s.heap s.heap [] := va_S.rf
  have hl := lv_entry ([.ref a_]) (n := 3) (Nat.le_of_ble_eq_true rfl)
  rw [lg_entry_eq]
  generalize (lg_sl ([.ref a_]) ++ List.replicate (3 - (lg_sl ([.ref a_])).length) Slot.unset).toArray = ls at hl ⊢
  have hl : lv_has ls 3 [(0, .ref a_)] := hl
  obtain ⟨Q, hQ⟩ : ∃ Q : State → Prop, Q = MQ below (va_Qi (fun (q : Int32) (_u : Unit) => q = rr ∧ (q = 0 ∨ q = 1)) (fun (_u : Unit) tt => va_P E.1 vwCl (w_X3_readClause E a_ a_tape a_rules a_places a_steps a_tape_bytes n_siteCount c_stepCount n_seenRules n_at n_wordStart n_number n_failed c_tape_length c_tape_bytes n_rules n_places) tt.heap ∧ va_D A (w_X3_readClause E a_ a_tape a_rules a_places a_steps a_tape_bytes n_siteCount c_stepCount n_seenRules n_at n_wordStart n_number n_failed c_tape_length c_tape_bytes n_rules n_places)) A) #[Value.ref a_] s 0 0 A := ⟨_, rfl⟩
  rw [← hQ]
  change W p l e ({ frames := 7, cells := 0, slots := 0, locals := 147 } : Room) s m #[Value.ref a_] below meth c s.heap [] 0 0 Q (F0 m 0 ls [])
  suffices hh9 : ∀ (H : Heap) (locs : List Loc), va_P E.1 vwCl (w_X3_readClause E a_ a_tape a_rules a_places a_steps a_tape_bytes c_siteCount c_stepCount c_seenRules c_at c_wordStart c_number c_failed c_tape_length c_tape_bytes c_rules c_places) H → va_D A (w_X3_readClause E a_ a_tape a_rules a_places a_steps a_tape_bytes c_siteCount c_stepCount c_seenRules c_at c_wordStart c_number c_failed c_tape_length c_tape_bytes c_rules c_places) → va_S A s.heap H locs → W p l e ({ frames := 7, cells := 0, slots := 0, locals := 147 } : Room) s m #[Value.ref a_] below meth c H locs 0 0 Q (F0 m 0 ls []) from hh9 s.heap [] hP hD hS
  clear hP hD hS
  intro H locs hP hD hS
  replace hP : va_P E.1 vwCl [(a_, .inr (4, [.ref a_tape, .ref a_rules, .ref a_places, .ref a_steps, .int c_siteCount, .int c_stepCount, .int c_seenRules, .int c_at, .int c_wordStart, .int c_number, .int c_failed])), (a_tape, .inr (7, [.ref a_tape_bytes, .int c_tape_length])), (a_tape_bytes, .inl (E.2.2.1, 320, .inl c_tape_bytes)), (a_rules, .inl (E.2.1, 3, .inl c_rules)), (a_places, .inl (E.2.1, 16, .inl c_places))] H := hP
  replace hD : va_D A [(a_, .inr (4, [.ref a_tape, .ref a_rules, .ref a_places, .ref a_steps, .int c_siteCount, .int c_stepCount, .int c_seenRules, .int c_at, .int c_wordStart, .int c_number, .int c_failed])), (a_tape, .inr (7, [.ref a_tape_bytes, .int c_tape_length])), (a_tape_bytes, .inl (E.2.2.1, 320, .inl c_tape_bytes)), (a_rules, .inl (E.2.1, 3, .inl c_rules)), (a_places, .inl (E.2.1, 16, .inl c_places))] := hD
  unfold F_X3_readClause at hF
  refine lv_aload_n hx hb dX3_readClause_0 rfl (lv_at hl 0 rfl) ?_
  replace hF := bd4_s hF
  obtain ⟨r_1, w_2, w_3, w_4, hc_5, hF⟩ := hF
  obtain ⟨hPc, hDc, hFc⟩ := wcut (wc := (w_X3_readWord E a_ a_tape a_rules a_places a_steps a_tape_bytes c_siteCount c_stepCount c_seenRules c_at c_wordStart c_number c_failed c_tape_length c_tape_bytes)) hP hD hS hA [0, 1, 2] (by decide) rfl
  have hrc := va_recv hK hPc (ci := 4) (q0 := 0) rfl rfl
  refine cE_z (wc := (w_X3_readWord E a_ a_tape a_rules a_places a_steps a_tape_bytes c_siteCount c_stepCount c_seenRules c_at c_wordStart c_number c_failed c_tape_length c_tape_bytes)) (wr := [(a_rules, .inl (E.2.1, 3, .inl c_rules)), (a_places, .inl (E.2.1, 16, .inl c_places))]) (w1 := (w_X3_readWord E a_ a_tape a_rules a_places a_steps a_tape_bytes c_siteCount c_stepCount c_seenRules w_2 w_3 c_number w_4 c_tape_length c_tape_bytes)) (va_runV (As := []) (rest := [])  ⟨hx, hb, hml, hown, hts⟩ (f_X3_readWord l E H.size K (a_ := a_) (a_tape := a_tape) (a_rules := a_rules) (a_places := a_places) (a_steps := a_steps) (a_tape_bytes := a_tape_bytes) (c_siteCount := c_siteCount) (c_stepCount := c_stepCount) (c_seenRules := c_seenRules) (c_at := c_at) (c_wordStart := c_wordStart) (c_number := c_number) (c_failed := c_failed) (c_tape_length := c_tape_length) (c_tape_bytes := c_tape_bytes) hc_5) (cwV 0 hts g_f_X3_readClause_f_X3_readWord_71 rfl rfl rfl hd_X3_readWord ⟨Nat.le_of_ble_eq_true rfl, Nat.le_of_ble_eq_true rfl⟩) ⟨pW.blind, hrc, (pW.pre ⟨hK, hN⟩ hPc hDc)⟩ rfl rfl hl.1 rfl (lv_room (Nat.le_of_ble_eq_true rfl)) dX3_readClause_1 ⟨Nat.le_of_ble_eq_true rfl, Nat.le_of_ble_eq_true rfl⟩) hS hFc hP hD [0, 1, 2] [3, 4] rfl rfl (by decide) (by decide) (fun hb_6 H locs hP hD hS => ?_)
  replace hP : va_P E.1 vwCl [(a_rules, .inl (E.2.1, 3, .inl c_rules)), (a_places, .inl (E.2.1, 16, .inl c_places)), (a_, .inr (4, [.ref a_tape, .ref a_rules, .ref a_places, .ref a_steps, .int c_siteCount, .int c_stepCount, .int c_seenRules, .int w_2, .int w_3, .int c_number, .int w_4])), (a_tape, .inr (7, [.ref a_tape_bytes, .int c_tape_length])), (a_tape_bytes, .inl (E.2.2.1, 320, .inl c_tape_bytes))] H := hP
  replace hD : va_D A [(a_rules, .inl (E.2.1, 3, .inl c_rules)), (a_places, .inl (E.2.1, 16, .inl c_places)), (a_, .inr (4, [.ref a_tape, .ref a_rules, .ref a_places, .ref a_steps, .int c_siteCount, .int c_stepCount, .int c_seenRules, .int w_2, .int w_3, .int c_number, .int w_4])), (a_tape, .inr (7, [.ref a_tape_bytes, .int c_tape_length])), (a_tape_bytes, .inl (E.2.2.1, 320, .inl c_tape_bytes))] := hD
  refine lv_if_ne (tgt := 9) hx hb dX3_readClause_4 (by decide) (fun c_7 => ?_) (fun c_7 => ?_)
  ·
    replace hF := inn c_7 hF
    refine lv_aload_n hx hb dX3_readClause_9 rfl (lv_at hl 0 rfl) ?_
    refine va_ldcS hx hb hown (ZZ.s0 hZ) dX3_readClause_10 ?_
    replace hF := bd1_s hF
    obtain ⟨r_8, hc_9, hF⟩ := hF
    have hPc : va_P E.1 vwCl (w_X3_isWord E a_ a_tape a_rules a_places a_steps a_tape_bytes c_siteCount c_stepCount c_seenRules w_2 w_3 c_number w_4 c_tape_length c_tape_bytes) H := hP.sub (ws' := [(a_, .inr (4, [.ref a_tape, .ref a_rules, .ref a_places, .ref a_steps, .int c_siteCount, .int c_stepCount, .int c_seenRules, .int w_2, .int w_3, .int c_number, .int w_4])), (a_tape, .inr (7, [.ref a_tape_bytes, .int c_tape_length])), (a_tape_bytes, .inl (E.2.2.1, 320, .inl c_tape_bytes))]) [2, 3, 4] rfl
    have hrc := va_recv hK hPc (ci := 4) (q0 := 0) rfl rfl
    refine pE_z (va_runV (As := [.ref (z9 (20 + 0))]) (rest := [])  ⟨hx, hb, hml, hown, hts⟩ (f_X3_isWord l E K z9 (a_ := a_) (a_tape := a_tape) (a_rules := a_rules) (a_places := a_places) (a_steps := a_steps) (a_tape_bytes := a_tape_bytes) (p1 := 0) (c_siteCount := c_siteCount) (c_stepCount := c_stepCount) (c_seenRules := c_seenRules) (c_at := w_2) (c_wordStart := w_3) (c_number := c_number) (c_failed := w_4) (c_tape_length := c_tape_length) (c_tape_bytes := c_tape_bytes) hc_9) (cwV 1 hts g_f_X3_readClause_f_X3_isWord_76 rfl rfl rfl hd_X3_isWord ⟨Nat.le_of_ble_eq_true rfl, Nat.le_of_ble_eq_true rfl⟩) ⟨qPZ.blind, hrc, (qPZ.pre ⟨hK, hN⟩ hPc hZ hS)⟩ rfl rfl hl.1 rfl (lv_room (Nat.le_of_ble_eq_true rfl)) dX3_readClause_12 ⟨Nat.le_of_ble_eq_true rfl, Nat.le_of_ble_eq_true rfl⟩) (fun hb_10 => ?_)
    refine lv_if_eq (tgt := 23) hx hb dX3_readClause_15 (by decide) (fun c_11 => ?_) (fun c_11 => ?_)
    ·
      replace hF := ip c_11 hF
      refine lv_aload_n hx hb dX3_readClause_23 rfl (lv_at hl 0 rfl) ?_
      replace hF := bd1_s hF
      obtain ⟨r_12, hc_13, hF⟩ := hF
      have hPc : va_P E.1 vwCl (w_X3_ruleOfWord E a_ a_tape a_rules a_places a_steps a_tape_bytes c_siteCount c_stepCount c_seenRules w_2 w_3 c_number w_4 c_tape_length c_tape_bytes) H := hP.sub (ws' := [(a_, .inr (4, [.ref a_tape, .ref a_rules, .ref a_places, .ref a_steps, .int c_siteCount, .int c_stepCount, .int c_seenRules, .int w_2, .int w_3, .int c_number, .int w_4])), (a_tape, .inr (7, [.ref a_tape_bytes, .int c_tape_length])), (a_tape_bytes, .inl (E.2.2.1, 320, .inl c_tape_bytes))]) [2, 3, 4] rfl
      have hrc := va_recv hK hPc (ci := 4) (q0 := 0) rfl rfl
      refine pE_i (va_runV (As := []) (rest := [])  ⟨hx, hb, hml, hown, hts⟩ (f_X3_ruleOfWord l E K z9 (a_ := a_) (a_tape := a_tape) (a_rules := a_rules) (a_places := a_places) (a_steps := a_steps) (a_tape_bytes := a_tape_bytes) (c_siteCount := c_siteCount) (c_stepCount := c_stepCount) (c_seenRules := c_seenRules) (c_at := w_2) (c_wordStart := w_3) (c_number := c_number) (c_failed := w_4) (c_tape_length := c_tape_length) (c_tape_bytes := c_tape_bytes) hc_13) (cwV 0 hts g_f_X3_readClause_f_X3_ruleOfWord_83 rfl rfl rfl hd_X3_ruleOfWord ⟨Nat.le_of_ble_eq_true rfl, Nat.le_of_ble_eq_true rfl⟩) ⟨qPZ.blind, hrc, (qPZ.pre ⟨hK, hN⟩ hPc hZ hS)⟩ rfl rfl hl.1 rfl (lv_room (Nat.le_of_ble_eq_true rfl)) dX3_readClause_24 ⟨Nat.le_of_ble_eq_true rfl, Nat.le_of_ble_eq_true rfl⟩) ?_
      refine lv_istore_n (lv' := [(1, .int r_12), (0, .ref a_)]) hx hb dX3_readClause_27 rfl hl (by decide) rfl (fun ls hl => ?_)
      refine lv_iload_n hx hb dX3_readClause_28 rfl (lv_at hl 0 rfl) ?_
      refine lv_if_lt (tgt := 52) hx hb dX3_readClause_29 (by decide) (fun c_14 => ?_) (fun c_14 => ?_)
      ·
        replace hF := ip c_14 hF
        refine lv_aload_n hx hb dX3_readClause_52 rfl (lv_at hl 1 rfl) ?_
        refine lv_aload_n hx hb dX3_readClause_53 rfl (lv_at hl 1 rfl) ?_
        refine gt_X3_8 (v := .int w_3) hx hb hts i_f_X3_readClause_X3 hown hK hP 2 rfl (hts (.fieldLink RX3 34 "HushWatch$Reader" "wordStart" "I") (List.mem_of_getElem? (i := 1) rfl)) rfl dX3_readClause_54 ?_
        replace hF := bd2_s hF
        obtain ⟨r_15, w_16, hc_17, hF⟩ := hF
        obtain ⟨hPc, hDc, hFc⟩ := wcut (wc := (w_X3_failAt E a_ a_tape a_rules a_places a_steps c_siteCount c_stepCount c_seenRules w_2 w_3 c_number w_4)) hP hD hS hA [2] (by decide) rfl
        have hrc := va_recv hK hPc (ci := 4) (q0 := 0) rfl rfl
        refine cE_z (wc := (w_X3_failAt E a_ a_tape a_rules a_places a_steps c_siteCount c_stepCount c_seenRules w_2 w_3 c_number w_4)) (wr := [(a_rules, .inl (E.2.1, 3, .inl c_rules)), (a_places, .inl (E.2.1, 16, .inl c_places)), (a_tape, .inr (7, [.ref a_tape_bytes, .int c_tape_length])), (a_tape_bytes, .inl (E.2.2.1, 320, .inl c_tape_bytes))]) (w1 := (w_X3_failAt E a_ a_tape a_rules a_places a_steps c_siteCount c_stepCount c_seenRules w_2 w_3 c_number w_16)) (va_runV (As := [.int w_3]) (rest := [])  ⟨hx, hb, hml, hown, hts⟩ (f_X3_failAt l E H.size (a_ := a_) (a_tape := a_tape) (a_rules := a_rules) (a_places := a_places) (a_steps := a_steps) (p1 := w_3) (c_siteCount := c_siteCount) (c_stepCount := c_stepCount) (c_seenRules := c_seenRules) (c_at := w_2) (c_wordStart := w_3) (c_number := c_number) (c_failed := w_4) hc_17) (cwV 1 hts g_f_X3_readClause_f_X3_failAt_87 rfl rfl rfl hd_X3_failAt ⟨Nat.le_of_ble_eq_true rfl, Nat.le_of_ble_eq_true rfl⟩) ⟨pW.blind, hrc, (pW.pre ⟨hK, hN⟩ hPc hDc)⟩ rfl rfl hl.1 rfl (lv_room (Nat.le_of_ble_eq_true rfl)) dX3_readClause_57 ⟨Nat.le_of_ble_eq_true rfl, Nat.le_of_ble_eq_true rfl⟩) hS hFc hP hD [2] [0, 1, 3, 4] rfl rfl (by decide) (by decide) (fun hb_18 H locs hP hD hS => ?_)
        replace hP : va_P E.1 vwCl [(a_rules, .inl (E.2.1, 3, .inl c_rules)), (a_places, .inl (E.2.1, 16, .inl c_places)), (a_tape, .inr (7, [.ref a_tape_bytes, .int c_tape_length])), (a_tape_bytes, .inl (E.2.2.1, 320, .inl c_tape_bytes)), (a_, .inr (4, [.ref a_tape, .ref a_rules, .ref a_places, .ref a_steps, .int c_siteCount, .int c_stepCount, .int c_seenRules, .int w_2, .int w_3, .int c_number, .int w_16]))] H := hP
        replace hD : va_D A [(a_rules, .inl (E.2.1, 3, .inl c_rules)), (a_places, .inl (E.2.1, 16, .inl c_places)), (a_tape, .inr (7, [.ref a_tape_bytes, .int c_tape_length])), (a_tape_bytes, .inl (E.2.2.1, 320, .inl c_tape_bytes)), (a_, .inr (4, [.ref a_tape, .ref a_rules, .ref a_places, .ref a_steps, .int c_siteCount, .int c_stepCount, .int c_seenRules, .int w_2, .int w_3, .int c_number, .int w_16]))] := hD
        rw [hQ]
        have h9 := fin9 (P := fun u9 : Int32 × (Nat → Int32) × (Nat → Int32) × Int32 × Int32 × Int32 × Int32 × Int32 × Int32 => r_15 = u9.1 ∧ va_P E.1 vwCl (w_X3_readClause E a_ a_tape a_rules a_places a_steps a_tape_bytes u9.2.2.2.1 c_stepCount u9.2.2.2.2.1 u9.2.2.2.2.2.1 u9.2.2.2.2.2.2.1 u9.2.2.2.2.2.2.2.1 u9.2.2.2.2.2.2.2.2 c_tape_length c_tape_bytes u9.2.1 u9.2.2.1) H ∧ va_D A (w_X3_readClause E a_ a_tape a_rules a_places a_steps a_tape_bytes u9.2.2.2.1 c_stepCount u9.2.2.2.2.1 u9.2.2.2.2.2.1 u9.2.2.2.2.2.2.1 u9.2.2.2.2.2.2.2.1 u9.2.2.2.2.2.2.2.2 c_tape_length c_tape_bytes u9.2.1 u9.2.2.1)) hF ⟨rfl, hP.sub [4, 2, 3, 0, 1] rfl, hD.sub [4, 2, 3, 0, 1] (by decide) rfl⟩
        obtain ⟨e9_0, hP9, hD9⟩ := h9
        exact W.zret (v := r_15) hx hb hr (nar_bool hb_18) (fun tt ht hW => ⟨⟨_, (), rfl, ⟨e9_0, hb_18⟩, ht ▸ hP9, hD9⟩, hS.F ht⟩) hS.2.2 dX3_readClause_60
      ·
        replace hF := inn c_14 hF
        refine lv_iload_n hx hb dX3_readClause_32 rfl (lv_at hl 0 rfl) ?_
        refine lv_aload_n hx hb dX3_readClause_33 rfl (lv_at hl 1 rfl) ?_
        refine gt_X3_1 (v := .ref a_rules) hx hb hts i_f_X3_readClause_X3 hown hK hP 2 rfl (hts (.fieldLink RX3 9 "HushWatch$Reader" "rules" "[I") (List.mem_of_getElem? (i := 2) rfl)) rfl dX3_readClause_34 ?_
        refine va_alen (v := 3) hx hb hK hP 0 0 rfl rfl rfl dX3_readClause_37 ?_
        refine lv_icmp_ge (tgt := 52) hx hb dX3_readClause_38 (by decide) (fun c_19 => ?_) (fun c_19 => ?_)
        ·
          replace hF := ip c_19 hF
          refine lv_aload_n hx hb dX3_readClause_52 rfl (lv_at hl 1 rfl) ?_
          refine lv_aload_n hx hb dX3_readClause_53 rfl (lv_at hl 1 rfl) ?_
          refine gt_X3_8 (v := .int w_3) hx hb hts i_f_X3_readClause_X3 hown hK hP 2 rfl (hts (.fieldLink RX3 34 "HushWatch$Reader" "wordStart" "I") (List.mem_of_getElem? (i := 1) rfl)) rfl dX3_readClause_54 ?_
          replace hF := bd2_s hF
          obtain ⟨r_20, w_21, hc_22, hF⟩ := hF
          obtain ⟨hPc, hDc, hFc⟩ := wcut (wc := (w_X3_failAt E a_ a_tape a_rules a_places a_steps c_siteCount c_stepCount c_seenRules w_2 w_3 c_number w_4)) hP hD hS hA [2] (by decide) rfl
          have hrc := va_recv hK hPc (ci := 4) (q0 := 0) rfl rfl
          refine cE_z (wc := (w_X3_failAt E a_ a_tape a_rules a_places a_steps c_siteCount c_stepCount c_seenRules w_2 w_3 c_number w_4)) (wr := [(a_rules, .inl (E.2.1, 3, .inl c_rules)), (a_places, .inl (E.2.1, 16, .inl c_places)), (a_tape, .inr (7, [.ref a_tape_bytes, .int c_tape_length])), (a_tape_bytes, .inl (E.2.2.1, 320, .inl c_tape_bytes))]) (w1 := (w_X3_failAt E a_ a_tape a_rules a_places a_steps c_siteCount c_stepCount c_seenRules w_2 w_3 c_number w_21)) (va_runV (As := [.int w_3]) (rest := [])  ⟨hx, hb, hml, hown, hts⟩ (f_X3_failAt l E H.size (a_ := a_) (a_tape := a_tape) (a_rules := a_rules) (a_places := a_places) (a_steps := a_steps) (p1 := w_3) (c_siteCount := c_siteCount) (c_stepCount := c_stepCount) (c_seenRules := c_seenRules) (c_at := w_2) (c_wordStart := w_3) (c_number := c_number) (c_failed := w_4) hc_22) (cwV 1 hts g_f_X3_readClause_f_X3_failAt_87 rfl rfl rfl hd_X3_failAt ⟨Nat.le_of_ble_eq_true rfl, Nat.le_of_ble_eq_true rfl⟩) ⟨pW.blind, hrc, (pW.pre ⟨hK, hN⟩ hPc hDc)⟩ rfl rfl hl.1 rfl (lv_room (Nat.le_of_ble_eq_true rfl)) dX3_readClause_57 ⟨Nat.le_of_ble_eq_true rfl, Nat.le_of_ble_eq_true rfl⟩) hS hFc hP hD [2] [0, 1, 3, 4] rfl rfl (by decide) (by decide) (fun hb_23 H locs hP hD hS => ?_)
          replace hP : va_P E.1 vwCl [(a_rules, .inl (E.2.1, 3, .inl c_rules)), (a_places, .inl (E.2.1, 16, .inl c_places)), (a_tape, .inr (7, [.ref a_tape_bytes, .int c_tape_length])), (a_tape_bytes, .inl (E.2.2.1, 320, .inl c_tape_bytes)), (a_, .inr (4, [.ref a_tape, .ref a_rules, .ref a_places, .ref a_steps, .int c_siteCount, .int c_stepCount, .int c_seenRules, .int w_2, .int w_3, .int c_number, .int w_21]))] H := hP
          replace hD : va_D A [(a_rules, .inl (E.2.1, 3, .inl c_rules)), (a_places, .inl (E.2.1, 16, .inl c_places)), (a_tape, .inr (7, [.ref a_tape_bytes, .int c_tape_length])), (a_tape_bytes, .inl (E.2.2.1, 320, .inl c_tape_bytes)), (a_, .inr (4, [.ref a_tape, .ref a_rules, .ref a_places, .ref a_steps, .int c_siteCount, .int c_stepCount, .int c_seenRules, .int w_2, .int w_3, .int c_number, .int w_21]))] := hD
          rw [hQ]
          have h9 := fin9 (P := fun u9 : Int32 × (Nat → Int32) × (Nat → Int32) × Int32 × Int32 × Int32 × Int32 × Int32 × Int32 => r_20 = u9.1 ∧ va_P E.1 vwCl (w_X3_readClause E a_ a_tape a_rules a_places a_steps a_tape_bytes u9.2.2.2.1 c_stepCount u9.2.2.2.2.1 u9.2.2.2.2.2.1 u9.2.2.2.2.2.2.1 u9.2.2.2.2.2.2.2.1 u9.2.2.2.2.2.2.2.2 c_tape_length c_tape_bytes u9.2.1 u9.2.2.1) H ∧ va_D A (w_X3_readClause E a_ a_tape a_rules a_places a_steps a_tape_bytes u9.2.2.2.1 c_stepCount u9.2.2.2.2.1 u9.2.2.2.2.2.1 u9.2.2.2.2.2.2.1 u9.2.2.2.2.2.2.2.1 u9.2.2.2.2.2.2.2.2 c_tape_length c_tape_bytes u9.2.1 u9.2.2.1)) hF ⟨rfl, hP.sub [4, 2, 3, 0, 1] rfl, hD.sub [4, 2, 3, 0, 1] (by decide) rfl⟩
          obtain ⟨e9_0, hP9, hD9⟩ := h9
          exact W.zret (v := r_20) hx hb hr (nar_bool hb_23) (fun tt ht hW => ⟨⟨_, (), rfl, ⟨e9_0, hb_23⟩, ht ▸ hP9, hD9⟩, hS.F ht⟩) hS.2.2 dX3_readClause_60
        ·
          replace hF := inn c_19 hF
          refine lv_aload_n hx hb dX3_readClause_41 rfl (lv_at hl 1 rfl) ?_
          refine gt_X3_6 (v := .int c_seenRules) hx hb hts i_f_X3_readClause_X3 hown hK hP 2 rfl (hts (.fieldLink RX3 28 "HushWatch$Reader" "seenRules" "I") (List.mem_of_getElem? (i := 3) rfl)) rfl dX3_readClause_42 ?_
          refine lv_iload_n hx hb dX3_readClause_45 rfl (lv_at hl 0 rfl) ?_
          refine lv_ishr hx hb dX3_readClause_46 ?_
          refine lv_iconst (v := 1) hx hb dX3_readClause_47 (by decide) ?_
          refine lv_iand hx hb dX3_readClause_48 ?_
          refine lv_if_eq (tgt := 61) hx hb dX3_readClause_49 (by decide) (fun c_24 => ?_) (fun c_24 => ?_)
          ·
            replace hF := ip c_24 hF
            refine lv_aload_n hx hb dX3_readClause_61 rfl (lv_at hl 1 rfl) ?_
            refine lv_dup hx hb dX3_readClause_62 rfl ?_
            refine gt_X3_6 (v := .int c_seenRules) hx hb hts i_f_X3_readClause_X3 hown hK hP 2 rfl (hts (.fieldLink RX3 28 "HushWatch$Reader" "seenRules" "I") (List.mem_of_getElem? (i := 3) rfl)) rfl dX3_readClause_63 ?_
            refine lv_iconst (v := 1) hx hb dX3_readClause_66 (by decide) ?_
            refine lv_iload_n hx hb dX3_readClause_67 rfl (lv_at hl 0 rfl) ?_
            refine lv_ishl hx hb dX3_readClause_68 ?_
            refine lv_ior hx hb dX3_readClause_69 ?_
            refine pt_X3_6 (v := .int (c_seenRules ||| ((1 : Int32) <<< (r_12 &&& (31 : Int32))))) hx hb hts i_f_X3_readClause_X3 hown hK hP hD hS 2 rfl (hts (.fieldLink RX3 28 "HushWatch$Reader" "seenRules" "I") (List.mem_of_getElem? (i := 3) rfl)) rfl rfl (Nat.le_of_ble_eq_true rfl) dX3_readClause_70 (fun H locs hP hD hS => ?_)
            replace hP : va_P E.1 vwCl [(a_rules, .inl (E.2.1, 3, .inl c_rules)), (a_places, .inl (E.2.1, 16, .inl c_places)), (a_, .inr (4, [.ref a_tape, .ref a_rules, .ref a_places, .ref a_steps, .int c_siteCount, .int c_stepCount, .int (c_seenRules ||| ((1 : Int32) <<< (r_12 &&& (31 : Int32)))), .int w_2, .int w_3, .int c_number, .int w_4])), (a_tape, .inr (7, [.ref a_tape_bytes, .int c_tape_length])), (a_tape_bytes, .inl (E.2.2.1, 320, .inl c_tape_bytes))] H := hP
            replace hD : va_D A [(a_rules, .inl (E.2.1, 3, .inl c_rules)), (a_places, .inl (E.2.1, 16, .inl c_places)), (a_, .inr (4, [.ref a_tape, .ref a_rules, .ref a_places, .ref a_steps, .int c_siteCount, .int c_stepCount, .int (c_seenRules ||| ((1 : Int32) <<< (r_12 &&& (31 : Int32)))), .int w_2, .int w_3, .int c_number, .int w_4])), (a_tape, .inr (7, [.ref a_tape_bytes, .int c_tape_length])), (a_tape_bytes, .inl (E.2.2.1, 320, .inl c_tape_bytes))] := hD
            refine lv_iload_n hx hb dX3_readClause_73 rfl (lv_at hl 0 rfl) ?_
            refine lv_if_ne (tgt := 84) hx hb dX3_readClause_74 (by decide) (fun c_25 => ?_) (fun c_25 => ?_)
            ·
              replace hF := inn c_25 hF
              refine lv_iload_n hx hb dX3_readClause_84 rfl (lv_at hl 0 rfl) ?_
              refine lv_iconst (v := 1) hx hb dX3_readClause_85 (by decide) ?_
              refine lv_icmp_ne (tgt := 100) hx hb dX3_readClause_86 (by decide) (fun c_26 => ?_) (fun c_26 => ?_)
              ·
                replace hF := inn c_26 hF
                refine lv_aload_n hx hb dX3_readClause_100 rfl (lv_at hl 1 rfl) ?_
                refine lv_iconst (v := 1) hx hb dX3_readClause_101 (by decide) ?_
                refine lv_sipush (v := 9999) hx hb dX3_readClause_102 (by decide) ?_
                replace hF := bd4_s hF
                obtain ⟨r_27, w_28, w_29, w_30, hc_31, hF⟩ := hF
                obtain ⟨hPc, hDc, hFc⟩ := wcut (wc := (w_X3_readNumber E a_ a_tape a_rules a_places a_steps a_tape_bytes c_siteCount c_stepCount (c_seenRules ||| ((1 : Int32) <<< (r_12 &&& (31 : Int32)))) w_2 w_3 c_number w_4 c_tape_length c_tape_bytes)) hP hD hS hA [2, 3, 4] (by decide) rfl
                have hrc := va_recv hK hPc (ci := 4) (q0 := 0) rfl rfl
                refine cE_z (wc := (w_X3_readNumber E a_ a_tape a_rules a_places a_steps a_tape_bytes c_siteCount c_stepCount (c_seenRules ||| ((1 : Int32) <<< (r_12 &&& (31 : Int32)))) w_2 w_3 c_number w_4 c_tape_length c_tape_bytes)) (wr := [(a_rules, .inl (E.2.1, 3, .inl c_rules)), (a_places, .inl (E.2.1, 16, .inl c_places))]) (w1 := (w_X3_readNumber E a_ a_tape a_rules a_places a_steps a_tape_bytes c_siteCount c_stepCount (c_seenRules ||| ((1 : Int32) <<< (r_12 &&& (31 : Int32)))) w_28 w_3 w_29 w_30 c_tape_length c_tape_bytes)) (va_runV (As := [.int (1 : Int32), .int (9999 : Int32)]) (rest := [])  ⟨hx, hb, hml, hown, hts⟩ (f_X3_readNumber l E H.size K (a_ := a_) (a_tape := a_tape) (a_rules := a_rules) (a_places := a_places) (a_steps := a_steps) (a_tape_bytes := a_tape_bytes) (p1 := (1 : Int32)) (p2 := (9999 : Int32)) (c_siteCount := c_siteCount) (c_stepCount := c_stepCount) (c_seenRules := c_seenRules ||| ((1 : Int32) <<< (r_12 &&& (31 : Int32)))) (c_at := w_2) (c_wordStart := w_3) (c_number := c_number) (c_failed := w_4) (c_tape_length := c_tape_length) (c_tape_bytes := c_tape_bytes) hc_31) (cwV 2 hts g_f_X3_readClause_f_X3_readNumber_96 rfl rfl rfl hd_X3_readNumber ⟨Nat.le_of_ble_eq_true rfl, Nat.le_of_ble_eq_true rfl⟩) ⟨pW.blind, hrc, (pW.pre ⟨hK, hN⟩ hPc hDc)⟩ rfl rfl hl.1 rfl (lv_room (Nat.le_of_ble_eq_true rfl)) dX3_readClause_105 ⟨Nat.le_of_ble_eq_true rfl, Nat.le_of_ble_eq_true rfl⟩) hS hFc hP hD [2, 3, 4] [0, 1] rfl rfl (by decide) (by decide) (fun hb_32 H locs hP hD hS => ?_)
                replace hP : va_P E.1 vwCl [(a_rules, .inl (E.2.1, 3, .inl c_rules)), (a_places, .inl (E.2.1, 16, .inl c_places)), (a_, .inr (4, [.ref a_tape, .ref a_rules, .ref a_places, .ref a_steps, .int c_siteCount, .int c_stepCount, .int (c_seenRules ||| ((1 : Int32) <<< (r_12 &&& (31 : Int32)))), .int w_28, .int w_3, .int w_29, .int w_30])), (a_tape, .inr (7, [.ref a_tape_bytes, .int c_tape_length])), (a_tape_bytes, .inl (E.2.2.1, 320, .inl c_tape_bytes))] H := hP
                replace hD : va_D A [(a_rules, .inl (E.2.1, 3, .inl c_rules)), (a_places, .inl (E.2.1, 16, .inl c_places)), (a_, .inr (4, [.ref a_tape, .ref a_rules, .ref a_places, .ref a_steps, .int c_siteCount, .int c_stepCount, .int (c_seenRules ||| ((1 : Int32) <<< (r_12 &&& (31 : Int32)))), .int w_28, .int w_3, .int w_29, .int w_30])), (a_tape, .inr (7, [.ref a_tape_bytes, .int c_tape_length])), (a_tape_bytes, .inl (E.2.2.1, 320, .inl c_tape_bytes))] := hD
                exact j_X3_readClause_108 l E K (c_stepCount := c_stepCount) (c_tape_length := c_tape_length) (c_tape_bytes := c_tape_bytes) (k0 := r_27) (x1 := r_12) (c_rules := c_rules) (c_places := c_places) (c_siteCount := c_siteCount) (c_seenRules := c_seenRules ||| ((1 : Int32) <<< (r_12 &&& (31 : Int32)))) (c_at := w_28) (c_wordStart := w_3) (c_number := w_29) (c_failed := w_30) hx hb hml hown hts hK hN hA hZ hr hlocks hQ hF H locs ls (hP.sub [2, 3, 4, 0, 1] rfl) (hD.sub [2, 3, 4, 0, 1] (by decide) rfl) hS (lv_sub hl [1, 0] rfl)
              ·
                replace hF := ip c_26 hF
                refine lv_aload_n hx hb dX3_readClause_89 rfl (lv_at hl 1 rfl) ?_
                refine lv_ldc (v := -9999999) hx hb hown (hts (.constant RX3 94 (-9999999)) (List.mem_of_getElem? (i := 5) rfl)) dX3_readClause_90 ?_
                refine lv_ldc (v := 9999999) hx hb hown (hts (.constant RX3 95 (9999999)) (List.mem_of_getElem? (i := 6) rfl)) dX3_readClause_92 ?_
                replace hF := bd4_s hF
                obtain ⟨r_38, w_39, w_40, w_41, hc_42, hF⟩ := hF
                obtain ⟨hPc, hDc, hFc⟩ := wcut (wc := (w_X3_readNumber E a_ a_tape a_rules a_places a_steps a_tape_bytes c_siteCount c_stepCount (c_seenRules ||| ((1 : Int32) <<< (r_12 &&& (31 : Int32)))) w_2 w_3 c_number w_4 c_tape_length c_tape_bytes)) hP hD hS hA [2, 3, 4] (by decide) rfl
                have hrc := va_recv hK hPc (ci := 4) (q0 := 0) rfl rfl
                refine cE_z (wc := (w_X3_readNumber E a_ a_tape a_rules a_places a_steps a_tape_bytes c_siteCount c_stepCount (c_seenRules ||| ((1 : Int32) <<< (r_12 &&& (31 : Int32)))) w_2 w_3 c_number w_4 c_tape_length c_tape_bytes)) (wr := [(a_rules, .inl (E.2.1, 3, .inl c_rules)), (a_places, .inl (E.2.1, 16, .inl c_places))]) (w1 := (w_X3_readNumber E a_ a_tape a_rules a_places a_steps a_tape_bytes c_siteCount c_stepCount (c_seenRules ||| ((1 : Int32) <<< (r_12 &&& (31 : Int32)))) w_39 w_3 w_40 w_41 c_tape_length c_tape_bytes)) (va_runV (As := [.int (-9999999 : Int32), .int (9999999 : Int32)]) (rest := [])  ⟨hx, hb, hml, hown, hts⟩ (f_X3_readNumber l E H.size K (a_ := a_) (a_tape := a_tape) (a_rules := a_rules) (a_places := a_places) (a_steps := a_steps) (a_tape_bytes := a_tape_bytes) (p1 := (-9999999 : Int32)) (p2 := (9999999 : Int32)) (c_siteCount := c_siteCount) (c_stepCount := c_stepCount) (c_seenRules := c_seenRules ||| ((1 : Int32) <<< (r_12 &&& (31 : Int32)))) (c_at := w_2) (c_wordStart := w_3) (c_number := c_number) (c_failed := w_4) (c_tape_length := c_tape_length) (c_tape_bytes := c_tape_bytes) hc_42) (cwV 2 hts g_f_X3_readClause_f_X3_readNumber_96 rfl rfl rfl hd_X3_readNumber ⟨Nat.le_of_ble_eq_true rfl, Nat.le_of_ble_eq_true rfl⟩) ⟨pW.blind, hrc, (pW.pre ⟨hK, hN⟩ hPc hDc)⟩ rfl rfl hl.1 rfl (lv_room (Nat.le_of_ble_eq_true rfl)) dX3_readClause_94 ⟨Nat.le_of_ble_eq_true rfl, Nat.le_of_ble_eq_true rfl⟩) hS hFc hP hD [2, 3, 4] [0, 1] rfl rfl (by decide) (by decide) (fun hb_43 H locs hP hD hS => ?_)
                replace hP : va_P E.1 vwCl [(a_rules, .inl (E.2.1, 3, .inl c_rules)), (a_places, .inl (E.2.1, 16, .inl c_places)), (a_, .inr (4, [.ref a_tape, .ref a_rules, .ref a_places, .ref a_steps, .int c_siteCount, .int c_stepCount, .int (c_seenRules ||| ((1 : Int32) <<< (r_12 &&& (31 : Int32)))), .int w_39, .int w_3, .int w_40, .int w_41])), (a_tape, .inr (7, [.ref a_tape_bytes, .int c_tape_length])), (a_tape_bytes, .inl (E.2.2.1, 320, .inl c_tape_bytes))] H := hP
                replace hD : va_D A [(a_rules, .inl (E.2.1, 3, .inl c_rules)), (a_places, .inl (E.2.1, 16, .inl c_places)), (a_, .inr (4, [.ref a_tape, .ref a_rules, .ref a_places, .ref a_steps, .int c_siteCount, .int c_stepCount, .int (c_seenRules ||| ((1 : Int32) <<< (r_12 &&& (31 : Int32)))), .int w_39, .int w_3, .int w_40, .int w_41])), (a_tape, .inr (7, [.ref a_tape_bytes, .int c_tape_length])), (a_tape_bytes, .inl (E.2.2.1, 320, .inl c_tape_bytes))] := hD
                refine lv_goto (tgt := 108) hx hb dX3_readClause_97 (by decide) ?_
                exact j_X3_readClause_108 l E K (c_stepCount := c_stepCount) (c_tape_length := c_tape_length) (c_tape_bytes := c_tape_bytes) (k0 := r_38) (x1 := r_12) (c_rules := c_rules) (c_places := c_places) (c_siteCount := c_siteCount) (c_seenRules := c_seenRules ||| ((1 : Int32) <<< (r_12 &&& (31 : Int32)))) (c_at := w_39) (c_wordStart := w_3) (c_number := w_40) (c_failed := w_41) hx hb hml hown hts hK hN hA hZ hr hlocks hQ hF H locs ls (hP.sub [2, 3, 4, 0, 1] rfl) (hD.sub [2, 3, 4, 0, 1] (by decide) rfl) hS (lv_sub hl [1, 0] rfl)
            ·
              replace hF := ip c_25 hF
              refine lv_aload_n hx hb dX3_readClause_77 rfl (lv_at hl 1 rfl) ?_
              replace hF := bd5_s hF
              obtain ⟨r_44, w_45, w_46, w_47, w_48, hc_49, hF⟩ := hF
              obtain ⟨hPc, hDc, hFc⟩ := wcut (wc := (w_X3_readLaw E a_ a_tape a_rules a_places a_steps a_tape_bytes c_siteCount c_stepCount (c_seenRules ||| ((1 : Int32) <<< (r_12 &&& (31 : Int32)))) w_2 w_3 c_number w_4 c_tape_length c_tape_bytes)) hP hD hS hA [2, 3, 4] (by decide) rfl
              have hrc := va_recv hK hPc (ci := 4) (q0 := 0) rfl rfl
              refine cE_z (wc := (w_X3_readLaw E a_ a_tape a_rules a_places a_steps a_tape_bytes c_siteCount c_stepCount (c_seenRules ||| ((1 : Int32) <<< (r_12 &&& (31 : Int32)))) w_2 w_3 c_number w_4 c_tape_length c_tape_bytes)) (wr := [(a_rules, .inl (E.2.1, 3, .inl c_rules)), (a_places, .inl (E.2.1, 16, .inl c_places))]) (w1 := (w_X3_readLaw E a_ a_tape a_rules a_places a_steps a_tape_bytes c_siteCount c_stepCount (c_seenRules ||| ((1 : Int32) <<< (r_12 &&& (31 : Int32)))) w_45 w_46 w_47 w_48 c_tape_length c_tape_bytes)) (va_runV (As := []) (rest := [])  ⟨hx, hb, hml, hown, hts⟩ (f_X3_readLaw l E H.size K z9 (a_ := a_) (a_tape := a_tape) (a_rules := a_rules) (a_places := a_places) (a_steps := a_steps) (a_tape_bytes := a_tape_bytes) (c_siteCount := c_siteCount) (c_stepCount := c_stepCount) (c_seenRules := c_seenRules ||| ((1 : Int32) <<< (r_12 &&& (31 : Int32)))) (c_at := w_2) (c_wordStart := w_3) (c_number := c_number) (c_failed := w_4) (c_tape_length := c_tape_length) (c_tape_bytes := c_tape_bytes) hc_49) (cwV 0 hts g_f_X3_readClause_f_X3_readLaw_91 rfl rfl rfl hd_X3_readLaw ⟨Nat.le_of_ble_eq_true rfl, Nat.le_of_ble_eq_true rfl⟩) ⟨qWZ.blind, hrc, (qWZ.pre ⟨hK, hN⟩ hPc hDc hZ hS hFc)⟩ rfl rfl hl.1 rfl (lv_room (Nat.le_of_ble_eq_true rfl)) dX3_readClause_78 ⟨Nat.le_of_ble_eq_true rfl, Nat.le_of_ble_eq_true rfl⟩) hS hFc hP hD [2, 3, 4] [0, 1] rfl rfl (by decide) (by decide) (fun hb_50 H locs hP hD hS => ?_)
              replace hP : va_P E.1 vwCl [(a_rules, .inl (E.2.1, 3, .inl c_rules)), (a_places, .inl (E.2.1, 16, .inl c_places)), (a_, .inr (4, [.ref a_tape, .ref a_rules, .ref a_places, .ref a_steps, .int c_siteCount, .int c_stepCount, .int (c_seenRules ||| ((1 : Int32) <<< (r_12 &&& (31 : Int32)))), .int w_45, .int w_46, .int w_47, .int w_48])), (a_tape, .inr (7, [.ref a_tape_bytes, .int c_tape_length])), (a_tape_bytes, .inl (E.2.2.1, 320, .inl c_tape_bytes))] H := hP
              replace hD : va_D A [(a_rules, .inl (E.2.1, 3, .inl c_rules)), (a_places, .inl (E.2.1, 16, .inl c_places)), (a_, .inr (4, [.ref a_tape, .ref a_rules, .ref a_places, .ref a_steps, .int c_siteCount, .int c_stepCount, .int (c_seenRules ||| ((1 : Int32) <<< (r_12 &&& (31 : Int32)))), .int w_45, .int w_46, .int w_47, .int w_48])), (a_tape, .inr (7, [.ref a_tape_bytes, .int c_tape_length])), (a_tape_bytes, .inl (E.2.2.1, 320, .inl c_tape_bytes))] := hD
              refine lv_goto (tgt := 108) hx hb dX3_readClause_81 (by decide) ?_
              exact j_X3_readClause_108 l E K (c_stepCount := c_stepCount) (c_tape_length := c_tape_length) (c_tape_bytes := c_tape_bytes) (k0 := r_44) (x1 := r_12) (c_rules := c_rules) (c_places := c_places) (c_siteCount := c_siteCount) (c_seenRules := c_seenRules ||| ((1 : Int32) <<< (r_12 &&& (31 : Int32)))) (c_at := w_45) (c_wordStart := w_46) (c_number := w_47) (c_failed := w_48) hx hb hml hown hts hK hN hA hZ hr hlocks hQ hF H locs ls (hP.sub [2, 3, 4, 0, 1] rfl) (hD.sub [2, 3, 4, 0, 1] (by decide) rfl) hS (lv_sub hl [1, 0] rfl)
          ·
            replace hF := inn c_24 hF
            refine lv_aload_n hx hb dX3_readClause_52 rfl (lv_at hl 1 rfl) ?_
            refine lv_aload_n hx hb dX3_readClause_53 rfl (lv_at hl 1 rfl) ?_
            refine gt_X3_8 (v := .int w_3) hx hb hts i_f_X3_readClause_X3 hown hK hP 2 rfl (hts (.fieldLink RX3 34 "HushWatch$Reader" "wordStart" "I") (List.mem_of_getElem? (i := 1) rfl)) rfl dX3_readClause_54 ?_
            replace hF := bd2_s hF
            obtain ⟨r_51, w_52, hc_53, hF⟩ := hF
            obtain ⟨hPc, hDc, hFc⟩ := wcut (wc := (w_X3_failAt E a_ a_tape a_rules a_places a_steps c_siteCount c_stepCount c_seenRules w_2 w_3 c_number w_4)) hP hD hS hA [2] (by decide) rfl
            have hrc := va_recv hK hPc (ci := 4) (q0 := 0) rfl rfl
            refine cE_z (wc := (w_X3_failAt E a_ a_tape a_rules a_places a_steps c_siteCount c_stepCount c_seenRules w_2 w_3 c_number w_4)) (wr := [(a_rules, .inl (E.2.1, 3, .inl c_rules)), (a_places, .inl (E.2.1, 16, .inl c_places)), (a_tape, .inr (7, [.ref a_tape_bytes, .int c_tape_length])), (a_tape_bytes, .inl (E.2.2.1, 320, .inl c_tape_bytes))]) (w1 := (w_X3_failAt E a_ a_tape a_rules a_places a_steps c_siteCount c_stepCount c_seenRules w_2 w_3 c_number w_52)) (va_runV (As := [.int w_3]) (rest := [])  ⟨hx, hb, hml, hown, hts⟩ (f_X3_failAt l E H.size (a_ := a_) (a_tape := a_tape) (a_rules := a_rules) (a_places := a_places) (a_steps := a_steps) (p1 := w_3) (c_siteCount := c_siteCount) (c_stepCount := c_stepCount) (c_seenRules := c_seenRules) (c_at := w_2) (c_wordStart := w_3) (c_number := c_number) (c_failed := w_4) hc_53) (cwV 1 hts g_f_X3_readClause_f_X3_failAt_87 rfl rfl rfl hd_X3_failAt ⟨Nat.le_of_ble_eq_true rfl, Nat.le_of_ble_eq_true rfl⟩) ⟨pW.blind, hrc, (pW.pre ⟨hK, hN⟩ hPc hDc)⟩ rfl rfl hl.1 rfl (lv_room (Nat.le_of_ble_eq_true rfl)) dX3_readClause_57 ⟨Nat.le_of_ble_eq_true rfl, Nat.le_of_ble_eq_true rfl⟩) hS hFc hP hD [2] [0, 1, 3, 4] rfl rfl (by decide) (by decide) (fun hb_54 H locs hP hD hS => ?_)
            replace hP : va_P E.1 vwCl [(a_rules, .inl (E.2.1, 3, .inl c_rules)), (a_places, .inl (E.2.1, 16, .inl c_places)), (a_tape, .inr (7, [.ref a_tape_bytes, .int c_tape_length])), (a_tape_bytes, .inl (E.2.2.1, 320, .inl c_tape_bytes)), (a_, .inr (4, [.ref a_tape, .ref a_rules, .ref a_places, .ref a_steps, .int c_siteCount, .int c_stepCount, .int c_seenRules, .int w_2, .int w_3, .int c_number, .int w_52]))] H := hP
            replace hD : va_D A [(a_rules, .inl (E.2.1, 3, .inl c_rules)), (a_places, .inl (E.2.1, 16, .inl c_places)), (a_tape, .inr (7, [.ref a_tape_bytes, .int c_tape_length])), (a_tape_bytes, .inl (E.2.2.1, 320, .inl c_tape_bytes)), (a_, .inr (4, [.ref a_tape, .ref a_rules, .ref a_places, .ref a_steps, .int c_siteCount, .int c_stepCount, .int c_seenRules, .int w_2, .int w_3, .int c_number, .int w_52]))] := hD
            rw [hQ]
            have h9 := fin9 (P := fun u9 : Int32 × (Nat → Int32) × (Nat → Int32) × Int32 × Int32 × Int32 × Int32 × Int32 × Int32 => r_51 = u9.1 ∧ va_P E.1 vwCl (w_X3_readClause E a_ a_tape a_rules a_places a_steps a_tape_bytes u9.2.2.2.1 c_stepCount u9.2.2.2.2.1 u9.2.2.2.2.2.1 u9.2.2.2.2.2.2.1 u9.2.2.2.2.2.2.2.1 u9.2.2.2.2.2.2.2.2 c_tape_length c_tape_bytes u9.2.1 u9.2.2.1) H ∧ va_D A (w_X3_readClause E a_ a_tape a_rules a_places a_steps a_tape_bytes u9.2.2.2.1 c_stepCount u9.2.2.2.2.1 u9.2.2.2.2.2.1 u9.2.2.2.2.2.2.1 u9.2.2.2.2.2.2.2.1 u9.2.2.2.2.2.2.2.2 c_tape_length c_tape_bytes u9.2.1 u9.2.2.1)) hF ⟨rfl, hP.sub [4, 2, 3, 0, 1] rfl, hD.sub [4, 2, 3, 0, 1] (by decide) rfl⟩
            obtain ⟨e9_0, hP9, hD9⟩ := h9
            exact W.zret (v := r_51) hx hb hr (nar_bool hb_54) (fun tt ht hW => ⟨⟨_, (), rfl, ⟨e9_0, hb_54⟩, ht ▸ hP9, hD9⟩, hS.F ht⟩) hS.2.2 dX3_readClause_60
    ·
      replace hF := inn c_11 hF
      refine lv_aload_n hx hb dX3_readClause_18 rfl (lv_at hl 0 rfl) ?_
      replace hF := bd6_s hF
      obtain ⟨r_55, w_56, w_57, w_58, w_59, w_60, hc_61, hF⟩ := hF
      obtain ⟨hPc, hDc, hFc⟩ := wcut (wc := (w_X3_readSite E a_ a_tape a_rules a_places a_steps a_tape_bytes c_siteCount c_stepCount c_seenRules w_2 w_3 c_number w_4 c_tape_length c_tape_bytes c_places)) hP hD hS hA [2, 3, 4, 1] (by decide) rfl
      have hrc := va_recv hK hPc (ci := 4) (q0 := 0) rfl rfl
      refine cE_z (wc := (w_X3_readSite E a_ a_tape a_rules a_places a_steps a_tape_bytes c_siteCount c_stepCount c_seenRules w_2 w_3 c_number w_4 c_tape_length c_tape_bytes c_places)) (wr := [(a_rules, .inl (E.2.1, 3, .inl c_rules))]) (w1 := (w_X3_readSite E a_ a_tape a_rules a_places a_steps a_tape_bytes w_57 c_stepCount c_seenRules w_58 w_3 w_59 w_60 c_tape_length c_tape_bytes w_56)) (va_runV (As := []) (rest := [])  ⟨hx, hb, hml, hown, hts⟩ (f_X3_readSite l E H.size K (a_ := a_) (a_tape := a_tape) (a_rules := a_rules) (a_places := a_places) (a_steps := a_steps) (a_tape_bytes := a_tape_bytes) (c_siteCount := c_siteCount) (c_stepCount := c_stepCount) (c_seenRules := c_seenRules) (c_at := w_2) (c_wordStart := w_3) (c_number := c_number) (c_failed := w_4) (c_tape_length := c_tape_length) (c_tape_bytes := c_tape_bytes) (c_places := c_places) hc_61) (cwV 0 hts g_f_X3_readClause_f_X3_readSite_80 rfl rfl rfl hd_X3_readSite ⟨Nat.le_of_ble_eq_true rfl, Nat.le_of_ble_eq_true rfl⟩) ⟨pW.blind, hrc, (pW.pre ⟨hK, hN⟩ hPc hDc)⟩ rfl rfl hl.1 rfl (lv_room (Nat.le_of_ble_eq_true rfl)) dX3_readClause_19 ⟨Nat.le_of_ble_eq_true rfl, Nat.le_of_ble_eq_true rfl⟩) hS hFc hP hD [2, 3, 4, 1] [0] rfl rfl (by decide) (by decide) (fun hb_62 H locs hP hD hS => ?_)
      replace hP : va_P E.1 vwCl [(a_rules, .inl (E.2.1, 3, .inl c_rules)), (a_, .inr (4, [.ref a_tape, .ref a_rules, .ref a_places, .ref a_steps, .int w_57, .int c_stepCount, .int c_seenRules, .int w_58, .int w_3, .int w_59, .int w_60])), (a_tape, .inr (7, [.ref a_tape_bytes, .int c_tape_length])), (a_tape_bytes, .inl (E.2.2.1, 320, .inl c_tape_bytes)), (a_places, .inl (E.2.1, 16, .inl w_56))] H := hP
      replace hD : va_D A [(a_rules, .inl (E.2.1, 3, .inl c_rules)), (a_, .inr (4, [.ref a_tape, .ref a_rules, .ref a_places, .ref a_steps, .int w_57, .int c_stepCount, .int c_seenRules, .int w_58, .int w_3, .int w_59, .int w_60])), (a_tape, .inr (7, [.ref a_tape_bytes, .int c_tape_length])), (a_tape_bytes, .inl (E.2.2.1, 320, .inl c_tape_bytes)), (a_places, .inl (E.2.1, 16, .inl w_56))] := hD
      rw [hQ]
      have h9 := fin9 (P := fun u9 : Int32 × (Nat → Int32) × (Nat → Int32) × Int32 × Int32 × Int32 × Int32 × Int32 × Int32 => r_55 = u9.1 ∧ va_P E.1 vwCl (w_X3_readClause E a_ a_tape a_rules a_places a_steps a_tape_bytes u9.2.2.2.1 c_stepCount u9.2.2.2.2.1 u9.2.2.2.2.2.1 u9.2.2.2.2.2.2.1 u9.2.2.2.2.2.2.2.1 u9.2.2.2.2.2.2.2.2 c_tape_length c_tape_bytes u9.2.1 u9.2.2.1) H ∧ va_D A (w_X3_readClause E a_ a_tape a_rules a_places a_steps a_tape_bytes u9.2.2.2.1 c_stepCount u9.2.2.2.2.1 u9.2.2.2.2.2.1 u9.2.2.2.2.2.2.1 u9.2.2.2.2.2.2.2.1 u9.2.2.2.2.2.2.2.2 c_tape_length c_tape_bytes u9.2.1 u9.2.2.1)) hF ⟨rfl, hP.sub [1, 2, 3, 0, 4] rfl, hD.sub [1, 2, 3, 0, 4] (by decide) rfl⟩
      obtain ⟨e9_0, hP9, hD9⟩ := h9
      exact W.zret (v := r_55) hx hb hr (nar_bool hb_62) (fun tt ht hW => ⟨⟨_, (), rfl, ⟨e9_0, hb_62⟩, ht ▸ hP9, hD9⟩, hS.F ht⟩) hS.2.2 dX3_readClause_22
  ·
    replace hF := ip c_7 hF
    refine lv_iconst (v := 0) hx hb dX3_readClause_7 (by decide) ?_
    rw [hQ]
    have h9 := fin9 (P := fun u9 : Int32 × (Nat → Int32) × (Nat → Int32) × Int32 × Int32 × Int32 × Int32 × Int32 × Int32 => (0 : Int32) = u9.1 ∧ va_P E.1 vwCl (w_X3_readClause E a_ a_tape a_rules a_places a_steps a_tape_bytes u9.2.2.2.1 c_stepCount u9.2.2.2.2.1 u9.2.2.2.2.2.1 u9.2.2.2.2.2.2.1 u9.2.2.2.2.2.2.2.1 u9.2.2.2.2.2.2.2.2 c_tape_length c_tape_bytes u9.2.1 u9.2.2.1) H ∧ va_D A (w_X3_readClause E a_ a_tape a_rules a_places a_steps a_tape_bytes u9.2.2.2.1 c_stepCount u9.2.2.2.2.1 u9.2.2.2.2.2.1 u9.2.2.2.2.2.2.1 u9.2.2.2.2.2.2.2.1 u9.2.2.2.2.2.2.2.2 c_tape_length c_tape_bytes u9.2.1 u9.2.2.1)) hF ⟨rfl, hP.sub [2, 3, 4, 0, 1] rfl, hD.sub [2, 3, 4, 0, 1] (by decide) rfl⟩
    obtain ⟨e9_0, hP9, hD9⟩ := h9
    exact W.zret (v := (0 : Int32)) hx hb hr rfl (fun tt ht hW => ⟨⟨_, (), rfl, ⟨e9_0, Or.inl rfl⟩, ht ▸ hP9, hD9⟩, hS.F ht⟩) hS.2.2 dX3_readClause_8

def F_X3_start (c_rules : Nat → Int32) (c_siteCount : Int32) (c_stepCount : Int32) (c_seenRules : Int32) (c_at : Int32) (c_failed : Int32) : Option ((Nat → Int32) × Int32 × Int32 × Int32 × Int32 × Int32) :=
  nmF (upd c_rules 0 (0 : Int32)) (fun f_1 => nmF (upd f_1 1 (1000 : Int32)) (fun f_2 => nmF (upd f_2 2 (100 : Int32)) (fun f_3 => some (f_3, (0 : Int32), (0 : Int32), (0 : Int32), (0 : Int32), (-1 : Int32)))))
abbrev w_X3_start (E : EE) (a_ a_tape a_rules a_places a_steps : Nat) (c_siteCount : Int32) (c_stepCount : Int32) (c_seenRules : Int32) (c_at : Int32) (c_wordStart : Int32) (c_number : Int32) (c_failed : Int32) (c_rules : Nat → Int32) : va_W := [(a_, .inr (4, [.ref a_tape, .ref a_rules, .ref a_places, .ref a_steps, .int c_siteCount, .int c_stepCount, .int c_seenRules, .int c_at, .int c_wordStart, .int c_number, .int c_failed])), (a_rules, .inl (E.2.1, 3, .inl c_rules))]
def v_f_X3_start : List Cond := .code yX3_start cX3_start 1 none :: ([.fieldLink RX3 9 "HushWatch$Reader" "rules" "[I", .fieldLink RX3 21 "HushWatch$Reader" "siteCount" "I", .fieldLink RX3 25 "HushWatch$Reader" "stepCount" "I", .fieldLink RX3 28 "HushWatch$Reader" "seenRules" "I", .fieldLink RX3 31 "HushWatch$Reader" "at" "I", .fieldLink RX3 40 "HushWatch$Reader" "failed" "I"] ++ (wsX30 ++ ([])))
theorem gw_f_X3_start : v_f_X3_start.all goodWord = true := by decide +kernel
theorem i_f_X3_start_X3 : ∀ w ∈ wsX30, w ∈ v_f_X3_start := fun _ h => List.mem_cons_of_mem _ (List.mem_append_right _ (List.mem_append_left _ h))
theorem hd_X3_start : yX3_start.cls = RX3 ∧ yX3_start.cls ≠ "java/lang/invoke/MethodHandle" ∧ yX3_start.cls ≠ "java/lang/invoke/VarHandle" ∧ (parseMethodDescriptor yX3_start.desc).map (fun d => d.parameters.length) = some 0 := by decide +kernel
set_option maxHeartbeats 4000000 in
set_option maxRecDepth 100000 in
theorem f_X3_start (l : Launch) (E : EE) (sz : Nat) {a_ a_tape a_rules a_places a_steps : Nat} {c_siteCount : Int32} {c_stepCount : Int32} {c_seenRules : Int32} {c_at : Int32} {c_wordStart : Int32} {c_number : Int32} {c_failed : Int32} {c_rules : Nat → Int32} {n_rules : Nat → Int32} {n_siteCount : Int32} {n_stepCount : Int32} {n_seenRules : Int32} {n_at : Int32} {n_failed : Int32} (hF : F_X3_start c_rules c_siteCount c_stepCount c_seenRules c_at c_failed = some (n_rules, n_siteCount, n_stepCount, n_seenRules, n_at, n_failed)) : Met l yX3_start v_f_X3_start (({ frames := 0, cells := 0, slots := 0, locals := 0 } : Room)) (va_Pc [.ref a_] (pW E sz (w_X3_start E a_ a_tape a_rules a_places a_steps c_siteCount c_stepCount c_seenRules c_at c_wordStart c_number c_failed c_rules))) (va_Qv (fun (_u : Unit) => True) (fun (_u : Unit) tt => va_P E.1 vwCl (w_X3_start E a_ a_tape a_rules a_places a_steps n_siteCount n_stepCount n_seenRules n_at c_wordStart c_number n_failed n_rules) tt.heap ∧ va_D (va_A (w_X3_start E a_ a_tape a_rules a_places a_steps c_siteCount c_stepCount c_seenRules c_at c_wordStart c_number c_failed c_rules) sz) (w_X3_start E a_ a_tape a_rules a_places a_steps n_siteCount n_stepCount n_seenRules n_at c_wordStart c_number n_failed n_rules)) (va_A (w_X3_start E a_ a_tape a_rules a_places a_steps c_siteCount c_stepCount c_seenRules c_at c_wordStart c_number c_failed c_rules) sz)) 0 0 (va_A (w_X3_start E a_ a_tape a_rules a_places a_steps c_siteCount c_stepCount c_seenRules c_at c_wordStart c_number c_failed c_rules) sz) := by
  refine Met.ofW (cc := cX3_start) (maxL := 1) (ret := none) (by decide) rfl ?_
  intro p e s m args below meth c s₁ B hml hv
  obtain ⟨rfl, hsz, ⟨hK, hN⟩, hP, hD0⟩ := hv
  have hx := B.exec
  have hb := B.bytes
  have hr := B.returns
  have hts := atoms_spec (ws := v_f_X3_start) B.pre
  have hown : s.vm.findClass RX3 = some m.cls := own_of hd_X3_start.1 (findClass_of_methodNamed B.named)
  have hlocks : meth.locks = false := B.notSynchronized
  subst hsz
  have hD := hD0.self (sz := s.heap.size)
  generalize hAe : va_A (w_X3_start E a_ a_tape a_rules a_places a_steps c_siteCount c_stepCount c_seenRules c_at c_wordStart c_number c_failed c_rules) s.heap.size = A at hD ⊢
  have hA : ∀ q : Nat, s.heap.size ≤ q → A q := fun q h => by rw [← hAe]; exact Or.inr h
  have hS : va_S A s.heap s.heap [] := va_S.rf
  have hl := lv_entry ([.ref a_]) (n := 1) (Nat.le_of_ble_eq_true rfl)
  rw [lg_entry_eq]
  generalize (lg_sl ([.ref a_]) ++ List.replicate (1 - (lg_sl ([.ref a_])).length) Slot.unset).toArray = ls at hl ⊢
  have hl : lv_has ls 1 [(0, .ref a_)] := hl
  obtain ⟨Q, hQ⟩ : ∃ Q : State → Prop, Q = MQ below (va_Qv (fun (_u : Unit) => True) (fun (_u : Unit) tt => va_P E.1 vwCl (w_X3_start E a_ a_tape a_rules a_places a_steps n_siteCount n_stepCount n_seenRules n_at c_wordStart c_number n_failed n_rules) tt.heap ∧ va_D A (w_X3_start E a_ a_tape a_rules a_places a_steps n_siteCount n_stepCount n_seenRules n_at c_wordStart c_number n_failed n_rules)) A) #[Value.ref a_] s 0 0 A := ⟨_, rfl⟩
  rw [← hQ]
  change W p l e ({ frames := 0, cells := 0, slots := 0, locals := 0 } : Room) s m #[Value.ref a_] below meth c s.heap [] 0 0 Q (F0 m 0 ls [])
  suffices hh9 : ∀ (H : Heap) (locs : List Loc), va_P E.1 vwCl (w_X3_start E a_ a_tape a_rules a_places a_steps c_siteCount c_stepCount c_seenRules c_at c_wordStart c_number c_failed c_rules) H → va_D A (w_X3_start E a_ a_tape a_rules a_places a_steps c_siteCount c_stepCount c_seenRules c_at c_wordStart c_number c_failed c_rules) → va_S A s.heap H locs → W p l e ({ frames := 0, cells := 0, slots := 0, locals := 0 } : Room) s m #[Value.ref a_] below meth c H locs 0 0 Q (F0 m 0 ls []) from hh9 s.heap [] hP hD hS
  clear hP hD hS
  intro H locs hP hD hS
  replace hP : va_P E.1 vwCl [(a_, .inr (4, [.ref a_tape, .ref a_rules, .ref a_places, .ref a_steps, .int c_siteCount, .int c_stepCount, .int c_seenRules, .int c_at, .int c_wordStart, .int c_number, .int c_failed])), (a_rules, .inl (E.2.1, 3, .inl c_rules))] H := hP
  replace hD : va_D A [(a_, .inr (4, [.ref a_tape, .ref a_rules, .ref a_places, .ref a_steps, .int c_siteCount, .int c_stepCount, .int c_seenRules, .int c_at, .int c_wordStart, .int c_number, .int c_failed])), (a_rules, .inl (E.2.1, 3, .inl c_rules))] := hD
  unfold F_X3_start at hF
  refine lv_aload_n hx hb dX3_start_0 rfl (lv_at hl 0 rfl) ?_
  refine gt_X3_1 (v := .ref a_rules) hx hb hts i_f_X3_start_X3 hown hK hP 0 rfl (hts (.fieldLink RX3 9 "HushWatch$Reader" "rules" "[I") (List.mem_of_getElem? (i := 1) rfl)) rfl dX3_start_1 ?_
  refine lv_iconst (v := 0) hx hb dX3_start_4 (by decide) ?_
  refine lv_iconst (v := 0) hx hb dX3_start_5 (by decide) ?_
  refine va_iast hx hb hK hP hD hS 1 0 rfl rfl (vin rfl) dX3_start_6 (fun H locs hP hD hS => ?_)
  replace hP : va_P E.1 vwCl [(a_, .inr (4, [.ref a_tape, .ref a_rules, .ref a_places, .ref a_steps, .int c_siteCount, .int c_stepCount, .int c_seenRules, .int c_at, .int c_wordStart, .int c_number, .int c_failed])), (a_rules, .inl (E.2.1, 3, .inl (upd c_rules 0 (0 : Int32))))] H := hP
  replace hD : va_D A [(a_, .inr (4, [.ref a_tape, .ref a_rules, .ref a_places, .ref a_steps, .int c_siteCount, .int c_stepCount, .int c_seenRules, .int c_at, .int c_wordStart, .int c_number, .int c_failed])), (a_rules, .inl (E.2.1, 3, .inl (upd c_rules 0 (0 : Int32))))] := hD
  replace hF := nm_s hF
  obtain ⟨f_1, hf_1, hF⟩ := hF
  rw [← hf_1] at hP hD
  refine lv_aload_n hx hb dX3_start_7 rfl (lv_at hl 0 rfl) ?_
  refine gt_X3_1 (v := .ref a_rules) hx hb hts i_f_X3_start_X3 hown hK hP 0 rfl (hts (.fieldLink RX3 9 "HushWatch$Reader" "rules" "[I") (List.mem_of_getElem? (i := 1) rfl)) rfl dX3_start_8 ?_
  refine lv_iconst (v := 1) hx hb dX3_start_11 (by decide) ?_
  refine lv_sipush (v := 1000) hx hb dX3_start_12 (by decide) ?_
  refine va_iast hx hb hK hP hD hS 1 0 rfl rfl (vin rfl) dX3_start_15 (fun H locs hP hD hS => ?_)
  replace hP : va_P E.1 vwCl [(a_, .inr (4, [.ref a_tape, .ref a_rules, .ref a_places, .ref a_steps, .int c_siteCount, .int c_stepCount, .int c_seenRules, .int c_at, .int c_wordStart, .int c_number, .int c_failed])), (a_rules, .inl (E.2.1, 3, .inl (upd f_1 1 (1000 : Int32))))] H := hP
  replace hD : va_D A [(a_, .inr (4, [.ref a_tape, .ref a_rules, .ref a_places, .ref a_steps, .int c_siteCount, .int c_stepCount, .int c_seenRules, .int c_at, .int c_wordStart, .int c_number, .int c_failed])), (a_rules, .inl (E.2.1, 3, .inl (upd f_1 1 (1000 : Int32))))] := hD
  replace hF := nm_s hF
  obtain ⟨f_2, hf_2, hF⟩ := hF
  rw [← hf_2] at hP hD
  refine lv_aload_n hx hb dX3_start_16 rfl (lv_at hl 0 rfl) ?_
  refine gt_X3_1 (v := .ref a_rules) hx hb hts i_f_X3_start_X3 hown hK hP 0 rfl (hts (.fieldLink RX3 9 "HushWatch$Reader" "rules" "[I") (List.mem_of_getElem? (i := 1) rfl)) rfl dX3_start_17 ?_
  refine lv_iconst (v := 2) hx hb dX3_start_20 (by decide) ?_
  refine lv_bipush (v := 100) hx hb dX3_start_21 (by decide) ?_
  refine va_iast hx hb hK hP hD hS 1 0 rfl rfl (vin rfl) dX3_start_23 (fun H locs hP hD hS => ?_)
  replace hP : va_P E.1 vwCl [(a_, .inr (4, [.ref a_tape, .ref a_rules, .ref a_places, .ref a_steps, .int c_siteCount, .int c_stepCount, .int c_seenRules, .int c_at, .int c_wordStart, .int c_number, .int c_failed])), (a_rules, .inl (E.2.1, 3, .inl (upd f_2 2 (100 : Int32))))] H := hP
  replace hD : va_D A [(a_, .inr (4, [.ref a_tape, .ref a_rules, .ref a_places, .ref a_steps, .int c_siteCount, .int c_stepCount, .int c_seenRules, .int c_at, .int c_wordStart, .int c_number, .int c_failed])), (a_rules, .inl (E.2.1, 3, .inl (upd f_2 2 (100 : Int32))))] := hD
  replace hF := nm_s hF
  obtain ⟨f_3, hf_3, hF⟩ := hF
  rw [← hf_3] at hP hD
  refine lv_aload_n hx hb dX3_start_24 rfl (lv_at hl 0 rfl) ?_
  refine lv_iconst (v := 0) hx hb dX3_start_25 (by decide) ?_
  refine pt_X3_4 (v := .int (0 : Int32)) hx hb hts i_f_X3_start_X3 hown hK hP hD hS 0 rfl (hts (.fieldLink RX3 21 "HushWatch$Reader" "siteCount" "I") (List.mem_of_getElem? (i := 2) rfl)) rfl rfl (Nat.le_of_ble_eq_true rfl) dX3_start_26 (fun H locs hP hD hS => ?_)
  replace hP : va_P E.1 vwCl [(a_, .inr (4, [.ref a_tape, .ref a_rules, .ref a_places, .ref a_steps, .int (0 : Int32), .int c_stepCount, .int c_seenRules, .int c_at, .int c_wordStart, .int c_number, .int c_failed])), (a_rules, .inl (E.2.1, 3, .inl f_3))] H := hP
  replace hD : va_D A [(a_, .inr (4, [.ref a_tape, .ref a_rules, .ref a_places, .ref a_steps, .int (0 : Int32), .int c_stepCount, .int c_seenRules, .int c_at, .int c_wordStart, .int c_number, .int c_failed])), (a_rules, .inl (E.2.1, 3, .inl f_3))] := hD
  refine lv_aload_n hx hb dX3_start_29 rfl (lv_at hl 0 rfl) ?_
  refine lv_iconst (v := 0) hx hb dX3_start_30 (by decide) ?_
  refine pt_X3_5 (v := .int (0 : Int32)) hx hb hts i_f_X3_start_X3 hown hK hP hD hS 0 rfl (hts (.fieldLink RX3 25 "HushWatch$Reader" "stepCount" "I") (List.mem_of_getElem? (i := 3) rfl)) rfl rfl (Nat.le_of_ble_eq_true rfl) dX3_start_31 (fun H locs hP hD hS => ?_)
  replace hP : va_P E.1 vwCl [(a_, .inr (4, [.ref a_tape, .ref a_rules, .ref a_places, .ref a_steps, .int (0 : Int32), .int (0 : Int32), .int c_seenRules, .int c_at, .int c_wordStart, .int c_number, .int c_failed])), (a_rules, .inl (E.2.1, 3, .inl f_3))] H := hP
  replace hD : va_D A [(a_, .inr (4, [.ref a_tape, .ref a_rules, .ref a_places, .ref a_steps, .int (0 : Int32), .int (0 : Int32), .int c_seenRules, .int c_at, .int c_wordStart, .int c_number, .int c_failed])), (a_rules, .inl (E.2.1, 3, .inl f_3))] := hD
  refine lv_aload_n hx hb dX3_start_34 rfl (lv_at hl 0 rfl) ?_
  refine lv_iconst (v := 0) hx hb dX3_start_35 (by decide) ?_
  refine pt_X3_6 (v := .int (0 : Int32)) hx hb hts i_f_X3_start_X3 hown hK hP hD hS 0 rfl (hts (.fieldLink RX3 28 "HushWatch$Reader" "seenRules" "I") (List.mem_of_getElem? (i := 4) rfl)) rfl rfl (Nat.le_of_ble_eq_true rfl) dX3_start_36 (fun H locs hP hD hS => ?_)
  replace hP : va_P E.1 vwCl [(a_, .inr (4, [.ref a_tape, .ref a_rules, .ref a_places, .ref a_steps, .int (0 : Int32), .int (0 : Int32), .int (0 : Int32), .int c_at, .int c_wordStart, .int c_number, .int c_failed])), (a_rules, .inl (E.2.1, 3, .inl f_3))] H := hP
  replace hD : va_D A [(a_, .inr (4, [.ref a_tape, .ref a_rules, .ref a_places, .ref a_steps, .int (0 : Int32), .int (0 : Int32), .int (0 : Int32), .int c_at, .int c_wordStart, .int c_number, .int c_failed])), (a_rules, .inl (E.2.1, 3, .inl f_3))] := hD
  refine lv_aload_n hx hb dX3_start_39 rfl (lv_at hl 0 rfl) ?_
  refine lv_iconst (v := 0) hx hb dX3_start_40 (by decide) ?_
  refine pt_X3_7 (v := .int (0 : Int32)) hx hb hts i_f_X3_start_X3 hown hK hP hD hS 0 rfl (hts (.fieldLink RX3 31 "HushWatch$Reader" "at" "I") (List.mem_of_getElem? (i := 5) rfl)) rfl rfl (Nat.le_of_ble_eq_true rfl) dX3_start_41 (fun H locs hP hD hS => ?_)
  replace hP : va_P E.1 vwCl [(a_, .inr (4, [.ref a_tape, .ref a_rules, .ref a_places, .ref a_steps, .int (0 : Int32), .int (0 : Int32), .int (0 : Int32), .int (0 : Int32), .int c_wordStart, .int c_number, .int c_failed])), (a_rules, .inl (E.2.1, 3, .inl f_3))] H := hP
  replace hD : va_D A [(a_, .inr (4, [.ref a_tape, .ref a_rules, .ref a_places, .ref a_steps, .int (0 : Int32), .int (0 : Int32), .int (0 : Int32), .int (0 : Int32), .int c_wordStart, .int c_number, .int c_failed])), (a_rules, .inl (E.2.1, 3, .inl f_3))] := hD
  refine lv_aload_n hx hb dX3_start_44 rfl (lv_at hl 0 rfl) ?_
  refine lv_iconst (v := -1) hx hb dX3_start_45 (by decide) ?_
  refine pt_X3_10 (v := .int (-1 : Int32)) hx hb hts i_f_X3_start_X3 hown hK hP hD hS 0 rfl (hts (.fieldLink RX3 40 "HushWatch$Reader" "failed" "I") (List.mem_of_getElem? (i := 6) rfl)) rfl rfl (Nat.le_of_ble_eq_true rfl) dX3_start_46 (fun H locs hP hD hS => ?_)
  replace hP : va_P E.1 vwCl [(a_, .inr (4, [.ref a_tape, .ref a_rules, .ref a_places, .ref a_steps, .int (0 : Int32), .int (0 : Int32), .int (0 : Int32), .int (0 : Int32), .int c_wordStart, .int c_number, .int (-1 : Int32)])), (a_rules, .inl (E.2.1, 3, .inl f_3))] H := hP
  replace hD : va_D A [(a_, .inr (4, [.ref a_tape, .ref a_rules, .ref a_places, .ref a_steps, .int (0 : Int32), .int (0 : Int32), .int (0 : Int32), .int (0 : Int32), .int c_wordStart, .int c_number, .int (-1 : Int32)])), (a_rules, .inl (E.2.1, 3, .inl f_3))] := hD
  rw [hQ]
  have h9 := fin9 (P := fun u9 : (Nat → Int32) × Int32 × Int32 × Int32 × Int32 × Int32 => va_P E.1 vwCl (w_X3_start E a_ a_tape a_rules a_places a_steps u9.2.1 u9.2.2.1 u9.2.2.2.1 u9.2.2.2.2.1 c_wordStart c_number u9.2.2.2.2.2 u9.1) H ∧ va_D A (w_X3_start E a_ a_tape a_rules a_places a_steps u9.2.1 u9.2.2.1 u9.2.2.2.1 u9.2.2.2.2.1 c_wordStart c_number u9.2.2.2.2.2 u9.1)) hF ⟨hP, hD⟩
  obtain ⟨hP9, hD9⟩ := h9
  exact W.vret hx hb hr (fun tt ht hW => ⟨⟨(), rfl, trivial, ht ▸ hP9, hD9⟩, hS.F ht⟩) hS.2.2 dX3_start_49

def F_X3_stepOfWord (K : Nat) (c_tape_bytes : Nat → Int32) (c_tape_length : Int32) (c_at : Int32) (c_wordStart : Int32) : Option (Int32) :=
  bd1 (F_X3_isWord K 8 c_tape_bytes c_tape_length c_at c_wordStart) (fun r_1 => if r_1 = (0 : Int32) then bd1 (F_X3_isWord K 9 c_tape_bytes c_tape_length c_at c_wordStart) (fun r_5 => if r_5 = (0 : Int32) then bd1 (F_X3_isWord K 2 c_tape_bytes c_tape_length c_at c_wordStart) (fun r_9 => if r_9 = (0 : Int32) then bd1 (F_X3_isWord K 1 c_tape_bytes c_tape_length c_at c_wordStart) (fun r_13 => if r_13 = (0 : Int32) then bd1 (F_X3_isWord K 10 c_tape_bytes c_tape_length c_at c_wordStart) (fun r_17 => if r_17 = (0 : Int32) then bd1 (F_X3_isWord K 3 c_tape_bytes c_tape_length c_at c_wordStart) (fun r_21 => if r_21 = (0 : Int32) then bd1 (F_X3_isWord K 11 c_tape_bytes c_tape_length c_at c_wordStart) (fun r_25 => if r_25 = (0 : Int32) then some (-1 : Int32) else some (6 : Int32)) else some (5 : Int32)) else some (4 : Int32)) else some (3 : Int32)) else some (2 : Int32)) else some (1 : Int32)) else some (0 : Int32))
abbrev w_X3_stepOfWord (E : EE) (a_ a_tape a_rules a_places a_steps a_tape_bytes : Nat) (c_siteCount : Int32) (c_stepCount : Int32) (c_seenRules : Int32) (c_at : Int32) (c_wordStart : Int32) (c_number : Int32) (c_failed : Int32) (c_tape_length : Int32) (c_tape_bytes : Nat → Int32) : va_W := [(a_, .inr (4, [.ref a_tape, .ref a_rules, .ref a_places, .ref a_steps, .int c_siteCount, .int c_stepCount, .int c_seenRules, .int c_at, .int c_wordStart, .int c_number, .int c_failed])), (a_tape, .inr (7, [.ref a_tape_bytes, .int c_tape_length])), (a_tape_bytes, .inl (E.2.2.1, 320, .inl c_tape_bytes))]
def v_f_X3_stepOfWord : List Cond := .code yX3_stepOfWord cX3_stepOfWord 1 (some .int) :: ([.methodLink RX3 76 yX3_isWord, .instanceMethod yX3_isWord, .selects RX3 yX3_isWord yX3_isWord, .initialized RX3] ++ (v_f_X3_isWord ++ ([])))
theorem gw_f_X3_stepOfWord : v_f_X3_stepOfWord.all goodWord = true := by decide +kernel
theorem g_f_X3_stepOfWord_f_X3_isWord_76 : GoodIn v_f_X3_stepOfWord (wsV RX3 76 RX3 yX3_isWord v_f_X3_isWord) := goodIn_app (goodIn_of _ (by decide +kernel)) (goodIn_sub (fun _ h => List.mem_cons_of_mem _ (List.mem_append_right _ (List.mem_append_left _ h))) gw_f_X3_isWord)
theorem hd_X3_stepOfWord : yX3_stepOfWord.cls = RX3 ∧ yX3_stepOfWord.cls ≠ "java/lang/invoke/MethodHandle" ∧ yX3_stepOfWord.cls ≠ "java/lang/invoke/VarHandle" ∧ (parseMethodDescriptor yX3_stepOfWord.desc).map (fun d => d.parameters.length) = some 0 := by decide +kernel
set_option maxHeartbeats 4000000 in
set_option maxRecDepth 100000 in
theorem f_X3_stepOfWord (l : Launch) (E : EE) (K : Nat) (z9 : Nat → Nat) {a_ a_tape a_rules a_places a_steps a_tape_bytes : Nat} {c_siteCount : Int32} {c_stepCount : Int32} {c_seenRules : Int32} {c_at : Int32} {c_wordStart : Int32} {c_number : Int32} {c_failed : Int32} {c_tape_length : Int32} {c_tape_bytes : Nat → Int32} {rr : Int32} (hF : F_X3_stepOfWord K c_tape_bytes c_tape_length c_at c_wordStart = some rr) : Met l yX3_stepOfWord v_f_X3_stepOfWord (({ frames := 5, cells := 0, slots := 0, locals := 107 } : Room)) (va_Pc [.ref a_] (qPZ E z9 (w_X3_stepOfWord E a_ a_tape a_rules a_places a_steps a_tape_bytes c_siteCount c_stepCount c_seenRules c_at c_wordStart c_number c_failed c_tape_length c_tape_bytes))) (vp_Si (fun q : Int32 => q = rr)) 0 0 (fun _ => False) := by
  refine Met.ofW (cc := cX3_stepOfWord) (maxL := 1) (ret := (some .int)) (by decide) rfl ?_
  intro p e s m args below meth c s₁ B hml hv
  obtain ⟨rfl, ⟨hK, hN⟩, hP, hZ⟩ := hv
  have hx := B.exec
  have hb := B.bytes
  have hr := B.returns
  have hts := atoms_spec (ws := v_f_X3_stepOfWord) B.pre
  have hown : s.vm.findClass RX3 = some m.cls := own_of hd_X3_stepOfWord.1 (findClass_of_methodNamed B.named)
  have hlocks : meth.locks = false := B.notSynchronized
  replace hP : va_P E.1 vwCl [(a_, .inr (4, [.ref a_tape, .ref a_rules, .ref a_places, .ref a_steps, .int c_siteCount, .int c_stepCount, .int c_seenRules, .int c_at, .int c_wordStart, .int c_number, .int c_failed])), (a_tape, .inr (7, [.ref a_tape_bytes, .int c_tape_length])), (a_tape_bytes, .inl (E.2.2.1, 320, .inl c_tape_bytes))] s.heap := hP
  have hl := lv_entry ([.ref a_]) (n := 1) (Nat.le_of_ble_eq_true rfl)
  rw [lg_entry_eq]
  generalize (lg_sl ([.ref a_]) ++ List.replicate (1 - (lg_sl ([.ref a_])).length) Slot.unset).toArray = ls at hl ⊢
  have hl : lv_has ls 1 [(0, .ref a_)] := hl
  obtain ⟨Q, hQ⟩ : ∃ Q : State → Prop, Q = MQ below (vp_Si (fun q : Int32 => q = rr)) #[Value.ref a_] s 0 0 (fun _ => False) := ⟨_, rfl⟩
  rw [← hQ]
  change W p l e ({ frames := 5, cells := 0, slots := 0, locals := 107 } : Room) s m #[Value.ref a_] below meth c s.heap [] 0 0 Q (F0 m 0 ls [])
  unfold F_X3_stepOfWord at hF
  refine lv_aload_n hx hb dX3_stepOfWord_0 rfl (lv_at hl 0 rfl) ?_
  refine va_ldcS hx hb hown (ZZ.s8 hZ) dX3_stepOfWord_1 ?_
  replace hF := bd1_s hF
  obtain ⟨r_1, hc_2, hF⟩ := hF
  have hPc : va_P E.1 vwCl (w_X3_isWord E a_ a_tape a_rules a_places a_steps a_tape_bytes c_siteCount c_stepCount c_seenRules c_at c_wordStart c_number c_failed c_tape_length c_tape_bytes) s.heap := hP.sub (ws' := [(a_, .inr (4, [.ref a_tape, .ref a_rules, .ref a_places, .ref a_steps, .int c_siteCount, .int c_stepCount, .int c_seenRules, .int c_at, .int c_wordStart, .int c_number, .int c_failed])), (a_tape, .inr (7, [.ref a_tape_bytes, .int c_tape_length])), (a_tape_bytes, .inl (E.2.2.1, 320, .inl c_tape_bytes))]) [0, 1, 2] rfl
  have hrc := va_recv hK hPc (ci := 4) (q0 := 0) rfl rfl
  refine pE_z (va_runV (As := [.ref (z9 (20 + 8))]) (rest := [])  ⟨hx, hb, hml, hown, hts⟩ (f_X3_isWord l E K z9 (a_ := a_) (a_tape := a_tape) (a_rules := a_rules) (a_places := a_places) (a_steps := a_steps) (a_tape_bytes := a_tape_bytes) (p1 := 8) (c_siteCount := c_siteCount) (c_stepCount := c_stepCount) (c_seenRules := c_seenRules) (c_at := c_at) (c_wordStart := c_wordStart) (c_number := c_number) (c_failed := c_failed) (c_tape_length := c_tape_length) (c_tape_bytes := c_tape_bytes) hc_2) (cwV 1 hts g_f_X3_stepOfWord_f_X3_isWord_76 rfl rfl rfl hd_X3_isWord ⟨Nat.le_of_ble_eq_true rfl, Nat.le_of_ble_eq_true rfl⟩) ⟨qPZ.blind, hrc, (qPZ.pre0 ⟨hK, hN⟩ hPc hZ)⟩ rfl rfl hl.1 rfl (lv_room (Nat.le_of_ble_eq_true rfl)) dX3_stepOfWord_3 ⟨Nat.le_of_ble_eq_true rfl, Nat.le_of_ble_eq_true rfl⟩) (fun hb_3 => ?_)
  refine lv_if_eq (tgt := 11) hx hb dX3_stepOfWord_6 (by decide) (fun c_4 => ?_) (fun c_4 => ?_)
  ·
    replace hF := ip c_4 hF
    refine lv_aload_n hx hb dX3_stepOfWord_11 rfl (lv_at hl 0 rfl) ?_
    refine va_ldcS hx hb hown (ZZ.s9 hZ) dX3_stepOfWord_12 ?_
    replace hF := bd1_s hF
    obtain ⟨r_5, hc_6, hF⟩ := hF
    have hPc : va_P E.1 vwCl (w_X3_isWord E a_ a_tape a_rules a_places a_steps a_tape_bytes c_siteCount c_stepCount c_seenRules c_at c_wordStart c_number c_failed c_tape_length c_tape_bytes) s.heap := hP.sub (ws' := [(a_, .inr (4, [.ref a_tape, .ref a_rules, .ref a_places, .ref a_steps, .int c_siteCount, .int c_stepCount, .int c_seenRules, .int c_at, .int c_wordStart, .int c_number, .int c_failed])), (a_tape, .inr (7, [.ref a_tape_bytes, .int c_tape_length])), (a_tape_bytes, .inl (E.2.2.1, 320, .inl c_tape_bytes))]) [0, 1, 2] rfl
    have hrc := va_recv hK hPc (ci := 4) (q0 := 0) rfl rfl
    refine pE_z (va_runV (As := [.ref (z9 (20 + 9))]) (rest := [])  ⟨hx, hb, hml, hown, hts⟩ (f_X3_isWord l E K z9 (a_ := a_) (a_tape := a_tape) (a_rules := a_rules) (a_places := a_places) (a_steps := a_steps) (a_tape_bytes := a_tape_bytes) (p1 := 9) (c_siteCount := c_siteCount) (c_stepCount := c_stepCount) (c_seenRules := c_seenRules) (c_at := c_at) (c_wordStart := c_wordStart) (c_number := c_number) (c_failed := c_failed) (c_tape_length := c_tape_length) (c_tape_bytes := c_tape_bytes) hc_6) (cwV 1 hts g_f_X3_stepOfWord_f_X3_isWord_76 rfl rfl rfl hd_X3_isWord ⟨Nat.le_of_ble_eq_true rfl, Nat.le_of_ble_eq_true rfl⟩) ⟨qPZ.blind, hrc, (qPZ.pre0 ⟨hK, hN⟩ hPc hZ)⟩ rfl rfl hl.1 rfl (lv_room (Nat.le_of_ble_eq_true rfl)) dX3_stepOfWord_14 ⟨Nat.le_of_ble_eq_true rfl, Nat.le_of_ble_eq_true rfl⟩) (fun hb_7 => ?_)
    refine lv_if_eq (tgt := 22) hx hb dX3_stepOfWord_17 (by decide) (fun c_8 => ?_) (fun c_8 => ?_)
    ·
      replace hF := ip c_8 hF
      refine lv_aload_n hx hb dX3_stepOfWord_22 rfl (lv_at hl 0 rfl) ?_
      refine va_ldcS hx hb hown (ZZ.s2 hZ) dX3_stepOfWord_23 ?_
      replace hF := bd1_s hF
      obtain ⟨r_9, hc_10, hF⟩ := hF
      have hPc : va_P E.1 vwCl (w_X3_isWord E a_ a_tape a_rules a_places a_steps a_tape_bytes c_siteCount c_stepCount c_seenRules c_at c_wordStart c_number c_failed c_tape_length c_tape_bytes) s.heap := hP.sub (ws' := [(a_, .inr (4, [.ref a_tape, .ref a_rules, .ref a_places, .ref a_steps, .int c_siteCount, .int c_stepCount, .int c_seenRules, .int c_at, .int c_wordStart, .int c_number, .int c_failed])), (a_tape, .inr (7, [.ref a_tape_bytes, .int c_tape_length])), (a_tape_bytes, .inl (E.2.2.1, 320, .inl c_tape_bytes))]) [0, 1, 2] rfl
      have hrc := va_recv hK hPc (ci := 4) (q0 := 0) rfl rfl
      refine pE_z (va_runV (As := [.ref (z9 (20 + 2))]) (rest := [])  ⟨hx, hb, hml, hown, hts⟩ (f_X3_isWord l E K z9 (a_ := a_) (a_tape := a_tape) (a_rules := a_rules) (a_places := a_places) (a_steps := a_steps) (a_tape_bytes := a_tape_bytes) (p1 := 2) (c_siteCount := c_siteCount) (c_stepCount := c_stepCount) (c_seenRules := c_seenRules) (c_at := c_at) (c_wordStart := c_wordStart) (c_number := c_number) (c_failed := c_failed) (c_tape_length := c_tape_length) (c_tape_bytes := c_tape_bytes) hc_10) (cwV 1 hts g_f_X3_stepOfWord_f_X3_isWord_76 rfl rfl rfl hd_X3_isWord ⟨Nat.le_of_ble_eq_true rfl, Nat.le_of_ble_eq_true rfl⟩) ⟨qPZ.blind, hrc, (qPZ.pre0 ⟨hK, hN⟩ hPc hZ)⟩ rfl rfl hl.1 rfl (lv_room (Nat.le_of_ble_eq_true rfl)) dX3_stepOfWord_25 ⟨Nat.le_of_ble_eq_true rfl, Nat.le_of_ble_eq_true rfl⟩) (fun hb_11 => ?_)
      refine lv_if_eq (tgt := 33) hx hb dX3_stepOfWord_28 (by decide) (fun c_12 => ?_) (fun c_12 => ?_)
      ·
        replace hF := ip c_12 hF
        refine lv_aload_n hx hb dX3_stepOfWord_33 rfl (lv_at hl 0 rfl) ?_
        refine va_ldcS hx hb hown (ZZ.s1 hZ) dX3_stepOfWord_34 ?_
        replace hF := bd1_s hF
        obtain ⟨r_13, hc_14, hF⟩ := hF
        have hPc : va_P E.1 vwCl (w_X3_isWord E a_ a_tape a_rules a_places a_steps a_tape_bytes c_siteCount c_stepCount c_seenRules c_at c_wordStart c_number c_failed c_tape_length c_tape_bytes) s.heap := hP.sub (ws' := [(a_, .inr (4, [.ref a_tape, .ref a_rules, .ref a_places, .ref a_steps, .int c_siteCount, .int c_stepCount, .int c_seenRules, .int c_at, .int c_wordStart, .int c_number, .int c_failed])), (a_tape, .inr (7, [.ref a_tape_bytes, .int c_tape_length])), (a_tape_bytes, .inl (E.2.2.1, 320, .inl c_tape_bytes))]) [0, 1, 2] rfl
        have hrc := va_recv hK hPc (ci := 4) (q0 := 0) rfl rfl
        refine pE_z (va_runV (As := [.ref (z9 (20 + 1))]) (rest := [])  ⟨hx, hb, hml, hown, hts⟩ (f_X3_isWord l E K z9 (a_ := a_) (a_tape := a_tape) (a_rules := a_rules) (a_places := a_places) (a_steps := a_steps) (a_tape_bytes := a_tape_bytes) (p1 := 1) (c_siteCount := c_siteCount) (c_stepCount := c_stepCount) (c_seenRules := c_seenRules) (c_at := c_at) (c_wordStart := c_wordStart) (c_number := c_number) (c_failed := c_failed) (c_tape_length := c_tape_length) (c_tape_bytes := c_tape_bytes) hc_14) (cwV 1 hts g_f_X3_stepOfWord_f_X3_isWord_76 rfl rfl rfl hd_X3_isWord ⟨Nat.le_of_ble_eq_true rfl, Nat.le_of_ble_eq_true rfl⟩) ⟨qPZ.blind, hrc, (qPZ.pre0 ⟨hK, hN⟩ hPc hZ)⟩ rfl rfl hl.1 rfl (lv_room (Nat.le_of_ble_eq_true rfl)) dX3_stepOfWord_36 ⟨Nat.le_of_ble_eq_true rfl, Nat.le_of_ble_eq_true rfl⟩) (fun hb_15 => ?_)
        refine lv_if_eq (tgt := 44) hx hb dX3_stepOfWord_39 (by decide) (fun c_16 => ?_) (fun c_16 => ?_)
        ·
          replace hF := ip c_16 hF
          refine lv_aload_n hx hb dX3_stepOfWord_44 rfl (lv_at hl 0 rfl) ?_
          refine va_ldcS hx hb hown (ZZ.s10 hZ) dX3_stepOfWord_45 ?_
          replace hF := bd1_s hF
          obtain ⟨r_17, hc_18, hF⟩ := hF
          have hPc : va_P E.1 vwCl (w_X3_isWord E a_ a_tape a_rules a_places a_steps a_tape_bytes c_siteCount c_stepCount c_seenRules c_at c_wordStart c_number c_failed c_tape_length c_tape_bytes) s.heap := hP.sub (ws' := [(a_, .inr (4, [.ref a_tape, .ref a_rules, .ref a_places, .ref a_steps, .int c_siteCount, .int c_stepCount, .int c_seenRules, .int c_at, .int c_wordStart, .int c_number, .int c_failed])), (a_tape, .inr (7, [.ref a_tape_bytes, .int c_tape_length])), (a_tape_bytes, .inl (E.2.2.1, 320, .inl c_tape_bytes))]) [0, 1, 2] rfl
          have hrc := va_recv hK hPc (ci := 4) (q0 := 0) rfl rfl
          refine pE_z (va_runV (As := [.ref (z9 (20 + 10))]) (rest := [])  ⟨hx, hb, hml, hown, hts⟩ (f_X3_isWord l E K z9 (a_ := a_) (a_tape := a_tape) (a_rules := a_rules) (a_places := a_places) (a_steps := a_steps) (a_tape_bytes := a_tape_bytes) (p1 := 10) (c_siteCount := c_siteCount) (c_stepCount := c_stepCount) (c_seenRules := c_seenRules) (c_at := c_at) (c_wordStart := c_wordStart) (c_number := c_number) (c_failed := c_failed) (c_tape_length := c_tape_length) (c_tape_bytes := c_tape_bytes) hc_18) (cwV 1 hts g_f_X3_stepOfWord_f_X3_isWord_76 rfl rfl rfl hd_X3_isWord ⟨Nat.le_of_ble_eq_true rfl, Nat.le_of_ble_eq_true rfl⟩) ⟨qPZ.blind, hrc, (qPZ.pre0 ⟨hK, hN⟩ hPc hZ)⟩ rfl rfl hl.1 rfl (lv_room (Nat.le_of_ble_eq_true rfl)) dX3_stepOfWord_47 ⟨Nat.le_of_ble_eq_true rfl, Nat.le_of_ble_eq_true rfl⟩) (fun hb_19 => ?_)
          refine lv_if_eq (tgt := 55) hx hb dX3_stepOfWord_50 (by decide) (fun c_20 => ?_) (fun c_20 => ?_)
          ·
            replace hF := ip c_20 hF
            refine lv_aload_n hx hb dX3_stepOfWord_55 rfl (lv_at hl 0 rfl) ?_
            refine va_ldcS hx hb hown (ZZ.s3 hZ) dX3_stepOfWord_56 ?_
            replace hF := bd1_s hF
            obtain ⟨r_21, hc_22, hF⟩ := hF
            have hPc : va_P E.1 vwCl (w_X3_isWord E a_ a_tape a_rules a_places a_steps a_tape_bytes c_siteCount c_stepCount c_seenRules c_at c_wordStart c_number c_failed c_tape_length c_tape_bytes) s.heap := hP.sub (ws' := [(a_, .inr (4, [.ref a_tape, .ref a_rules, .ref a_places, .ref a_steps, .int c_siteCount, .int c_stepCount, .int c_seenRules, .int c_at, .int c_wordStart, .int c_number, .int c_failed])), (a_tape, .inr (7, [.ref a_tape_bytes, .int c_tape_length])), (a_tape_bytes, .inl (E.2.2.1, 320, .inl c_tape_bytes))]) [0, 1, 2] rfl
            have hrc := va_recv hK hPc (ci := 4) (q0 := 0) rfl rfl
            refine pE_z (va_runV (As := [.ref (z9 (20 + 3))]) (rest := [])  ⟨hx, hb, hml, hown, hts⟩ (f_X3_isWord l E K z9 (a_ := a_) (a_tape := a_tape) (a_rules := a_rules) (a_places := a_places) (a_steps := a_steps) (a_tape_bytes := a_tape_bytes) (p1 := 3) (c_siteCount := c_siteCount) (c_stepCount := c_stepCount) (c_seenRules := c_seenRules) (c_at := c_at) (c_wordStart := c_wordStart) (c_number := c_number) (c_failed := c_failed) (c_tape_length := c_tape_length) (c_tape_bytes := c_tape_bytes) hc_22) (cwV 1 hts g_f_X3_stepOfWord_f_X3_isWord_76 rfl rfl rfl hd_X3_isWord ⟨Nat.le_of_ble_eq_true rfl, Nat.le_of_ble_eq_true rfl⟩) ⟨qPZ.blind, hrc, (qPZ.pre0 ⟨hK, hN⟩ hPc hZ)⟩ rfl rfl hl.1 rfl (lv_room (Nat.le_of_ble_eq_true rfl)) dX3_stepOfWord_58 ⟨Nat.le_of_ble_eq_true rfl, Nat.le_of_ble_eq_true rfl⟩) (fun hb_23 => ?_)
            refine lv_if_eq (tgt := 66) hx hb dX3_stepOfWord_61 (by decide) (fun c_24 => ?_) (fun c_24 => ?_)
            ·
              replace hF := ip c_24 hF
              refine lv_aload_n hx hb dX3_stepOfWord_66 rfl (lv_at hl 0 rfl) ?_
              refine va_ldcS hx hb hown (ZZ.s11 hZ) dX3_stepOfWord_67 ?_
              replace hF := bd1_s hF
              obtain ⟨r_25, hc_26, hF⟩ := hF
              have hPc : va_P E.1 vwCl (w_X3_isWord E a_ a_tape a_rules a_places a_steps a_tape_bytes c_siteCount c_stepCount c_seenRules c_at c_wordStart c_number c_failed c_tape_length c_tape_bytes) s.heap := hP.sub (ws' := [(a_, .inr (4, [.ref a_tape, .ref a_rules, .ref a_places, .ref a_steps, .int c_siteCount, .int c_stepCount, .int c_seenRules, .int c_at, .int c_wordStart, .int c_number, .int c_failed])), (a_tape, .inr (7, [.ref a_tape_bytes, .int c_tape_length])), (a_tape_bytes, .inl (E.2.2.1, 320, .inl c_tape_bytes))]) [0, 1, 2] rfl
              have hrc := va_recv hK hPc (ci := 4) (q0 := 0) rfl rfl
              refine pE_z (va_runV (As := [.ref (z9 (20 + 11))]) (rest := [])  ⟨hx, hb, hml, hown, hts⟩ (f_X3_isWord l E K z9 (a_ := a_) (a_tape := a_tape) (a_rules := a_rules) (a_places := a_places) (a_steps := a_steps) (a_tape_bytes := a_tape_bytes) (p1 := 11) (c_siteCount := c_siteCount) (c_stepCount := c_stepCount) (c_seenRules := c_seenRules) (c_at := c_at) (c_wordStart := c_wordStart) (c_number := c_number) (c_failed := c_failed) (c_tape_length := c_tape_length) (c_tape_bytes := c_tape_bytes) hc_26) (cwV 1 hts g_f_X3_stepOfWord_f_X3_isWord_76 rfl rfl rfl hd_X3_isWord ⟨Nat.le_of_ble_eq_true rfl, Nat.le_of_ble_eq_true rfl⟩) ⟨qPZ.blind, hrc, (qPZ.pre0 ⟨hK, hN⟩ hPc hZ)⟩ rfl rfl hl.1 rfl (lv_room (Nat.le_of_ble_eq_true rfl)) dX3_stepOfWord_69 ⟨Nat.le_of_ble_eq_true rfl, Nat.le_of_ble_eq_true rfl⟩) (fun hb_27 => ?_)
              refine lv_if_eq (tgt := 80) hx hb dX3_stepOfWord_72 (by decide) (fun c_28 => ?_) (fun c_28 => ?_)
              ·
                replace hF := ip c_28 hF
                refine lv_iconst (v := -1) hx hb dX3_stepOfWord_80 (by decide) ?_
                rw [hQ]
                obtain e9_0 := inj1 hF
                exact W.iret (v := (-1 : Int32)) hx hb hr (fun tt ht hW => ⟨_, rfl, e9_0, ht⟩) (fun _ h => by cases h) dX3_stepOfWord_81
              ·
                replace hF := inn c_28 hF
                refine lv_bipush (v := 6) hx hb dX3_stepOfWord_75 (by decide) ?_
                refine lv_goto (tgt := 81) hx hb dX3_stepOfWord_77 (by decide) ?_
                rw [hQ]
                obtain e9_0 := inj1 hF
                exact W.iret (v := (6 : Int32)) hx hb hr (fun tt ht hW => ⟨_, rfl, e9_0, ht⟩) (fun _ h => by cases h) dX3_stepOfWord_81
            ·
              replace hF := inn c_24 hF
              refine lv_iconst (v := 5) hx hb dX3_stepOfWord_64 (by decide) ?_
              rw [hQ]
              obtain e9_0 := inj1 hF
              exact W.iret (v := (5 : Int32)) hx hb hr (fun tt ht hW => ⟨_, rfl, e9_0, ht⟩) (fun _ h => by cases h) dX3_stepOfWord_65
          ·
            replace hF := inn c_20 hF
            refine lv_iconst (v := 4) hx hb dX3_stepOfWord_53 (by decide) ?_
            rw [hQ]
            obtain e9_0 := inj1 hF
            exact W.iret (v := (4 : Int32)) hx hb hr (fun tt ht hW => ⟨_, rfl, e9_0, ht⟩) (fun _ h => by cases h) dX3_stepOfWord_54
        ·
          replace hF := inn c_16 hF
          refine lv_iconst (v := 3) hx hb dX3_stepOfWord_42 (by decide) ?_
          rw [hQ]
          obtain e9_0 := inj1 hF
          exact W.iret (v := (3 : Int32)) hx hb hr (fun tt ht hW => ⟨_, rfl, e9_0, ht⟩) (fun _ h => by cases h) dX3_stepOfWord_43
      ·
        replace hF := inn c_12 hF
        refine lv_iconst (v := 2) hx hb dX3_stepOfWord_31 (by decide) ?_
        rw [hQ]
        obtain e9_0 := inj1 hF
        exact W.iret (v := (2 : Int32)) hx hb hr (fun tt ht hW => ⟨_, rfl, e9_0, ht⟩) (fun _ h => by cases h) dX3_stepOfWord_32
    ·
      replace hF := inn c_8 hF
      refine lv_iconst (v := 1) hx hb dX3_stepOfWord_20 (by decide) ?_
      rw [hQ]
      obtain e9_0 := inj1 hF
      exact W.iret (v := (1 : Int32)) hx hb hr (fun tt ht hW => ⟨_, rfl, e9_0, ht⟩) (fun _ h => by cases h) dX3_stepOfWord_21
  ·
    replace hF := inn c_4 hF
    refine lv_iconst (v := 0) hx hb dX3_stepOfWord_9 (by decide) ?_
    rw [hQ]
    obtain e9_0 := inj1 hF
    exact W.iret (v := (0 : Int32)) hx hb hr (fun tt ht hW => ⟨_, rfl, e9_0, ht⟩) (fun _ h => by cases h) dX3_stepOfWord_10
end
-- 27.rd03
section
def dl_X3_startStep_27_rd03_0 : List (Nat × Instr × Nat) := [(8, .iload_n 2, 1), (9, .iconst 4, 1), (10, .if_icmp .ge 16, 3), (13, .aload_n 0, 1), (14, .iload_n 2, 1), (15, .ldc 120, 2), (17, .invokevirtual 116, 3), (20, .iinc 2 1, 3), (23, .goto (-15), 3), (0, .aload_n 0, 1), (1, .iconst 0, 1), (2, .iload_n 1, 1), (3, .invokevirtual 116, 3), (6, .iconst 1, 1), (7, .istore_n 2, 1), (26, .return_, 1)]
set_option maxRecDepth 100000 in
theorem dall_X3_startStep_27_rd03_0 : dchk cX3_startStep dl_X3_startStep_27_rd03_0 = true := by decide +kernel
theorem dX3_startStep_8 : decode cX3_startStep 8 = .ok (.iload_n 2, 1) := dchk_at dall_X3_startStep_27_rd03_0 (k := 0) rfl
theorem dX3_startStep_9 : decode cX3_startStep 9 = .ok (.iconst 4, 1) := dchk_at dall_X3_startStep_27_rd03_0 (k := 1) rfl
theorem dX3_startStep_10 : decode cX3_startStep 10 = .ok (.if_icmp .ge 16, 3) := dchk_at dall_X3_startStep_27_rd03_0 (k := 2) rfl
theorem dX3_startStep_13 : decode cX3_startStep 13 = .ok (.aload_n 0, 1) := dchk_at dall_X3_startStep_27_rd03_0 (k := 3) rfl
theorem dX3_startStep_14 : decode cX3_startStep 14 = .ok (.iload_n 2, 1) := dchk_at dall_X3_startStep_27_rd03_0 (k := 4) rfl
theorem dX3_startStep_15 : decode cX3_startStep 15 = .ok (.ldc 120, 2) := dchk_at dall_X3_startStep_27_rd03_0 (k := 5) rfl
theorem dX3_startStep_17 : decode cX3_startStep 17 = .ok (.invokevirtual 116, 3) := dchk_at dall_X3_startStep_27_rd03_0 (k := 6) rfl
theorem dX3_startStep_20 : decode cX3_startStep 20 = .ok (.iinc 2 1, 3) := dchk_at dall_X3_startStep_27_rd03_0 (k := 7) rfl
theorem dX3_startStep_23 : decode cX3_startStep 23 = .ok (.goto (-15), 3) := dchk_at dall_X3_startStep_27_rd03_0 (k := 8) rfl
theorem dX3_startStep_0 : decode cX3_startStep 0 = .ok (.aload_n 0, 1) := dchk_at dall_X3_startStep_27_rd03_0 (k := 9) rfl
theorem dX3_startStep_1 : decode cX3_startStep 1 = .ok (.iconst 0, 1) := dchk_at dall_X3_startStep_27_rd03_0 (k := 10) rfl
theorem dX3_startStep_2 : decode cX3_startStep 2 = .ok (.iload_n 1, 1) := dchk_at dall_X3_startStep_27_rd03_0 (k := 11) rfl
theorem dX3_startStep_3 : decode cX3_startStep 3 = .ok (.invokevirtual 116, 3) := dchk_at dall_X3_startStep_27_rd03_0 (k := 12) rfl
theorem dX3_startStep_6 : decode cX3_startStep 6 = .ok (.iconst 1, 1) := dchk_at dall_X3_startStep_27_rd03_0 (k := 13) rfl
theorem dX3_startStep_7 : decode cX3_startStep 7 = .ok (.istore_n 2, 1) := dchk_at dall_X3_startStep_27_rd03_0 (k := 14) rfl
theorem dX3_startStep_26 : decode cX3_startStep 26 = .ok (.return_, 1) := dchk_at dall_X3_startStep_27_rd03_0 (k := 15) rfl
def dl_X3_readStep_27_rd03_0 : List (Nat × Instr × Nat) := [(67, .iload_n 1, 1), (68, .iconst 3, 1), (69, .if_icmp .ne 13, 3), (82, .aload_n 0, 1), (83, .ldc 94, 2), (85, .ldc 95, 2), (87, .invokevirtual 96, 3), (90, .ifCond .ne 5, 3), (95, .aload_n 0, 1), (96, .iload_n 2, 1), (97, .aload_n 0, 1), (98, .getfield 37, 3), (101, .invokevirtual 116, 3), (104, .iinc 2 1, 3), (107, .goto (-65), 3), (72, .aload_n 0, 1), (73, .invokevirtual 91, 3), (76, .ifCond .eq 17, 3), (79, .goto 16, 3), (42, .iload_n 2, 1), (43, .getstatic 109, 3), (46, .iload_n 1, 1), (47, .iaload, 1), (48, .if_icmp .gt 62, 3), (51, .iload_n 2, 1), (52, .iconst 1, 1), (53, .if_icmp .le 14, 3), (56, .aload_n 0, 1), (57, .bipush 44, 2), (59, .invokevirtual 62, 3), (62, .ifCond .ne 5, 3), (0, .aload_n 0, 1), (1, .invokevirtual 71, 3), (4, .ifCond .ne 5, 3), (9, .aload_n 0, 1), (10, .invokevirtual 106, 3), (13, .istore_n 1, 1), (14, .iload_n 1, 1), (15, .ifCond .lt 11, 3), (26, .aload_n 0, 1), (27, .aload_n 0, 1), (28, .getfield 34, 3), (31, .invokevirtual 87, 3), (34, .ireturn, 1), (18, .iload_n 1, 1), (19, .getstatic 109, 3), (22, .arraylength, 1), (23, .if_icmp .lt 12, 3), (35, .aload_n 0, 1), (36, .iload_n 1, 1)]
set_option maxRecDepth 100000 in
theorem dall_X3_readStep_27_rd03_0 : dchk cX3_readStep dl_X3_readStep_27_rd03_0 = true := by decide +kernel
theorem dX3_readStep_67 : decode cX3_readStep 67 = .ok (.iload_n 1, 1) := dchk_at dall_X3_readStep_27_rd03_0 (k := 0) rfl
theorem dX3_readStep_68 : decode cX3_readStep 68 = .ok (.iconst 3, 1) := dchk_at dall_X3_readStep_27_rd03_0 (k := 1) rfl
theorem dX3_readStep_69 : decode cX3_readStep 69 = .ok (.if_icmp .ne 13, 3) := dchk_at dall_X3_readStep_27_rd03_0 (k := 2) rfl
theorem dX3_readStep_82 : decode cX3_readStep 82 = .ok (.aload_n 0, 1) := dchk_at dall_X3_readStep_27_rd03_0 (k := 3) rfl
theorem dX3_readStep_83 : decode cX3_readStep 83 = .ok (.ldc 94, 2) := dchk_at dall_X3_readStep_27_rd03_0 (k := 4) rfl
theorem dX3_readStep_85 : decode cX3_readStep 85 = .ok (.ldc 95, 2) := dchk_at dall_X3_readStep_27_rd03_0 (k := 5) rfl
theorem dX3_readStep_87 : decode cX3_readStep 87 = .ok (.invokevirtual 96, 3) := dchk_at dall_X3_readStep_27_rd03_0 (k := 6) rfl
theorem dX3_readStep_90 : decode cX3_readStep 90 = .ok (.ifCond .ne 5, 3) := dchk_at dall_X3_readStep_27_rd03_0 (k := 7) rfl
theorem dX3_readStep_95 : decode cX3_readStep 95 = .ok (.aload_n 0, 1) := dchk_at dall_X3_readStep_27_rd03_0 (k := 8) rfl
theorem dX3_readStep_96 : decode cX3_readStep 96 = .ok (.iload_n 2, 1) := dchk_at dall_X3_readStep_27_rd03_0 (k := 9) rfl
theorem dX3_readStep_97 : decode cX3_readStep 97 = .ok (.aload_n 0, 1) := dchk_at dall_X3_readStep_27_rd03_0 (k := 10) rfl
theorem dX3_readStep_98 : decode cX3_readStep 98 = .ok (.getfield 37, 3) := dchk_at dall_X3_readStep_27_rd03_0 (k := 11) rfl
theorem dX3_readStep_101 : decode cX3_readStep 101 = .ok (.invokevirtual 116, 3) := dchk_at dall_X3_readStep_27_rd03_0 (k := 12) rfl
theorem dX3_readStep_104 : decode cX3_readStep 104 = .ok (.iinc 2 1, 3) := dchk_at dall_X3_readStep_27_rd03_0 (k := 13) rfl
theorem dX3_readStep_107 : decode cX3_readStep 107 = .ok (.goto (-65), 3) := dchk_at dall_X3_readStep_27_rd03_0 (k := 14) rfl
theorem dX3_readStep_72 : decode cX3_readStep 72 = .ok (.aload_n 0, 1) := dchk_at dall_X3_readStep_27_rd03_0 (k := 15) rfl
theorem dX3_readStep_73 : decode cX3_readStep 73 = .ok (.invokevirtual 91, 3) := dchk_at dall_X3_readStep_27_rd03_0 (k := 16) rfl
theorem dX3_readStep_76 : decode cX3_readStep 76 = .ok (.ifCond .eq 17, 3) := dchk_at dall_X3_readStep_27_rd03_0 (k := 17) rfl
theorem dX3_readStep_79 : decode cX3_readStep 79 = .ok (.goto 16, 3) := dchk_at dall_X3_readStep_27_rd03_0 (k := 18) rfl
theorem dX3_readStep_42 : decode cX3_readStep 42 = .ok (.iload_n 2, 1) := dchk_at dall_X3_readStep_27_rd03_0 (k := 19) rfl
theorem dX3_readStep_43 : decode cX3_readStep 43 = .ok (.getstatic 109, 3) := dchk_at dall_X3_readStep_27_rd03_0 (k := 20) rfl
theorem dX3_readStep_46 : decode cX3_readStep 46 = .ok (.iload_n 1, 1) := dchk_at dall_X3_readStep_27_rd03_0 (k := 21) rfl
theorem dX3_readStep_47 : decode cX3_readStep 47 = .ok (.iaload, 1) := dchk_at dall_X3_readStep_27_rd03_0 (k := 22) rfl
theorem dX3_readStep_48 : decode cX3_readStep 48 = .ok (.if_icmp .gt 62, 3) := dchk_at dall_X3_readStep_27_rd03_0 (k := 23) rfl
theorem dX3_readStep_51 : decode cX3_readStep 51 = .ok (.iload_n 2, 1) := dchk_at dall_X3_readStep_27_rd03_0 (k := 24) rfl
theorem dX3_readStep_52 : decode cX3_readStep 52 = .ok (.iconst 1, 1) := dchk_at dall_X3_readStep_27_rd03_0 (k := 25) rfl
theorem dX3_readStep_53 : decode cX3_readStep 53 = .ok (.if_icmp .le 14, 3) := dchk_at dall_X3_readStep_27_rd03_0 (k := 26) rfl
theorem dX3_readStep_56 : decode cX3_readStep 56 = .ok (.aload_n 0, 1) := dchk_at dall_X3_readStep_27_rd03_0 (k := 27) rfl
theorem dX3_readStep_57 : decode cX3_readStep 57 = .ok (.bipush 44, 2) := dchk_at dall_X3_readStep_27_rd03_0 (k := 28) rfl
theorem dX3_readStep_59 : decode cX3_readStep 59 = .ok (.invokevirtual 62, 3) := dchk_at dall_X3_readStep_27_rd03_0 (k := 29) rfl
theorem dX3_readStep_62 : decode cX3_readStep 62 = .ok (.ifCond .ne 5, 3) := dchk_at dall_X3_readStep_27_rd03_0 (k := 30) rfl
theorem dX3_readStep_0 : decode cX3_readStep 0 = .ok (.aload_n 0, 1) := dchk_at dall_X3_readStep_27_rd03_0 (k := 31) rfl
theorem dX3_readStep_1 : decode cX3_readStep 1 = .ok (.invokevirtual 71, 3) := dchk_at dall_X3_readStep_27_rd03_0 (k := 32) rfl
theorem dX3_readStep_4 : decode cX3_readStep 4 = .ok (.ifCond .ne 5, 3) := dchk_at dall_X3_readStep_27_rd03_0 (k := 33) rfl
theorem dX3_readStep_9 : decode cX3_readStep 9 = .ok (.aload_n 0, 1) := dchk_at dall_X3_readStep_27_rd03_0 (k := 34) rfl
theorem dX3_readStep_10 : decode cX3_readStep 10 = .ok (.invokevirtual 106, 3) := dchk_at dall_X3_readStep_27_rd03_0 (k := 35) rfl
theorem dX3_readStep_13 : decode cX3_readStep 13 = .ok (.istore_n 1, 1) := dchk_at dall_X3_readStep_27_rd03_0 (k := 36) rfl
theorem dX3_readStep_14 : decode cX3_readStep 14 = .ok (.iload_n 1, 1) := dchk_at dall_X3_readStep_27_rd03_0 (k := 37) rfl
theorem dX3_readStep_15 : decode cX3_readStep 15 = .ok (.ifCond .lt 11, 3) := dchk_at dall_X3_readStep_27_rd03_0 (k := 38) rfl
theorem dX3_readStep_26 : decode cX3_readStep 26 = .ok (.aload_n 0, 1) := dchk_at dall_X3_readStep_27_rd03_0 (k := 39) rfl
theorem dX3_readStep_27 : decode cX3_readStep 27 = .ok (.aload_n 0, 1) := dchk_at dall_X3_readStep_27_rd03_0 (k := 40) rfl
theorem dX3_readStep_28 : decode cX3_readStep 28 = .ok (.getfield 34, 3) := dchk_at dall_X3_readStep_27_rd03_0 (k := 41) rfl
theorem dX3_readStep_31 : decode cX3_readStep 31 = .ok (.invokevirtual 87, 3) := dchk_at dall_X3_readStep_27_rd03_0 (k := 42) rfl
theorem dX3_readStep_34 : decode cX3_readStep 34 = .ok (.ireturn, 1) := dchk_at dall_X3_readStep_27_rd03_0 (k := 43) rfl
theorem dX3_readStep_18 : decode cX3_readStep 18 = .ok (.iload_n 1, 1) := dchk_at dall_X3_readStep_27_rd03_0 (k := 44) rfl
theorem dX3_readStep_19 : decode cX3_readStep 19 = .ok (.getstatic 109, 3) := dchk_at dall_X3_readStep_27_rd03_0 (k := 45) rfl
theorem dX3_readStep_22 : decode cX3_readStep 22 = .ok (.arraylength, 1) := dchk_at dall_X3_readStep_27_rd03_0 (k := 46) rfl
theorem dX3_readStep_23 : decode cX3_readStep 23 = .ok (.if_icmp .lt 12, 3) := dchk_at dall_X3_readStep_27_rd03_0 (k := 47) rfl
theorem dX3_readStep_35 : decode cX3_readStep 35 = .ok (.aload_n 0, 1) := dchk_at dall_X3_readStep_27_rd03_0 (k := 48) rfl
theorem dX3_readStep_36 : decode cX3_readStep 36 = .ok (.iload_n 1, 1) := dchk_at dall_X3_readStep_27_rd03_0 (k := 49) rfl
def dl_X3_readStep_27_rd03_1 : List (Nat × Instr × Nat) := [(37, .invokevirtual 112, 3), (40, .iconst 1, 1), (41, .istore_n 2, 1), (65, .iconst 0, 1), (66, .ireturn, 1), (93, .iconst 0, 1), (94, .ireturn, 1), (110, .iconst 1, 1), (111, .ireturn, 1), (7, .iconst 0, 1), (8, .ireturn, 1)]
set_option maxRecDepth 100000 in
theorem dall_X3_readStep_27_rd03_1 : dchk cX3_readStep dl_X3_readStep_27_rd03_1 = true := by decide +kernel
theorem dX3_readStep_37 : decode cX3_readStep 37 = .ok (.invokevirtual 112, 3) := dchk_at dall_X3_readStep_27_rd03_1 (k := 0) rfl
theorem dX3_readStep_40 : decode cX3_readStep 40 = .ok (.iconst 1, 1) := dchk_at dall_X3_readStep_27_rd03_1 (k := 1) rfl
theorem dX3_readStep_41 : decode cX3_readStep 41 = .ok (.istore_n 2, 1) := dchk_at dall_X3_readStep_27_rd03_1 (k := 2) rfl
theorem dX3_readStep_65 : decode cX3_readStep 65 = .ok (.iconst 0, 1) := dchk_at dall_X3_readStep_27_rd03_1 (k := 3) rfl
theorem dX3_readStep_66 : decode cX3_readStep 66 = .ok (.ireturn, 1) := dchk_at dall_X3_readStep_27_rd03_1 (k := 4) rfl
theorem dX3_readStep_93 : decode cX3_readStep 93 = .ok (.iconst 0, 1) := dchk_at dall_X3_readStep_27_rd03_1 (k := 5) rfl
theorem dX3_readStep_94 : decode cX3_readStep 94 = .ok (.ireturn, 1) := dchk_at dall_X3_readStep_27_rd03_1 (k := 6) rfl
theorem dX3_readStep_110 : decode cX3_readStep 110 = .ok (.iconst 1, 1) := dchk_at dall_X3_readStep_27_rd03_1 (k := 7) rfl
theorem dX3_readStep_111 : decode cX3_readStep 111 = .ok (.ireturn, 1) := dchk_at dall_X3_readStep_27_rd03_1 (k := 8) rfl
theorem dX3_readStep_7 : decode cX3_readStep 7 = .ok (.iconst 0, 1) := dchk_at dall_X3_readStep_27_rd03_1 (k := 9) rfl
theorem dX3_readStep_8 : decode cX3_readStep 8 = .ok (.ireturn, 1) := dchk_at dall_X3_readStep_27_rd03_1 (k := 10) rfl
def B_X3_startStep_8 (c_stepCount : Int32) (x2 : Int32) (c_steps : Nat → Int32) : Option ((Int32 × (Nat → Int32)) ⊕ ((Nat → Int32))) :=
  if (4 : Int32) ≤ x2 then some (.inr c_steps) else bd1 (F_X3_putInStep x2 (-100000000 : Int32) c_steps c_stepCount) (fun w_4 => some (.inl (x2 + (1 : Int32), w_4)))
def F_X3_startStep (K : Nat) (p1 : Int32) (c_steps : Nat → Int32) (c_stepCount : Int32) : Option ((Nat → Int32)) :=
  bd1 (F_X3_putInStep (0 : Int32) p1 c_steps c_stepCount) (fun w_1 => bd1 (lpF (fun u9 : Int32 × (Nat → Int32) => B_X3_startStep_8 c_stepCount u9.1 u9.2) K ((1 : Int32), w_1)) (fun c_steps_6 => some c_steps_6))
abbrev w_X3_startStep (E : EE) (a_ a_tape a_rules a_places a_steps : Nat) (c_siteCount : Int32) (c_stepCount : Int32) (c_seenRules : Int32) (c_at : Int32) (c_wordStart : Int32) (c_number : Int32) (c_failed : Int32) (c_steps : Nat → Int32) : va_W := [(a_, .inr (4, [.ref a_tape, .ref a_rules, .ref a_places, .ref a_steps, .int c_siteCount, .int c_stepCount, .int c_seenRules, .int c_at, .int c_wordStart, .int c_number, .int c_failed])), (a_steps, .inl (E.2.1, 48, .inl c_steps))]
def v_f_X3_startStep : List Cond := .code yX3_startStep cX3_startStep 3 none :: ([.constant RX3 120 (-100000000), .methodLink RX3 116 yX3_putInStep, .instanceMethod yX3_putInStep, .selects RX3 yX3_putInStep yX3_putInStep, .initialized RX3] ++ (v_f_X3_putInStep ++ ([])))
theorem gw_f_X3_startStep : v_f_X3_startStep.all goodWord = true := by decide +kernel
theorem g_f_X3_startStep_f_X3_putInStep_116 : GoodIn v_f_X3_startStep (wsV RX3 116 RX3 yX3_putInStep v_f_X3_putInStep) := goodIn_app (goodIn_of _ (by decide +kernel)) (goodIn_sub (fun _ h => List.mem_cons_of_mem _ (List.mem_append_right _ (List.mem_append_left _ h))) gw_f_X3_putInStep)
theorem hd_X3_startStep : yX3_startStep.cls = RX3 ∧ yX3_startStep.cls ≠ "java/lang/invoke/MethodHandle" ∧ yX3_startStep.cls ≠ "java/lang/invoke/VarHandle" ∧ (parseMethodDescriptor yX3_startStep.desc).map (fun d => d.parameters.length) = some 1 := by decide +kernel
set_option maxHeartbeats 4000000 in
set_option maxRecDepth 100000 in
theorem wb_X3_startStep_8 {p : Program} (l : Launch) {e : Env} {s : State} {m : MethodId} {below : List Frame} {meth : Method} {c : Code} {Q : State → Prop} (E : EE) (K : Nat) {a_ a_tape a_rules a_places a_steps : Nat} {p1 : Int32} {c_siteCount : Int32} {c_stepCount : Int32} {c_seenRules : Int32} {c_at : Int32} {c_wordStart : Int32} {c_number : Int32} {c_failed : Int32} {x2 : Int32} {c_steps : Nat → Int32} (hx : p.tables.exec = Jvm.exec) (hb : c.code = cX3_startStep) (hml : c.maxLocals = 3) (hown : s.vm.findClass RX3 = some m.cls) (hts : ∀ w ∈ v_f_X3_startStep, w.before #[Value.ref a_, Value.int p1] s = true) (hK : va_K E.1 vwCl (TY E) s) (hN : NX s) {A : Nat → Prop} (hA : ∀ q : Nat, s.heap.size ≤ q → A q) {xx : (Int32 × (Nat → Int32)) ⊕ ((Nat → Int32))} (hC : ∀ (x2 : Int32), ∀ (c_steps : Nat → Int32), xx = .inl (x2, c_steps) → ∀ (H : Heap) (locs : List Loc) (ls : Array Slot), va_P E.1 vwCl (w_X3_startStep E a_ a_tape a_rules a_places a_steps c_siteCount c_stepCount c_seenRules c_at c_wordStart c_number c_failed c_steps) H → va_D A (w_X3_startStep E a_ a_tape a_rules a_places a_steps c_siteCount c_stepCount c_seenRules c_at c_wordStart c_number c_failed c_steps) → va_S A s.heap H locs → lv_has ls 3 [(0, .ref a_), (2, .int x2)] → W p l e ({ frames := 1, cells := 0, slots := 0, locals := 22 } : Room) s m #[Value.ref a_, Value.int p1] below meth c H locs 0 0 Q (F0 m 8 ls [])) (hE : ∀ (c_steps : Nat → Int32), xx = .inr c_steps → ((∀ (H : Heap) (locs : List Loc) (ls : Array Slot), va_P E.1 vwCl (w_X3_startStep E a_ a_tape a_rules a_places a_steps c_siteCount c_stepCount c_seenRules c_at c_wordStart c_number c_failed c_steps) H → va_D A (w_X3_startStep E a_ a_tape a_rules a_places a_steps c_siteCount c_stepCount c_seenRules c_at c_wordStart c_number c_failed c_steps) → va_S A s.heap H locs → lv_has ls 3 [] → W p l e ({ frames := 1, cells := 0, slots := 0, locals := 22 } : Room) s m #[Value.ref a_, Value.int p1] below meth c H locs 0 0 Q (F0 m 26 ls [])))) (hF : B_X3_startStep_8 c_stepCount x2 c_steps = some xx) : ∀ (H : Heap) (locs : List Loc) (ls : Array Slot), va_P E.1 vwCl (w_X3_startStep E a_ a_tape a_rules a_places a_steps c_siteCount c_stepCount c_seenRules c_at c_wordStart c_number c_failed c_steps) H → va_D A (w_X3_startStep E a_ a_tape a_rules a_places a_steps c_siteCount c_stepCount c_seenRules c_at c_wordStart c_number c_failed c_steps) → va_S A s.heap H locs → lv_has ls 3 [(0, .ref a_), (2, .int x2)] → W p l e ({ frames := 1, cells := 0, slots := 0, locals := 22 } : Room) s m #[Value.ref a_, Value.int p1] below meth c H locs 0 0 Q (F0 m 8 ls []) := by
  unfold B_X3_startStep_8 at hF
  intro H locs ls hP hD hS hl
  replace hP : va_P E.1 vwCl [(a_, .inr (4, [.ref a_tape, .ref a_rules, .ref a_places, .ref a_steps, .int c_siteCount, .int c_stepCount, .int c_seenRules, .int c_at, .int c_wordStart, .int c_number, .int c_failed])), (a_steps, .inl (E.2.1, 48, .inl c_steps))] H := hP
  replace hD : va_D A [(a_, .inr (4, [.ref a_tape, .ref a_rules, .ref a_places, .ref a_steps, .int c_siteCount, .int c_stepCount, .int c_seenRules, .int c_at, .int c_wordStart, .int c_number, .int c_failed])), (a_steps, .inl (E.2.1, 48, .inl c_steps))] := hD
  refine lv_iload_n hx hb dX3_startStep_8 rfl (lv_at hl 1 rfl) ?_
  refine lv_iconst (v := 4) hx hb dX3_startStep_9 (by decide) ?_
  refine lv_icmp_ge (tgt := 26) hx hb dX3_startStep_10 (by decide) (fun c_3 => ?_) (fun c_3 => ?_)
  ·
    replace hF := ip c_3 hF
    cases hF
    exact hE c_steps rfl H locs ls (hP.sub [0, 1] rfl) (hD.sub [0, 1] (by decide) rfl) hS (lv_sub hl [] rfl)
  ·
    replace hF := inn c_3 hF
    refine lv_aload_n hx hb dX3_startStep_13 rfl (lv_at hl 0 rfl) ?_
    refine lv_iload_n hx hb dX3_startStep_14 rfl (lv_at hl 1 rfl) ?_
    refine lv_ldc (v := -100000000) hx hb hown (hts (.constant RX3 120 (-100000000)) (List.mem_of_getElem? (i := 1) rfl)) dX3_startStep_15 ?_
    replace hF := bd1_s hF
    obtain ⟨w_4, hc_5, hF⟩ := hF
    obtain ⟨hPc, hDc, hFc⟩ := wcut (wc := (w_X3_putInStep E a_ a_tape a_rules a_places a_steps c_siteCount c_stepCount c_seenRules c_at c_wordStart c_number c_failed c_steps)) hP hD hS hA [0, 1] (by decide) rfl
    have hrc := va_recv hK hPc (ci := 4) (q0 := 0) rfl rfl
    refine cE_v (wc := (w_X3_putInStep E a_ a_tape a_rules a_places a_steps c_siteCount c_stepCount c_seenRules c_at c_wordStart c_number c_failed c_steps)) (wr := []) (w1 := (w_X3_putInStep E a_ a_tape a_rules a_places a_steps c_siteCount c_stepCount c_seenRules c_at c_wordStart c_number c_failed w_4)) (va_runV (As := [.int x2, .int (-100000000 : Int32)]) (rest := [])  ⟨hx, hb, hml, hown, hts⟩ (f_X3_putInStep l E H.size (a_ := a_) (a_tape := a_tape) (a_rules := a_rules) (a_places := a_places) (a_steps := a_steps) (p1 := x2) (p2 := (-100000000 : Int32)) (c_siteCount := c_siteCount) (c_stepCount := c_stepCount) (c_seenRules := c_seenRules) (c_at := c_at) (c_wordStart := c_wordStart) (c_number := c_number) (c_failed := c_failed) (c_steps := c_steps) hc_5) (cwV 2 hts g_f_X3_startStep_f_X3_putInStep_116 rfl rfl rfl hd_X3_putInStep ⟨Nat.le_of_ble_eq_true rfl, Nat.le_of_ble_eq_true rfl⟩) ⟨pW.blind, hrc, (pW.pre ⟨hK, hN⟩ hPc hDc)⟩ rfl rfl hl.1 rfl (lv_room (Nat.le_of_ble_eq_true rfl)) dX3_startStep_17 ⟨Nat.le_of_ble_eq_true rfl, Nat.le_of_ble_eq_true rfl⟩) hS hFc hP hD [0, 1] [] rfl rfl (by decide) (by decide) (fun H locs hP hD hS => ?_)
    replace hP : va_P E.1 vwCl [(a_, .inr (4, [.ref a_tape, .ref a_rules, .ref a_places, .ref a_steps, .int c_siteCount, .int c_stepCount, .int c_seenRules, .int c_at, .int c_wordStart, .int c_number, .int c_failed])), (a_steps, .inl (E.2.1, 48, .inl w_4))] H := hP
    replace hD : va_D A [(a_, .inr (4, [.ref a_tape, .ref a_rules, .ref a_places, .ref a_steps, .int c_siteCount, .int c_stepCount, .int c_seenRules, .int c_at, .int c_wordStart, .int c_number, .int c_failed])), (a_steps, .inl (E.2.1, 48, .inl w_4))] := hD
    refine lv_iinc (v := x2 + (1 : Int32)) (lv' := [(2, .int (x2 + (1 : Int32))), (0, .ref a_)]) hx hb dX3_startStep_20 hl (k := 1) rfl (rfl) (by decide) rfl (fun ls hl => ?_)
    refine lv_goto (tgt := 8) hx hb dX3_startStep_23 (by decide) ?_
    cases hF
    exact hC (x2 + (1 : Int32)) w_4 rfl H locs ls (hP.sub [0, 1] rfl) (hD.sub [0, 1] (by decide) rfl) hS (lv_sub hl [1, 0] rfl)

set_option maxHeartbeats 4000000 in
set_option maxRecDepth 100000 in
theorem lw_X3_startStep_8 {p : Program} (l : Launch) {e : Env} {s : State} {m : MethodId} {below : List Frame} {meth : Method} {c : Code} {Q : State → Prop} (E : EE) (K : Nat) {a_ a_tape a_rules a_places a_steps : Nat} {p1 : Int32} {c_siteCount : Int32} {c_stepCount : Int32} {c_seenRules : Int32} {c_at : Int32} {c_wordStart : Int32} {c_number : Int32} {c_failed : Int32} (hx : p.tables.exec = Jvm.exec) (hb : c.code = cX3_startStep) (hml : c.maxLocals = 3) (hown : s.vm.findClass RX3 = some m.cls) (hts : ∀ w ∈ v_f_X3_startStep, w.before #[Value.ref a_, Value.int p1] s = true) (hK : va_K E.1 vwCl (TY E) s) (hN : NX s) {A : Nat → Prop} (hA : ∀ q : Nat, s.heap.size ≤ q → A q) (j9 : Nat) (x2 : Int32) (c_steps : Nat → Int32) (c_steps' : Nat → Int32) (hL : lpF (fun u9 : Int32 × (Nat → Int32) => B_X3_startStep_8 c_stepCount u9.1 u9.2) j9 (x2, c_steps) = some c_steps') (hX : (∀ (H : Heap) (locs : List Loc) (ls : Array Slot), va_P E.1 vwCl (w_X3_startStep E a_ a_tape a_rules a_places a_steps c_siteCount c_stepCount c_seenRules c_at c_wordStart c_number c_failed c_steps') H → va_D A (w_X3_startStep E a_ a_tape a_rules a_places a_steps c_siteCount c_stepCount c_seenRules c_at c_wordStart c_number c_failed c_steps') → va_S A s.heap H locs → lv_has ls 3 [] → W p l e ({ frames := 1, cells := 0, slots := 0, locals := 22 } : Room) s m #[Value.ref a_, Value.int p1] below meth c H locs 0 0 Q (F0 m 26 ls []))) : ∀ (H : Heap) (locs : List Loc) (ls : Array Slot), va_P E.1 vwCl (w_X3_startStep E a_ a_tape a_rules a_places a_steps c_siteCount c_stepCount c_seenRules c_at c_wordStart c_number c_failed c_steps) H → va_D A (w_X3_startStep E a_ a_tape a_rules a_places a_steps c_siteCount c_stepCount c_seenRules c_at c_wordStart c_number c_failed c_steps) → va_S A s.heap H locs → lv_has ls 3 [(0, .ref a_), (2, .int x2)] → W p l e ({ frames := 1, cells := 0, slots := 0, locals := 22 } : Room) s m #[Value.ref a_, Value.int p1] below meth c H locs 0 0 Q (F0 m 8 ls []) := by
  exact lp_rule (P := (fun u9 : Int32 × (Nat → Int32) => ∀ (H : Heap) (locs : List Loc) (ls : Array Slot), va_P E.1 vwCl (w_X3_startStep E a_ a_tape a_rules a_places a_steps c_siteCount c_stepCount c_seenRules c_at c_wordStart c_number c_failed u9.2) H → va_D A (w_X3_startStep E a_ a_tape a_rules a_places a_steps c_siteCount c_stepCount c_seenRules c_at c_wordStart c_number c_failed u9.2) → va_S A s.heap H locs → lv_has ls 3 [(0, .ref a_), (2, .int u9.1)] → W p l e ({ frames := 1, cells := 0, slots := 0, locals := 22 } : Room) s m #[Value.ref a_, Value.int p1] below meth c H locs 0 0 Q (F0 m 8 ls []))) (R := (fun r9 : (Nat → Int32) => (∀ (H : Heap) (locs : List Loc) (ls : Array Slot), va_P E.1 vwCl (w_X3_startStep E a_ a_tape a_rules a_places a_steps c_siteCount c_stepCount c_seenRules c_at c_wordStart c_number c_failed r9) H → va_D A (w_X3_startStep E a_ a_tape a_rules a_places a_steps c_siteCount c_stepCount c_seenRules c_at c_wordStart c_number c_failed r9) → va_S A s.heap H locs → lv_has ls 3 [] → W p l e ({ frames := 1, cells := 0, slots := 0, locals := 22 } : Room) s m #[Value.ref a_, Value.int p1] below meth c H locs 0 0 Q (F0 m 26 ls [])))) (fun u9 xx hF hC hE => wb_X3_startStep_8 l E K (p1 := p1) (c_siteCount := c_siteCount) (c_stepCount := c_stepCount) (c_seenRules := c_seenRules) (c_at := c_at) (c_wordStart := c_wordStart) (c_number := c_number) (c_failed := c_failed) (x2 := u9.1) (c_steps := u9.2) hx hb hml hown hts hK hN hA (fun x2 c_steps q9 => hC _ q9) (fun c_steps q9 => hE _ q9) hF) j9 (x2, c_steps) c_steps' hL hX

set_option maxHeartbeats 4000000 in
set_option maxRecDepth 100000 in
theorem f_X3_startStep (l : Launch) (E : EE) (sz : Nat) (K : Nat) {a_ a_tape a_rules a_places a_steps : Nat} {p1 : Int32} {c_siteCount : Int32} {c_stepCount : Int32} {c_seenRules : Int32} {c_at : Int32} {c_wordStart : Int32} {c_number : Int32} {c_failed : Int32} {c_steps : Nat → Int32} {n_steps : Nat → Int32} (hF : F_X3_startStep K p1 c_steps c_stepCount = some n_steps) : Met l yX3_startStep v_f_X3_startStep (({ frames := 1, cells := 0, slots := 0, locals := 22 } : Room)) (va_Pc [.ref a_, .int p1] (pW E sz (w_X3_startStep E a_ a_tape a_rules a_places a_steps c_siteCount c_stepCount c_seenRules c_at c_wordStart c_number c_failed c_steps))) (va_Qv (fun (_u : Unit) => True) (fun (_u : Unit) tt => va_P E.1 vwCl (w_X3_startStep E a_ a_tape a_rules a_places a_steps c_siteCount c_stepCount c_seenRules c_at c_wordStart c_number c_failed n_steps) tt.heap ∧ va_D (va_A (w_X3_startStep E a_ a_tape a_rules a_places a_steps c_siteCount c_stepCount c_seenRules c_at c_wordStart c_number c_failed c_steps) sz) (w_X3_startStep E a_ a_tape a_rules a_places a_steps c_siteCount c_stepCount c_seenRules c_at c_wordStart c_number c_failed n_steps)) (va_A (w_X3_startStep E a_ a_tape a_rules a_places a_steps c_siteCount c_stepCount c_seenRules c_at c_wordStart c_number c_failed c_steps) sz)) 0 0 (va_A (w_X3_startStep E a_ a_tape a_rules a_places a_steps c_siteCount c_stepCount c_seenRules c_at c_wordStart c_number c_failed c_steps) sz) := by
  refine Met.ofW (cc := cX3_startStep) (maxL := 3) (ret := none) (by decide) rfl ?_
  intro p e s m args below meth c s₁ B hml hv
  obtain ⟨rfl, hsz, ⟨hK, hN⟩, hP, hD0⟩ := hv
  have hx := B.exec
  have hb := B.bytes
  have hr := B.returns
  have hts := atoms_spec (ws := v_f_X3_startStep) B.pre
  have hown : s.vm.findClass RX3 = some m.cls := own_of hd_X3_startStep.1 (findClass_of_methodNamed B.named)
  have hlocks : meth.locks = false := B.notSynchronized
  subst hsz
  have hD := hD0.self (sz := s.heap.size)
  generalize hAe : va_A (w_X3_startStep E a_ a_tape a_rules a_places a_steps c_siteCount c_stepCount c_seenRules c_at c_wordStart c_number c_failed c_steps) s.heap.size = A at hD ⊢
  have hA : ∀ q : Nat, s.heap.size ≤ q → A q := fun q h => by rw [← hAe]; exact Or.inr h
  have hS : va_S A s.heap s.heap [] := va_S.rf
  have hl := lv_entry ([.ref a_, .int p1]) (n := 3) (Nat.le_of_ble_eq_true rfl)
  rw [lg_entry_eq]
  generalize (lg_sl ([.ref a_, .int p1]) ++ List.replicate (3 - (lg_sl ([.ref a_, .int p1])).length) Slot.unset).toArray = ls at hl ⊢
  have hl : lv_has ls 3 [(0, .ref a_), (1, .int p1)] := hl
  obtain ⟨Q, hQ⟩ : ∃ Q : State → Prop, Q = MQ below (va_Qv (fun (_u : Unit) => True) (fun (_u : Unit) tt => va_P E.1 vwCl (w_X3_startStep E a_ a_tape a_rules a_places a_steps c_siteCount c_stepCount c_seenRules c_at c_wordStart c_number c_failed n_steps) tt.heap ∧ va_D A (w_X3_startStep E a_ a_tape a_rules a_places a_steps c_siteCount c_stepCount c_seenRules c_at c_wordStart c_number c_failed n_steps)) A) #[Value.ref a_, Value.int p1] s 0 0 A := ⟨_, rfl⟩
  rw [← hQ]
  change W p l e ({ frames := 1, cells := 0, slots := 0, locals := 22 } : Room) s m #[Value.ref a_, Value.int p1] below meth c s.heap [] 0 0 Q (F0 m 0 ls [])
  suffices hh9 : ∀ (H : Heap) (locs : List Loc), va_P E.1 vwCl (w_X3_startStep E a_ a_tape a_rules a_places a_steps c_siteCount c_stepCount c_seenRules c_at c_wordStart c_number c_failed c_steps) H → va_D A (w_X3_startStep E a_ a_tape a_rules a_places a_steps c_siteCount c_stepCount c_seenRules c_at c_wordStart c_number c_failed c_steps) → va_S A s.heap H locs → W p l e ({ frames := 1, cells := 0, slots := 0, locals := 22 } : Room) s m #[Value.ref a_, Value.int p1] below meth c H locs 0 0 Q (F0 m 0 ls []) from hh9 s.heap [] hP hD hS
  clear hP hD hS
  intro H locs hP hD hS
  replace hP : va_P E.1 vwCl [(a_, .inr (4, [.ref a_tape, .ref a_rules, .ref a_places, .ref a_steps, .int c_siteCount, .int c_stepCount, .int c_seenRules, .int c_at, .int c_wordStart, .int c_number, .int c_failed])), (a_steps, .inl (E.2.1, 48, .inl c_steps))] H := hP
  replace hD : va_D A [(a_, .inr (4, [.ref a_tape, .ref a_rules, .ref a_places, .ref a_steps, .int c_siteCount, .int c_stepCount, .int c_seenRules, .int c_at, .int c_wordStart, .int c_number, .int c_failed])), (a_steps, .inl (E.2.1, 48, .inl c_steps))] := hD
  unfold F_X3_startStep at hF
  refine lv_aload_n hx hb dX3_startStep_0 rfl (lv_at hl 0 rfl) ?_
  refine lv_iconst (v := 0) hx hb dX3_startStep_1 (by decide) ?_
  refine lv_iload_n hx hb dX3_startStep_2 rfl (lv_at hl 1 rfl) ?_
  replace hF := bd1_s hF
  obtain ⟨w_1, hc_2, hF⟩ := hF
  obtain ⟨hPc, hDc, hFc⟩ := wcut (wc := (w_X3_putInStep E a_ a_tape a_rules a_places a_steps c_siteCount c_stepCount c_seenRules c_at c_wordStart c_number c_failed c_steps)) hP hD hS hA [0, 1] (by decide) rfl
  have hrc := va_recv hK hPc (ci := 4) (q0 := 0) rfl rfl
  refine cE_v (wc := (w_X3_putInStep E a_ a_tape a_rules a_places a_steps c_siteCount c_stepCount c_seenRules c_at c_wordStart c_number c_failed c_steps)) (wr := []) (w1 := (w_X3_putInStep E a_ a_tape a_rules a_places a_steps c_siteCount c_stepCount c_seenRules c_at c_wordStart c_number c_failed w_1)) (va_runV (As := [.int (0 : Int32), .int p1]) (rest := [])  ⟨hx, hb, hml, hown, hts⟩ (f_X3_putInStep l E H.size (a_ := a_) (a_tape := a_tape) (a_rules := a_rules) (a_places := a_places) (a_steps := a_steps) (p1 := (0 : Int32)) (p2 := p1) (c_siteCount := c_siteCount) (c_stepCount := c_stepCount) (c_seenRules := c_seenRules) (c_at := c_at) (c_wordStart := c_wordStart) (c_number := c_number) (c_failed := c_failed) (c_steps := c_steps) hc_2) (cwV 2 hts g_f_X3_startStep_f_X3_putInStep_116 rfl rfl rfl hd_X3_putInStep ⟨Nat.le_of_ble_eq_true rfl, Nat.le_of_ble_eq_true rfl⟩) ⟨pW.blind, hrc, (pW.pre ⟨hK, hN⟩ hPc hDc)⟩ rfl rfl hl.1 rfl (lv_room (Nat.le_of_ble_eq_true rfl)) dX3_startStep_3 ⟨Nat.le_of_ble_eq_true rfl, Nat.le_of_ble_eq_true rfl⟩) hS hFc hP hD [0, 1] [] rfl rfl (by decide) (by decide) (fun H locs hP hD hS => ?_)
  replace hP : va_P E.1 vwCl [(a_, .inr (4, [.ref a_tape, .ref a_rules, .ref a_places, .ref a_steps, .int c_siteCount, .int c_stepCount, .int c_seenRules, .int c_at, .int c_wordStart, .int c_number, .int c_failed])), (a_steps, .inl (E.2.1, 48, .inl w_1))] H := hP
  replace hD : va_D A [(a_, .inr (4, [.ref a_tape, .ref a_rules, .ref a_places, .ref a_steps, .int c_siteCount, .int c_stepCount, .int c_seenRules, .int c_at, .int c_wordStart, .int c_number, .int c_failed])), (a_steps, .inl (E.2.1, 48, .inl w_1))] := hD
  refine lv_iconst (v := 1) hx hb dX3_startStep_6 (by decide) ?_
  refine lv_istore_n (lv' := [(2, .int (1 : Int32)), (0, .ref a_), (1, .int p1)]) hx hb dX3_startStep_7 rfl hl (by decide) rfl (fun ls hl => ?_)
  replace hF := bd1_s hF
  obtain ⟨c_steps_6, hL_7, hF⟩ := hF
  refine lw_X3_startStep_8 l E K (p1 := p1) (c_siteCount := c_siteCount) (c_stepCount := c_stepCount) (c_seenRules := c_seenRules) (c_at := c_at) (c_wordStart := c_wordStart) (c_number := c_number) (c_failed := c_failed) hx hb hml hown hts hK hN hA K (1 : Int32) w_1 c_steps_6 hL_7 ?_ H locs ls (hP.sub [0, 1] rfl) (hD.sub [0, 1] (by decide) rfl) hS (lv_sub hl [1, 0] rfl)
  ·
    intro H locs ls hP hD hS hl
    replace hP : va_P E.1 vwCl [(a_, .inr (4, [.ref a_tape, .ref a_rules, .ref a_places, .ref a_steps, .int c_siteCount, .int c_stepCount, .int c_seenRules, .int c_at, .int c_wordStart, .int c_number, .int c_failed])), (a_steps, .inl (E.2.1, 48, .inl c_steps_6))] H := hP
    replace hD : va_D A [(a_, .inr (4, [.ref a_tape, .ref a_rules, .ref a_places, .ref a_steps, .int c_siteCount, .int c_stepCount, .int c_seenRules, .int c_at, .int c_wordStart, .int c_number, .int c_failed])), (a_steps, .inl (E.2.1, 48, .inl c_steps_6))] := hD
    rw [hQ]
    have h9 := fin9 (P := fun u9 : (Nat → Int32) => va_P E.1 vwCl (w_X3_startStep E a_ a_tape a_rules a_places a_steps c_siteCount c_stepCount c_seenRules c_at c_wordStart c_number c_failed u9) H ∧ va_D A (w_X3_startStep E a_ a_tape a_rules a_places a_steps c_siteCount c_stepCount c_seenRules c_at c_wordStart c_number c_failed u9)) hF ⟨hP, hD⟩
    obtain ⟨hP9, hD9⟩ := h9
    exact W.vret hx hb hr (fun tt ht hW => ⟨⟨(), rfl, trivial, ht ▸ hP9, hD9⟩, hS.F ht⟩) hS.2.2 dX3_startStep_26

def J_X3_readStep_67_r43 (K : Nat) (c_stepCount : Int32) (c_tape_length : Int32) (c_tape_bytes : Nat → Int32) (x1 : Int32) (x2 : Int32) (c_steps : Nat → Int32) (c_at : Int32) (c_wordStart : Int32) (c_number : Int32) (c_failed : Int32) : Option ((Int32 × (Nat → Int32) × Int32 × Int32 × Int32 × Int32) ⊕ (Nat × (Nat → Int32) × Int32 × Int32 × Int32 × Int32)) :=
  if x1 = (3 : Int32) then bd5 (F_X3_readLaw K c_tape_bytes c_tape_length c_at c_wordStart c_number c_failed) (fun r_31 w_32 w_33 w_34 w_35 => if r_31 = (0 : Int32) then some (.inr (1, c_steps, w_32, w_33, w_34, w_35)) else bd1 (F_X3_putInStep x2 w_34 c_steps c_stepCount) (fun w_39 => some (.inl (x2 + (1 : Int32), w_39, w_32, w_33, w_34, w_35)))) else bd4 (F_X3_readNumber K (-9999999 : Int32) (9999999 : Int32) c_tape_bytes c_tape_length c_at c_number c_failed) (fun r_22 w_23 w_24 w_25 => if r_22 = (0 : Int32) then some (.inr (1, c_steps, w_23, c_wordStart, w_24, w_25)) else bd1 (F_X3_putInStep x2 w_24 c_steps c_stepCount) (fun w_29 => some (.inl (x2 + (1 : Int32), w_29, w_23, c_wordStart, w_24, w_25))))
def B_X3_readStep_42 (K : Nat) (c_stepCount : Int32) (c_tape_length : Int32) (c_tape_bytes : Nat → Int32) (x1 : Int32) (x2 : Int32) (c_steps : Nat → Int32) (c_at : Int32) (c_wordStart : Int32) (c_number : Int32) (c_failed : Int32) : Option ((Int32 × (Nat → Int32) × Int32 × Int32 × Int32 × Int32) ⊕ (Nat × (Nat → Int32) × Int32 × Int32 × Int32 × Int32)) :=
  ixF x1 7 (if (nosF x1.toNatClampNeg) < x2 then some (.inr (2, c_steps, c_at, c_wordStart, c_number, c_failed)) else if x2 ≤ (1 : Int32) then J_X3_readStep_67_r43 K c_stepCount c_tape_length c_tape_bytes x1 x2 c_steps c_at c_wordStart c_number c_failed else bd3 (F_X3_readSign K (44 : Int32) c_tape_bytes c_tape_length c_at c_failed) (fun r_41 w_42 w_43 => if r_41 = (0 : Int32) then some (.inr (0, c_steps, w_42, c_wordStart, c_number, w_43)) else J_X3_readStep_67_r43 K c_stepCount c_tape_length c_tape_bytes x1 x2 c_steps w_42 c_wordStart c_number w_43))
def F_X3_readStep (K : Nat) (c_tape_bytes : Nat → Int32) (c_tape_length : Int32) (c_steps : Nat → Int32) (c_stepCount : Int32) (c_at : Int32) (c_wordStart : Int32) (c_number : Int32) (c_failed : Int32) : Option (Int32 × (Nat → Int32) × Int32 × Int32 × Int32 × Int32) :=
  bd4 (F_X3_readWord K c_tape_bytes c_tape_length c_at c_wordStart c_failed) (fun r_1 w_2 w_3 w_4 => if r_1 = (0 : Int32) then some ((0 : Int32), c_steps, w_2, w_3, c_number, w_4) else bd1 (F_X3_stepOfWord K c_tape_bytes c_tape_length w_2 w_3) (fun r_8 => if r_8 < (0 : Int32) then bd2 (F_X3_failAt w_3 w_4) (fun r_11 w_12 => some (r_11, c_steps, w_2, w_3, c_number, w_12)) else if r_8 < (7 : Int32) then bd1 (F_X3_startStep K r_8 c_steps c_stepCount) (fun w_16 => bd6 (lpF (fun u9 : Int32 × (Nat → Int32) × Int32 × Int32 × Int32 × Int32 => B_X3_readStep_42 K c_stepCount c_tape_length c_tape_bytes r_8 u9.1 u9.2.1 u9.2.2.1 u9.2.2.2.1 u9.2.2.2.2.1 u9.2.2.2.2.2) K ((1 : Int32), w_16, w_2, w_3, c_number, w_4)) (fun t_47 c_steps_48 c_at_49 c_wordStart_50 c_number_51 c_failed_52 => if t_47 = 0 then some ((0 : Int32), c_steps_48, c_at_49, c_wordStart_50, c_number_51, c_failed_52) else if t_47 = 1 then some ((0 : Int32), c_steps_48, c_at_49, c_wordStart_50, c_number_51, c_failed_52) else if t_47 = 2 then some ((1 : Int32), c_steps_48, c_at_49, c_wordStart_50, c_number_51, c_failed_52) else none)) else bd2 (F_X3_failAt w_3 w_4) (fun r_54 w_55 => some (r_54, c_steps, w_2, w_3, c_number, w_55))))
abbrev w_X3_readStep (E : EE) (a_ a_tape a_rules a_places a_steps a_tape_bytes : Nat) (c_siteCount : Int32) (c_stepCount : Int32) (c_seenRules : Int32) (c_at : Int32) (c_wordStart : Int32) (c_number : Int32) (c_failed : Int32) (c_tape_length : Int32) (c_tape_bytes : Nat → Int32) (c_steps : Nat → Int32) : va_W := [(a_, .inr (4, [.ref a_tape, .ref a_rules, .ref a_places, .ref a_steps, .int c_siteCount, .int c_stepCount, .int c_seenRules, .int c_at, .int c_wordStart, .int c_number, .int c_failed])), (a_tape, .inr (7, [.ref a_tape_bytes, .int c_tape_length])), (a_tape_bytes, .inl (E.2.2.1, 320, .inl c_tape_bytes)), (a_steps, .inl (E.2.1, 48, .inl c_steps))]
def v_f_X3_readStep : List Cond := .code yX3_readStep cX3_readStep 3 (some .boolean) :: ([.fieldLink RX3 34 "HushWatch$Reader" "wordStart" "I", .constant RX3 94 (-9999999), .constant RX3 95 (9999999), .fieldLink RX3 37 "HushWatch$Reader" "number" "I", .methodLink RX3 71 yX3_readWord, .instanceMethod yX3_readWord, .selects RX3 yX3_readWord yX3_readWord, .initialized RX3, .methodLink RX3 106 yX3_stepOfWord, .instanceMethod yX3_stepOfWord, .selects RX3 yX3_stepOfWord yX3_stepOfWord, .methodLink RX3 87 yX3_failAt, .instanceMethod yX3_failAt, .selects RX3 yX3_failAt yX3_failAt, .methodLink RX3 112 yX3_startStep, .instanceMethod yX3_startStep, .selects RX3 yX3_startStep yX3_startStep, .methodLink RX3 96 yX3_readNumber, .instanceMethod yX3_readNumber, .selects RX3 yX3_readNumber yX3_readNumber, .methodLink RX3 116 yX3_putInStep, .instanceMethod yX3_putInStep, .selects RX3 yX3_putInStep yX3_putInStep, .methodLink RX3 91 yX3_readLaw, .instanceMethod yX3_readLaw, .selects RX3 yX3_readLaw yX3_readLaw, .methodLink RX3 62 yX3_readSign, .instanceMethod yX3_readSign, .selects RX3 yX3_readSign yX3_readSign] ++ (v_f_X3_readWord ++ (v_f_X3_stepOfWord ++ (wsX30 ++ (v_f_X3_failAt ++ (v_f_X3_startStep ++ (v_f_X3_readNumber ++ (v_f_X3_putInStep ++ (v_f_X3_readLaw ++ (v_f_X3_readSign ++ ([])))))))))))
theorem gw_f_X3_readStep : v_f_X3_readStep.all goodWord = true := by decide +kernel
theorem i_f_X3_readStep_X3 : ∀ w ∈ wsX30, w ∈ v_f_X3_readStep := fun _ h => List.mem_cons_of_mem _ (List.mem_append_right _ (List.mem_append_right _ (List.mem_append_right _ (List.mem_append_left _ h))))
theorem g_f_X3_readStep_f_X3_readWord_71 : GoodIn v_f_X3_readStep (wsV RX3 71 RX3 yX3_readWord v_f_X3_readWord) := goodIn_app (goodIn_of _ (by decide +kernel)) (goodIn_sub (fun _ h => List.mem_cons_of_mem _ (List.mem_append_right _ (List.mem_append_left _ h))) gw_f_X3_readWord)
theorem g_f_X3_readStep_f_X3_stepOfWord_106 : GoodIn v_f_X3_readStep (wsV RX3 106 RX3 yX3_stepOfWord v_f_X3_stepOfWord) := goodIn_app (goodIn_of _ (by decide +kernel)) (goodIn_sub (fun _ h => List.mem_cons_of_mem _ (List.mem_append_right _ (List.mem_append_right _ (List.mem_append_left _ h)))) gw_f_X3_stepOfWord)
theorem g_f_X3_readStep_f_X3_failAt_87 : GoodIn v_f_X3_readStep (wsV RX3 87 RX3 yX3_failAt v_f_X3_failAt) := goodIn_app (goodIn_of _ (by decide +kernel)) (goodIn_sub (fun _ h => List.mem_cons_of_mem _ (List.mem_append_right _ (List.mem_append_right _ (List.mem_append_right _ (List.mem_append_right _ (List.mem_append_left _ h)))))) gw_f_X3_failAt)
theorem g_f_X3_readStep_f_X3_startStep_112 : GoodIn v_f_X3_readStep (wsV RX3 112 RX3 yX3_startStep v_f_X3_startStep) := goodIn_app (goodIn_of _ (by decide +kernel)) (goodIn_sub (fun _ h => List.mem_cons_of_mem _ (List.mem_append_right _ (List.mem_append_right _ (List.mem_append_right _ (List.mem_append_right _ (List.mem_append_right _ (List.mem_append_left _ h))))))) gw_f_X3_startStep)
theorem g_f_X3_readStep_f_X3_readNumber_96 : GoodIn v_f_X3_readStep (wsV RX3 96 RX3 yX3_readNumber v_f_X3_readNumber) := goodIn_app (goodIn_of _ (by decide +kernel)) (goodIn_sub (fun _ h => List.mem_cons_of_mem _ (List.mem_append_right _ (List.mem_append_right _ (List.mem_append_right _ (List.mem_append_right _ (List.mem_append_right _ (List.mem_append_right _ (List.mem_append_left _ h)))))))) gw_f_X3_readNumber)
theorem g_f_X3_readStep_f_X3_putInStep_116 : GoodIn v_f_X3_readStep (wsV RX3 116 RX3 yX3_putInStep v_f_X3_putInStep) := goodIn_app (goodIn_of _ (by decide +kernel)) (goodIn_sub (fun _ h => List.mem_cons_of_mem _ (List.mem_append_right _ (List.mem_append_right _ (List.mem_append_right _ (List.mem_append_right _ (List.mem_append_right _ (List.mem_append_right _ (List.mem_append_right _ (List.mem_append_left _ h))))))))) gw_f_X3_putInStep)
theorem g_f_X3_readStep_f_X3_readLaw_91 : GoodIn v_f_X3_readStep (wsV RX3 91 RX3 yX3_readLaw v_f_X3_readLaw) := goodIn_app (goodIn_of _ (by decide +kernel)) (goodIn_sub (fun _ h => List.mem_cons_of_mem _ (List.mem_append_right _ (List.mem_append_right _ (List.mem_append_right _ (List.mem_append_right _ (List.mem_append_right _ (List.mem_append_right _ (List.mem_append_right _ (List.mem_append_right _ (List.mem_append_left _ h)))))))))) gw_f_X3_readLaw)
theorem g_f_X3_readStep_f_X3_readSign_62 : GoodIn v_f_X3_readStep (wsV RX3 62 RX3 yX3_readSign v_f_X3_readSign) := goodIn_app (goodIn_of _ (by decide +kernel)) (goodIn_sub (fun _ h => List.mem_cons_of_mem _ (List.mem_append_right _ (List.mem_append_right _ (List.mem_append_right _ (List.mem_append_right _ (List.mem_append_right _ (List.mem_append_right _ (List.mem_append_right _ (List.mem_append_right _ (List.mem_append_right _ (List.mem_append_left _ h))))))))))) gw_f_X3_readSign)
theorem hd_X3_readStep : yX3_readStep.cls = RX3 ∧ yX3_readStep.cls ≠ "java/lang/invoke/MethodHandle" ∧ yX3_readStep.cls ≠ "java/lang/invoke/VarHandle" ∧ (parseMethodDescriptor yX3_readStep.desc).map (fun d => d.parameters.length) = some 0 := by decide +kernel
set_option maxHeartbeats 4000000 in
set_option maxRecDepth 100000 in
theorem j_X3_readStep_67_r43 {p : Program} (l : Launch) {e : Env} {s : State} {m : MethodId} {below : List Frame} {meth : Method} {c : Code} {Q : State → Prop} (E : EE) (K : Nat) {z9 : Nat → Nat} {a_ a_tape a_rules a_places a_steps a_tape_bytes : Nat} {c_siteCount : Int32} {c_stepCount : Int32} {c_seenRules : Int32} {c_tape_length : Int32} {c_tape_bytes : Nat → Int32} {x1 : Int32} {x2 : Int32} {c_steps : Nat → Int32} {c_at : Int32} {c_wordStart : Int32} {c_number : Int32} {c_failed : Int32} (hx : p.tables.exec = Jvm.exec) (hb : c.code = cX3_readStep) (hml : c.maxLocals = 3) (hown : s.vm.findClass RX3 = some m.cls) (hts : ∀ w ∈ v_f_X3_readStep, w.before #[Value.ref a_] s = true) (hK : va_K E.1 vwCl (TY E) s) (hN : NX s) {A : Nat → Prop} (hA : ∀ q : Nat, s.heap.size ≤ q → A q) (hZ : ZZ z9 A s s.heap) {xx : (Int32 × (Nat → Int32) × Int32 × Int32 × Int32 × Int32) ⊕ (Nat × (Nat → Int32) × Int32 × Int32 × Int32 × Int32)} (hC : ∀ (x2 : Int32), ∀ (c_steps : Nat → Int32), ∀ (c_at : Int32), ∀ (c_wordStart : Int32), ∀ (c_number : Int32), ∀ (c_failed : Int32), xx = .inl (x2, c_steps, c_at, c_wordStart, c_number, c_failed) → ∀ (H : Heap) (locs : List Loc) (ls : Array Slot), va_P E.1 vwCl (w_X3_readStep E a_ a_tape a_rules a_places a_steps a_tape_bytes c_siteCount c_stepCount c_seenRules c_at c_wordStart c_number c_failed c_tape_length c_tape_bytes c_steps) H → va_D A (w_X3_readStep E a_ a_tape a_rules a_places a_steps a_tape_bytes c_siteCount c_stepCount c_seenRules c_at c_wordStart c_number c_failed c_tape_length c_tape_bytes c_steps) → va_S A s.heap H locs → lv_has ls 3 [(0, .ref a_), (1, .int x1), (2, .int x2)] → W p l e ({ frames := 7, cells := 0, slots := 0, locals := 147 } : Room) s m #[Value.ref a_] below meth c H locs 0 0 Q (F0 m 42 ls [])) (hE : ∀ (t9 : Nat), ∀ (c_steps : Nat → Int32), ∀ (c_at : Int32), ∀ (c_wordStart : Int32), ∀ (c_number : Int32), ∀ (c_failed : Int32), xx = .inr (t9, c_steps, c_at, c_wordStart, c_number, c_failed) → ((t9 = 0 → ∀ (H : Heap) (locs : List Loc) (ls : Array Slot), va_P E.1 vwCl (w_X3_readStep E a_ a_tape a_rules a_places a_steps a_tape_bytes c_siteCount c_stepCount c_seenRules c_at c_wordStart c_number c_failed c_tape_length c_tape_bytes c_steps) H → va_D A (w_X3_readStep E a_ a_tape a_rules a_places a_steps a_tape_bytes c_siteCount c_stepCount c_seenRules c_at c_wordStart c_number c_failed c_tape_length c_tape_bytes c_steps) → va_S A s.heap H locs → lv_has ls 3 [] → W p l e ({ frames := 7, cells := 0, slots := 0, locals := 147 } : Room) s m #[Value.ref a_] below meth c H locs 0 0 Q (F0 m 65 ls [])) ∧ (t9 = 1 → ∀ (H : Heap) (locs : List Loc) (ls : Array Slot), va_P E.1 vwCl (w_X3_readStep E a_ a_tape a_rules a_places a_steps a_tape_bytes c_siteCount c_stepCount c_seenRules c_at c_wordStart c_number c_failed c_tape_length c_tape_bytes c_steps) H → va_D A (w_X3_readStep E a_ a_tape a_rules a_places a_steps a_tape_bytes c_siteCount c_stepCount c_seenRules c_at c_wordStart c_number c_failed c_tape_length c_tape_bytes c_steps) → va_S A s.heap H locs → lv_has ls 3 [] → W p l e ({ frames := 7, cells := 0, slots := 0, locals := 147 } : Room) s m #[Value.ref a_] below meth c H locs 0 0 Q (F0 m 93 ls [])) ∧ (t9 = 2 → ∀ (H : Heap) (locs : List Loc) (ls : Array Slot), va_P E.1 vwCl (w_X3_readStep E a_ a_tape a_rules a_places a_steps a_tape_bytes c_siteCount c_stepCount c_seenRules c_at c_wordStart c_number c_failed c_tape_length c_tape_bytes c_steps) H → va_D A (w_X3_readStep E a_ a_tape a_rules a_places a_steps a_tape_bytes c_siteCount c_stepCount c_seenRules c_at c_wordStart c_number c_failed c_tape_length c_tape_bytes c_steps) → va_S A s.heap H locs → lv_has ls 3 [] → W p l e ({ frames := 7, cells := 0, slots := 0, locals := 147 } : Room) s m #[Value.ref a_] below meth c H locs 0 0 Q (F0 m 110 ls [])))) (hF : J_X3_readStep_67_r43 K c_stepCount c_tape_length c_tape_bytes x1 x2 c_steps c_at c_wordStart c_number c_failed = some xx) : ∀ (H : Heap) (locs : List Loc) (ls : Array Slot), va_P E.1 vwCl (w_X3_readStep E a_ a_tape a_rules a_places a_steps a_tape_bytes c_siteCount c_stepCount c_seenRules c_at c_wordStart c_number c_failed c_tape_length c_tape_bytes c_steps) H → va_D A (w_X3_readStep E a_ a_tape a_rules a_places a_steps a_tape_bytes c_siteCount c_stepCount c_seenRules c_at c_wordStart c_number c_failed c_tape_length c_tape_bytes c_steps) → va_S A s.heap H locs → lv_has ls 3 [(0, .ref a_), (1, .int x1), (2, .int x2)] → W p l e ({ frames := 7, cells := 0, slots := 0, locals := 147 } : Room) s m #[Value.ref a_] below meth c H locs 0 0 Q (F0 m 67 ls []) := by
  unfold J_X3_readStep_67_r43 at hF
  intro H locs ls hP hD hS hl
  replace hP : va_P E.1 vwCl [(a_, .inr (4, [.ref a_tape, .ref a_rules, .ref a_places, .ref a_steps, .int c_siteCount, .int c_stepCount, .int c_seenRules, .int c_at, .int c_wordStart, .int c_number, .int c_failed])), (a_tape, .inr (7, [.ref a_tape_bytes, .int c_tape_length])), (a_tape_bytes, .inl (E.2.2.1, 320, .inl c_tape_bytes)), (a_steps, .inl (E.2.1, 48, .inl c_steps))] H := hP
  replace hD : va_D A [(a_, .inr (4, [.ref a_tape, .ref a_rules, .ref a_places, .ref a_steps, .int c_siteCount, .int c_stepCount, .int c_seenRules, .int c_at, .int c_wordStart, .int c_number, .int c_failed])), (a_tape, .inr (7, [.ref a_tape_bytes, .int c_tape_length])), (a_tape_bytes, .inl (E.2.2.1, 320, .inl c_tape_bytes)), (a_steps, .inl (E.2.1, 48, .inl c_steps))] := hD
  refine lv_iload_n hx hb dX3_readStep_67 rfl (lv_at hl 1 rfl) ?_
  refine lv_iconst (v := 3) hx hb dX3_readStep_68 (by decide) ?_
  refine lv_icmp_ne (tgt := 82) hx hb dX3_readStep_69 (by decide) (fun c_21 => ?_) (fun c_21 => ?_)
  ·
    replace hF := inn c_21 hF
    refine lv_aload_n hx hb dX3_readStep_82 rfl (lv_at hl 0 rfl) ?_
    refine lv_ldc (v := -9999999) hx hb hown (hts (.constant RX3 94 (-9999999)) (List.mem_of_getElem? (i := 2) rfl)) dX3_readStep_83 ?_
    refine lv_ldc (v := 9999999) hx hb hown (hts (.constant RX3 95 (9999999)) (List.mem_of_getElem? (i := 3) rfl)) dX3_readStep_85 ?_
    replace hF := bd4_s hF
    obtain ⟨r_22, w_23, w_24, w_25, hc_26, hF⟩ := hF
    obtain ⟨hPc, hDc, hFc⟩ := wcut (wc := (w_X3_readNumber E a_ a_tape a_rules a_places a_steps a_tape_bytes c_siteCount c_stepCount c_seenRules c_at c_wordStart c_number c_failed c_tape_length c_tape_bytes)) hP hD hS hA [0, 1, 2] (by decide) rfl
    have hrc := va_recv hK hPc (ci := 4) (q0 := 0) rfl rfl
    refine cE_z (wc := (w_X3_readNumber E a_ a_tape a_rules a_places a_steps a_tape_bytes c_siteCount c_stepCount c_seenRules c_at c_wordStart c_number c_failed c_tape_length c_tape_bytes)) (wr := [(a_steps, .inl (E.2.1, 48, .inl c_steps))]) (w1 := (w_X3_readNumber E a_ a_tape a_rules a_places a_steps a_tape_bytes c_siteCount c_stepCount c_seenRules w_23 c_wordStart w_24 w_25 c_tape_length c_tape_bytes)) (va_runV (As := [.int (-9999999 : Int32), .int (9999999 : Int32)]) (rest := [])  ⟨hx, hb, hml, hown, hts⟩ (f_X3_readNumber l E H.size K (a_ := a_) (a_tape := a_tape) (a_rules := a_rules) (a_places := a_places) (a_steps := a_steps) (a_tape_bytes := a_tape_bytes) (p1 := (-9999999 : Int32)) (p2 := (9999999 : Int32)) (c_siteCount := c_siteCount) (c_stepCount := c_stepCount) (c_seenRules := c_seenRules) (c_at := c_at) (c_wordStart := c_wordStart) (c_number := c_number) (c_failed := c_failed) (c_tape_length := c_tape_length) (c_tape_bytes := c_tape_bytes) hc_26) (cwV 2 hts g_f_X3_readStep_f_X3_readNumber_96 rfl rfl rfl hd_X3_readNumber ⟨Nat.le_of_ble_eq_true rfl, Nat.le_of_ble_eq_true rfl⟩) ⟨pW.blind, hrc, (pW.pre ⟨hK, hN⟩ hPc hDc)⟩ rfl rfl hl.1 rfl (lv_room (Nat.le_of_ble_eq_true rfl)) dX3_readStep_87 ⟨Nat.le_of_ble_eq_true rfl, Nat.le_of_ble_eq_true rfl⟩) hS hFc hP hD [0, 1, 2] [3] rfl rfl (by decide) (by decide) (fun hb_27 H locs hP hD hS => ?_)
    replace hP : va_P E.1 vwCl [(a_steps, .inl (E.2.1, 48, .inl c_steps)), (a_, .inr (4, [.ref a_tape, .ref a_rules, .ref a_places, .ref a_steps, .int c_siteCount, .int c_stepCount, .int c_seenRules, .int w_23, .int c_wordStart, .int w_24, .int w_25])), (a_tape, .inr (7, [.ref a_tape_bytes, .int c_tape_length])), (a_tape_bytes, .inl (E.2.2.1, 320, .inl c_tape_bytes))] H := hP
    replace hD : va_D A [(a_steps, .inl (E.2.1, 48, .inl c_steps)), (a_, .inr (4, [.ref a_tape, .ref a_rules, .ref a_places, .ref a_steps, .int c_siteCount, .int c_stepCount, .int c_seenRules, .int w_23, .int c_wordStart, .int w_24, .int w_25])), (a_tape, .inr (7, [.ref a_tape_bytes, .int c_tape_length])), (a_tape_bytes, .inl (E.2.2.1, 320, .inl c_tape_bytes))] := hD
    refine lv_if_ne (tgt := 95) hx hb dX3_readStep_90 (by decide) (fun c_28 => ?_) (fun c_28 => ?_)
    ·
      replace hF := inn c_28 hF
      refine lv_aload_n hx hb dX3_readStep_95 rfl (lv_at hl 0 rfl) ?_
      refine lv_iload_n hx hb dX3_readStep_96 rfl (lv_at hl 2 rfl) ?_
      refine lv_aload_n hx hb dX3_readStep_97 rfl (lv_at hl 0 rfl) ?_
      refine gt_X3_9 (v := .int w_24) hx hb hts i_f_X3_readStep_X3 hown hK hP 1 rfl (hts (.fieldLink RX3 37 "HushWatch$Reader" "number" "I") (List.mem_of_getElem? (i := 4) rfl)) rfl dX3_readStep_98 ?_
      replace hF := bd1_s hF
      obtain ⟨w_29, hc_30, hF⟩ := hF
      obtain ⟨hPc, hDc, hFc⟩ := wcut (wc := (w_X3_putInStep E a_ a_tape a_rules a_places a_steps c_siteCount c_stepCount c_seenRules w_23 c_wordStart w_24 w_25 c_steps)) hP hD hS hA [1, 0] (by decide) rfl
      have hrc := va_recv hK hPc (ci := 4) (q0 := 0) rfl rfl
      refine cE_v (wc := (w_X3_putInStep E a_ a_tape a_rules a_places a_steps c_siteCount c_stepCount c_seenRules w_23 c_wordStart w_24 w_25 c_steps)) (wr := [(a_tape, .inr (7, [.ref a_tape_bytes, .int c_tape_length])), (a_tape_bytes, .inl (E.2.2.1, 320, .inl c_tape_bytes))]) (w1 := (w_X3_putInStep E a_ a_tape a_rules a_places a_steps c_siteCount c_stepCount c_seenRules w_23 c_wordStart w_24 w_25 w_29)) (va_runV (As := [.int x2, .int w_24]) (rest := [])  ⟨hx, hb, hml, hown, hts⟩ (f_X3_putInStep l E H.size (a_ := a_) (a_tape := a_tape) (a_rules := a_rules) (a_places := a_places) (a_steps := a_steps) (p1 := x2) (p2 := w_24) (c_siteCount := c_siteCount) (c_stepCount := c_stepCount) (c_seenRules := c_seenRules) (c_at := w_23) (c_wordStart := c_wordStart) (c_number := w_24) (c_failed := w_25) (c_steps := c_steps) hc_30) (cwV 2 hts g_f_X3_readStep_f_X3_putInStep_116 rfl rfl rfl hd_X3_putInStep ⟨Nat.le_of_ble_eq_true rfl, Nat.le_of_ble_eq_true rfl⟩) ⟨pW.blind, hrc, (pW.pre ⟨hK, hN⟩ hPc hDc)⟩ rfl rfl hl.1 rfl (lv_room (Nat.le_of_ble_eq_true rfl)) dX3_readStep_101 ⟨Nat.le_of_ble_eq_true rfl, Nat.le_of_ble_eq_true rfl⟩) hS hFc hP hD [1, 0] [2, 3] rfl rfl (by decide) (by decide) (fun H locs hP hD hS => ?_)
      replace hP : va_P E.1 vwCl [(a_tape, .inr (7, [.ref a_tape_bytes, .int c_tape_length])), (a_tape_bytes, .inl (E.2.2.1, 320, .inl c_tape_bytes)), (a_, .inr (4, [.ref a_tape, .ref a_rules, .ref a_places, .ref a_steps, .int c_siteCount, .int c_stepCount, .int c_seenRules, .int w_23, .int c_wordStart, .int w_24, .int w_25])), (a_steps, .inl (E.2.1, 48, .inl w_29))] H := hP
      replace hD : va_D A [(a_tape, .inr (7, [.ref a_tape_bytes, .int c_tape_length])), (a_tape_bytes, .inl (E.2.2.1, 320, .inl c_tape_bytes)), (a_, .inr (4, [.ref a_tape, .ref a_rules, .ref a_places, .ref a_steps, .int c_siteCount, .int c_stepCount, .int c_seenRules, .int w_23, .int c_wordStart, .int w_24, .int w_25])), (a_steps, .inl (E.2.1, 48, .inl w_29))] := hD
      refine lv_iinc (v := x2 + (1 : Int32)) (lv' := [(2, .int (x2 + (1 : Int32))), (0, .ref a_), (1, .int x1)]) hx hb dX3_readStep_104 hl (k := 2) rfl (rfl) (by decide) rfl (fun ls hl => ?_)
      refine lv_goto (tgt := 42) hx hb dX3_readStep_107 (by decide) ?_
      cases hF
      exact hC (x2 + (1 : Int32)) w_29 w_23 c_wordStart w_24 w_25 rfl H locs ls (hP.sub [2, 0, 1, 3] rfl) (hD.sub [2, 0, 1, 3] (by decide) rfl) hS (lv_sub hl [1, 2, 0] rfl)
    ·
      replace hF := ip c_28 hF
      cases hF
      exact (hE 1 c_steps w_23 c_wordStart w_24 w_25 rfl).2.1 rfl H locs ls (hP.sub [1, 2, 3, 0] rfl) (hD.sub [1, 2, 3, 0] (by decide) rfl) hS (lv_sub hl [] rfl)
  ·
    replace hF := ip c_21 hF
    refine lv_aload_n hx hb dX3_readStep_72 rfl (lv_at hl 0 rfl) ?_
    replace hF := bd5_s hF
    obtain ⟨r_31, w_32, w_33, w_34, w_35, hc_36, hF⟩ := hF
    obtain ⟨hPc, hDc, hFc⟩ := wcut (wc := (w_X3_readLaw E a_ a_tape a_rules a_places a_steps a_tape_bytes c_siteCount c_stepCount c_seenRules c_at c_wordStart c_number c_failed c_tape_length c_tape_bytes)) hP hD hS hA [0, 1, 2] (by decide) rfl
    have hrc := va_recv hK hPc (ci := 4) (q0 := 0) rfl rfl
    refine cE_z (wc := (w_X3_readLaw E a_ a_tape a_rules a_places a_steps a_tape_bytes c_siteCount c_stepCount c_seenRules c_at c_wordStart c_number c_failed c_tape_length c_tape_bytes)) (wr := [(a_steps, .inl (E.2.1, 48, .inl c_steps))]) (w1 := (w_X3_readLaw E a_ a_tape a_rules a_places a_steps a_tape_bytes c_siteCount c_stepCount c_seenRules w_32 w_33 w_34 w_35 c_tape_length c_tape_bytes)) (va_runV (As := []) (rest := [])  ⟨hx, hb, hml, hown, hts⟩ (f_X3_readLaw l E H.size K z9 (a_ := a_) (a_tape := a_tape) (a_rules := a_rules) (a_places := a_places) (a_steps := a_steps) (a_tape_bytes := a_tape_bytes) (c_siteCount := c_siteCount) (c_stepCount := c_stepCount) (c_seenRules := c_seenRules) (c_at := c_at) (c_wordStart := c_wordStart) (c_number := c_number) (c_failed := c_failed) (c_tape_length := c_tape_length) (c_tape_bytes := c_tape_bytes) hc_36) (cwV 0 hts g_f_X3_readStep_f_X3_readLaw_91 rfl rfl rfl hd_X3_readLaw ⟨Nat.le_of_ble_eq_true rfl, Nat.le_of_ble_eq_true rfl⟩) ⟨qWZ.blind, hrc, (qWZ.pre ⟨hK, hN⟩ hPc hDc hZ hS hFc)⟩ rfl rfl hl.1 rfl (lv_room (Nat.le_of_ble_eq_true rfl)) dX3_readStep_73 ⟨Nat.le_of_ble_eq_true rfl, Nat.le_of_ble_eq_true rfl⟩) hS hFc hP hD [0, 1, 2] [3] rfl rfl (by decide) (by decide) (fun hb_37 H locs hP hD hS => ?_)
    replace hP : va_P E.1 vwCl [(a_steps, .inl (E.2.1, 48, .inl c_steps)), (a_, .inr (4, [.ref a_tape, .ref a_rules, .ref a_places, .ref a_steps, .int c_siteCount, .int c_stepCount, .int c_seenRules, .int w_32, .int w_33, .int w_34, .int w_35])), (a_tape, .inr (7, [.ref a_tape_bytes, .int c_tape_length])), (a_tape_bytes, .inl (E.2.2.1, 320, .inl c_tape_bytes))] H := hP
    replace hD : va_D A [(a_steps, .inl (E.2.1, 48, .inl c_steps)), (a_, .inr (4, [.ref a_tape, .ref a_rules, .ref a_places, .ref a_steps, .int c_siteCount, .int c_stepCount, .int c_seenRules, .int w_32, .int w_33, .int w_34, .int w_35])), (a_tape, .inr (7, [.ref a_tape_bytes, .int c_tape_length])), (a_tape_bytes, .inl (E.2.2.1, 320, .inl c_tape_bytes))] := hD
    refine lv_if_eq (tgt := 93) hx hb dX3_readStep_76 (by decide) (fun c_38 => ?_) (fun c_38 => ?_)
    ·
      replace hF := ip c_38 hF
      cases hF
      exact (hE 1 c_steps w_32 w_33 w_34 w_35 rfl).2.1 rfl H locs ls (hP.sub [1, 2, 3, 0] rfl) (hD.sub [1, 2, 3, 0] (by decide) rfl) hS (lv_sub hl [] rfl)
    ·
      replace hF := inn c_38 hF
      refine lv_goto (tgt := 95) hx hb dX3_readStep_79 (by decide) ?_
      refine lv_aload_n hx hb dX3_readStep_95 rfl (lv_at hl 0 rfl) ?_
      refine lv_iload_n hx hb dX3_readStep_96 rfl (lv_at hl 2 rfl) ?_
      refine lv_aload_n hx hb dX3_readStep_97 rfl (lv_at hl 0 rfl) ?_
      refine gt_X3_9 (v := .int w_34) hx hb hts i_f_X3_readStep_X3 hown hK hP 1 rfl (hts (.fieldLink RX3 37 "HushWatch$Reader" "number" "I") (List.mem_of_getElem? (i := 4) rfl)) rfl dX3_readStep_98 ?_
      replace hF := bd1_s hF
      obtain ⟨w_39, hc_40, hF⟩ := hF
      obtain ⟨hPc, hDc, hFc⟩ := wcut (wc := (w_X3_putInStep E a_ a_tape a_rules a_places a_steps c_siteCount c_stepCount c_seenRules w_32 w_33 w_34 w_35 c_steps)) hP hD hS hA [1, 0] (by decide) rfl
      have hrc := va_recv hK hPc (ci := 4) (q0 := 0) rfl rfl
      refine cE_v (wc := (w_X3_putInStep E a_ a_tape a_rules a_places a_steps c_siteCount c_stepCount c_seenRules w_32 w_33 w_34 w_35 c_steps)) (wr := [(a_tape, .inr (7, [.ref a_tape_bytes, .int c_tape_length])), (a_tape_bytes, .inl (E.2.2.1, 320, .inl c_tape_bytes))]) (w1 := (w_X3_putInStep E a_ a_tape a_rules a_places a_steps c_siteCount c_stepCount c_seenRules w_32 w_33 w_34 w_35 w_39)) (va_runV (As := [.int x2, .int w_34]) (rest := [])  ⟨hx, hb, hml, hown, hts⟩ (f_X3_putInStep l E H.size (a_ := a_) (a_tape := a_tape) (a_rules := a_rules) (a_places := a_places) (a_steps := a_steps) (p1 := x2) (p2 := w_34) (c_siteCount := c_siteCount) (c_stepCount := c_stepCount) (c_seenRules := c_seenRules) (c_at := w_32) (c_wordStart := w_33) (c_number := w_34) (c_failed := w_35) (c_steps := c_steps) hc_40) (cwV 2 hts g_f_X3_readStep_f_X3_putInStep_116 rfl rfl rfl hd_X3_putInStep ⟨Nat.le_of_ble_eq_true rfl, Nat.le_of_ble_eq_true rfl⟩) ⟨pW.blind, hrc, (pW.pre ⟨hK, hN⟩ hPc hDc)⟩ rfl rfl hl.1 rfl (lv_room (Nat.le_of_ble_eq_true rfl)) dX3_readStep_101 ⟨Nat.le_of_ble_eq_true rfl, Nat.le_of_ble_eq_true rfl⟩) hS hFc hP hD [1, 0] [2, 3] rfl rfl (by decide) (by decide) (fun H locs hP hD hS => ?_)
      replace hP : va_P E.1 vwCl [(a_tape, .inr (7, [.ref a_tape_bytes, .int c_tape_length])), (a_tape_bytes, .inl (E.2.2.1, 320, .inl c_tape_bytes)), (a_, .inr (4, [.ref a_tape, .ref a_rules, .ref a_places, .ref a_steps, .int c_siteCount, .int c_stepCount, .int c_seenRules, .int w_32, .int w_33, .int w_34, .int w_35])), (a_steps, .inl (E.2.1, 48, .inl w_39))] H := hP
      replace hD : va_D A [(a_tape, .inr (7, [.ref a_tape_bytes, .int c_tape_length])), (a_tape_bytes, .inl (E.2.2.1, 320, .inl c_tape_bytes)), (a_, .inr (4, [.ref a_tape, .ref a_rules, .ref a_places, .ref a_steps, .int c_siteCount, .int c_stepCount, .int c_seenRules, .int w_32, .int w_33, .int w_34, .int w_35])), (a_steps, .inl (E.2.1, 48, .inl w_39))] := hD
      refine lv_iinc (v := x2 + (1 : Int32)) (lv' := [(2, .int (x2 + (1 : Int32))), (0, .ref a_), (1, .int x1)]) hx hb dX3_readStep_104 hl (k := 2) rfl (rfl) (by decide) rfl (fun ls hl => ?_)
      refine lv_goto (tgt := 42) hx hb dX3_readStep_107 (by decide) ?_
      cases hF
      exact hC (x2 + (1 : Int32)) w_39 w_32 w_33 w_34 w_35 rfl H locs ls (hP.sub [2, 0, 1, 3] rfl) (hD.sub [2, 0, 1, 3] (by decide) rfl) hS (lv_sub hl [1, 2, 0] rfl)

set_option maxHeartbeats 4000000 in
set_option maxRecDepth 100000 in
theorem wb_X3_readStep_42 {p : Program} (l : Launch) {e : Env} {s : State} {m : MethodId} {below : List Frame} {meth : Method} {c : Code} {Q : State → Prop} (E : EE) (K : Nat) {z9 : Nat → Nat} {a_ a_tape a_rules a_places a_steps a_tape_bytes : Nat} {c_siteCount : Int32} {c_stepCount : Int32} {c_seenRules : Int32} {c_tape_length : Int32} {c_tape_bytes : Nat → Int32} {x1 : Int32} {x2 : Int32} {c_steps : Nat → Int32} {c_at : Int32} {c_wordStart : Int32} {c_number : Int32} {c_failed : Int32} (hx : p.tables.exec = Jvm.exec) (hb : c.code = cX3_readStep) (hml : c.maxLocals = 3) (hown : s.vm.findClass RX3 = some m.cls) (hts : ∀ w ∈ v_f_X3_readStep, w.before #[Value.ref a_] s = true) (hK : va_K E.1 vwCl (TY E) s) (hN : NX s) {A : Nat → Prop} (hA : ∀ q : Nat, s.heap.size ≤ q → A q) (hZ : ZZ z9 A s s.heap) {xx : (Int32 × (Nat → Int32) × Int32 × Int32 × Int32 × Int32) ⊕ (Nat × (Nat → Int32) × Int32 × Int32 × Int32 × Int32)} (hC : ∀ (x2 : Int32), ∀ (c_steps : Nat → Int32), ∀ (c_at : Int32), ∀ (c_wordStart : Int32), ∀ (c_number : Int32), ∀ (c_failed : Int32), xx = .inl (x2, c_steps, c_at, c_wordStart, c_number, c_failed) → ∀ (H : Heap) (locs : List Loc) (ls : Array Slot), va_P E.1 vwCl (w_X3_readStep E a_ a_tape a_rules a_places a_steps a_tape_bytes c_siteCount c_stepCount c_seenRules c_at c_wordStart c_number c_failed c_tape_length c_tape_bytes c_steps) H → va_D A (w_X3_readStep E a_ a_tape a_rules a_places a_steps a_tape_bytes c_siteCount c_stepCount c_seenRules c_at c_wordStart c_number c_failed c_tape_length c_tape_bytes c_steps) → va_S A s.heap H locs → lv_has ls 3 [(0, .ref a_), (1, .int x1), (2, .int x2)] → W p l e ({ frames := 7, cells := 0, slots := 0, locals := 147 } : Room) s m #[Value.ref a_] below meth c H locs 0 0 Q (F0 m 42 ls [])) (hE : ∀ (t9 : Nat), ∀ (c_steps : Nat → Int32), ∀ (c_at : Int32), ∀ (c_wordStart : Int32), ∀ (c_number : Int32), ∀ (c_failed : Int32), xx = .inr (t9, c_steps, c_at, c_wordStart, c_number, c_failed) → ((t9 = 0 → ∀ (H : Heap) (locs : List Loc) (ls : Array Slot), va_P E.1 vwCl (w_X3_readStep E a_ a_tape a_rules a_places a_steps a_tape_bytes c_siteCount c_stepCount c_seenRules c_at c_wordStart c_number c_failed c_tape_length c_tape_bytes c_steps) H → va_D A (w_X3_readStep E a_ a_tape a_rules a_places a_steps a_tape_bytes c_siteCount c_stepCount c_seenRules c_at c_wordStart c_number c_failed c_tape_length c_tape_bytes c_steps) → va_S A s.heap H locs → lv_has ls 3 [] → W p l e ({ frames := 7, cells := 0, slots := 0, locals := 147 } : Room) s m #[Value.ref a_] below meth c H locs 0 0 Q (F0 m 65 ls [])) ∧ (t9 = 1 → ∀ (H : Heap) (locs : List Loc) (ls : Array Slot), va_P E.1 vwCl (w_X3_readStep E a_ a_tape a_rules a_places a_steps a_tape_bytes c_siteCount c_stepCount c_seenRules c_at c_wordStart c_number c_failed c_tape_length c_tape_bytes c_steps) H → va_D A (w_X3_readStep E a_ a_tape a_rules a_places a_steps a_tape_bytes c_siteCount c_stepCount c_seenRules c_at c_wordStart c_number c_failed c_tape_length c_tape_bytes c_steps) → va_S A s.heap H locs → lv_has ls 3 [] → W p l e ({ frames := 7, cells := 0, slots := 0, locals := 147 } : Room) s m #[Value.ref a_] below meth c H locs 0 0 Q (F0 m 93 ls [])) ∧ (t9 = 2 → ∀ (H : Heap) (locs : List Loc) (ls : Array Slot), va_P E.1 vwCl (w_X3_readStep E a_ a_tape a_rules a_places a_steps a_tape_bytes c_siteCount c_stepCount c_seenRules c_at c_wordStart c_number c_failed c_tape_length c_tape_bytes c_steps) H → va_D A (w_X3_readStep E a_ a_tape a_rules a_places a_steps a_tape_bytes c_siteCount c_stepCount c_seenRules c_at c_wordStart c_number c_failed c_tape_length c_tape_bytes c_steps) → va_S A s.heap H locs → lv_has ls 3 [] → W p l e ({ frames := 7, cells := 0, slots := 0, locals := 147 } : Room) s m #[Value.ref a_] below meth c H locs 0 0 Q (F0 m 110 ls [])))) (hF : B_X3_readStep_42 K c_stepCount c_tape_length c_tape_bytes x1 x2 c_steps c_at c_wordStart c_number c_failed = some xx) : ∀ (H : Heap) (locs : List Loc) (ls : Array Slot), va_P E.1 vwCl (w_X3_readStep E a_ a_tape a_rules a_places a_steps a_tape_bytes c_siteCount c_stepCount c_seenRules c_at c_wordStart c_number c_failed c_tape_length c_tape_bytes c_steps) H → va_D A (w_X3_readStep E a_ a_tape a_rules a_places a_steps a_tape_bytes c_siteCount c_stepCount c_seenRules c_at c_wordStart c_number c_failed c_tape_length c_tape_bytes c_steps) → va_S A s.heap H locs → lv_has ls 3 [(0, .ref a_), (1, .int x1), (2, .int x2)] → W p l e ({ frames := 7, cells := 0, slots := 0, locals := 147 } : Room) s m #[Value.ref a_] below meth c H locs 0 0 Q (F0 m 42 ls []) := by
  unfold B_X3_readStep_42 at hF
  intro H locs ls hP hD hS hl
  replace hP : va_P E.1 vwCl [(a_, .inr (4, [.ref a_tape, .ref a_rules, .ref a_places, .ref a_steps, .int c_siteCount, .int c_stepCount, .int c_seenRules, .int c_at, .int c_wordStart, .int c_number, .int c_failed])), (a_tape, .inr (7, [.ref a_tape_bytes, .int c_tape_length])), (a_tape_bytes, .inl (E.2.2.1, 320, .inl c_tape_bytes)), (a_steps, .inl (E.2.1, 48, .inl c_steps))] H := hP
  replace hD : va_D A [(a_, .inr (4, [.ref a_tape, .ref a_rules, .ref a_places, .ref a_steps, .int c_siteCount, .int c_stepCount, .int c_seenRules, .int c_at, .int c_wordStart, .int c_number, .int c_failed])), (a_tape, .inr (7, [.ref a_tape_bytes, .int c_tape_length])), (a_tape_bytes, .inl (E.2.2.1, 320, .inl c_tape_bytes)), (a_steps, .inl (E.2.1, 48, .inl c_steps))] := hD
  refine lv_iload_n hx hb dX3_readStep_42 rfl (lv_at hl 2 rfl) ?_
  refine va_getsN hx hb hZ.2.1.1 hS hown (nx hN 25 rfl) (fun _ h9 => h9) dX3_readStep_43 ?_
  refine lv_iload_n hx hb dX3_readStep_46 rfl (lv_at hl 1 rfl) ?_
  replace hF := ix_s hF
  obtain ⟨hi_18, hF⟩ := hF
  refine va_ti (v := .int (nosF x1.toNatClampNeg)) hx hb (hZ.2.1.2.1) hS hi_18 rfl dX3_readStep_47 ?_
  refine lv_icmp_gt (tgt := 110) hx hb dX3_readStep_48 (by decide) (fun c_19 => ?_) (fun c_19 => ?_)
  ·
    replace hF := ip c_19 hF
    cases hF
    exact (hE 2 c_steps c_at c_wordStart c_number c_failed rfl).2.2 rfl H locs ls (hP.sub [0, 1, 2, 3] rfl) (hD.sub [0, 1, 2, 3] (by decide) rfl) hS (lv_sub hl [] rfl)
  ·
    replace hF := inn c_19 hF
    refine lv_iload_n hx hb dX3_readStep_51 rfl (lv_at hl 2 rfl) ?_
    refine lv_iconst (v := 1) hx hb dX3_readStep_52 (by decide) ?_
    refine lv_icmp_le (tgt := 67) hx hb dX3_readStep_53 (by decide) (fun c_20 => ?_) (fun c_20 => ?_)
    ·
      replace hF := ip c_20 hF
      exact j_X3_readStep_67_r43 l E K (c_siteCount := c_siteCount) (c_stepCount := c_stepCount) (c_seenRules := c_seenRules) (c_tape_length := c_tape_length) (c_tape_bytes := c_tape_bytes) (x1 := x1) (x2 := x2) (c_steps := c_steps) (c_at := c_at) (c_wordStart := c_wordStart) (c_number := c_number) (c_failed := c_failed) hx hb hml hown hts hK hN hA hZ hC hE hF H locs ls (hP.sub [0, 1, 2, 3] rfl) (hD.sub [0, 1, 2, 3] (by decide) rfl) hS (lv_sub hl [0, 1, 2] rfl)
    ·
      replace hF := inn c_20 hF
      refine lv_aload_n hx hb dX3_readStep_56 rfl (lv_at hl 0 rfl) ?_
      refine lv_bipush (v := 44) hx hb dX3_readStep_57 (by decide) ?_
      replace hF := bd3_s hF
      obtain ⟨r_41, w_42, w_43, hc_44, hF⟩ := hF
      obtain ⟨hPc, hDc, hFc⟩ := wcut (wc := (w_X3_readSign E a_ a_tape a_rules a_places a_steps a_tape_bytes c_siteCount c_stepCount c_seenRules c_at c_wordStart c_number c_failed c_tape_length c_tape_bytes)) hP hD hS hA [0, 1, 2] (by decide) rfl
      have hrc := va_recv hK hPc (ci := 4) (q0 := 0) rfl rfl
      refine cE_z (wc := (w_X3_readSign E a_ a_tape a_rules a_places a_steps a_tape_bytes c_siteCount c_stepCount c_seenRules c_at c_wordStart c_number c_failed c_tape_length c_tape_bytes)) (wr := [(a_steps, .inl (E.2.1, 48, .inl c_steps))]) (w1 := (w_X3_readSign E a_ a_tape a_rules a_places a_steps a_tape_bytes c_siteCount c_stepCount c_seenRules w_42 c_wordStart c_number w_43 c_tape_length c_tape_bytes)) (va_runV (As := [.int (44 : Int32)]) (rest := [])  ⟨hx, hb, hml, hown, hts⟩ (f_X3_readSign l E H.size K (a_ := a_) (a_tape := a_tape) (a_rules := a_rules) (a_places := a_places) (a_steps := a_steps) (a_tape_bytes := a_tape_bytes) (p1 := (44 : Int32)) (c_siteCount := c_siteCount) (c_stepCount := c_stepCount) (c_seenRules := c_seenRules) (c_at := c_at) (c_wordStart := c_wordStart) (c_number := c_number) (c_failed := c_failed) (c_tape_length := c_tape_length) (c_tape_bytes := c_tape_bytes) hc_44) (cwV 1 hts g_f_X3_readStep_f_X3_readSign_62 rfl rfl rfl hd_X3_readSign ⟨Nat.le_of_ble_eq_true rfl, Nat.le_of_ble_eq_true rfl⟩) ⟨pW.blind, hrc, (pW.pre ⟨hK, hN⟩ hPc hDc)⟩ rfl rfl hl.1 rfl (lv_room (Nat.le_of_ble_eq_true rfl)) dX3_readStep_59 ⟨Nat.le_of_ble_eq_true rfl, Nat.le_of_ble_eq_true rfl⟩) hS hFc hP hD [0, 1, 2] [3] rfl rfl (by decide) (by decide) (fun hb_45 H locs hP hD hS => ?_)
      replace hP : va_P E.1 vwCl [(a_steps, .inl (E.2.1, 48, .inl c_steps)), (a_, .inr (4, [.ref a_tape, .ref a_rules, .ref a_places, .ref a_steps, .int c_siteCount, .int c_stepCount, .int c_seenRules, .int w_42, .int c_wordStart, .int c_number, .int w_43])), (a_tape, .inr (7, [.ref a_tape_bytes, .int c_tape_length])), (a_tape_bytes, .inl (E.2.2.1, 320, .inl c_tape_bytes))] H := hP
      replace hD : va_D A [(a_steps, .inl (E.2.1, 48, .inl c_steps)), (a_, .inr (4, [.ref a_tape, .ref a_rules, .ref a_places, .ref a_steps, .int c_siteCount, .int c_stepCount, .int c_seenRules, .int w_42, .int c_wordStart, .int c_number, .int w_43])), (a_tape, .inr (7, [.ref a_tape_bytes, .int c_tape_length])), (a_tape_bytes, .inl (E.2.2.1, 320, .inl c_tape_bytes))] := hD
      refine lv_if_ne (tgt := 67) hx hb dX3_readStep_62 (by decide) (fun c_46 => ?_) (fun c_46 => ?_)
      ·
        replace hF := inn c_46 hF
        exact j_X3_readStep_67_r43 l E K (c_siteCount := c_siteCount) (c_stepCount := c_stepCount) (c_seenRules := c_seenRules) (c_tape_length := c_tape_length) (c_tape_bytes := c_tape_bytes) (x1 := x1) (x2 := x2) (c_steps := c_steps) (c_at := w_42) (c_wordStart := c_wordStart) (c_number := c_number) (c_failed := w_43) hx hb hml hown hts hK hN hA hZ hC hE hF H locs ls (hP.sub [1, 2, 3, 0] rfl) (hD.sub [1, 2, 3, 0] (by decide) rfl) hS (lv_sub hl [0, 1, 2] rfl)
      ·
        replace hF := ip c_46 hF
        cases hF
        exact (hE 0 c_steps w_42 c_wordStart c_number w_43 rfl).1 rfl H locs ls (hP.sub [1, 2, 3, 0] rfl) (hD.sub [1, 2, 3, 0] (by decide) rfl) hS (lv_sub hl [] rfl)

set_option maxHeartbeats 4000000 in
set_option maxRecDepth 100000 in
theorem lw_X3_readStep_42 {p : Program} (l : Launch) {e : Env} {s : State} {m : MethodId} {below : List Frame} {meth : Method} {c : Code} {Q : State → Prop} (E : EE) (K : Nat) {z9 : Nat → Nat} {a_ a_tape a_rules a_places a_steps a_tape_bytes : Nat} {c_siteCount : Int32} {c_stepCount : Int32} {c_seenRules : Int32} {c_tape_length : Int32} {c_tape_bytes : Nat → Int32} {x1 : Int32} (hx : p.tables.exec = Jvm.exec) (hb : c.code = cX3_readStep) (hml : c.maxLocals = 3) (hown : s.vm.findClass RX3 = some m.cls) (hts : ∀ w ∈ v_f_X3_readStep, w.before #[Value.ref a_] s = true) (hK : va_K E.1 vwCl (TY E) s) (hN : NX s) {A : Nat → Prop} (hA : ∀ q : Nat, s.heap.size ≤ q → A q) (hZ : ZZ z9 A s s.heap) (j9 : Nat) (x2 : Int32) (c_steps : Nat → Int32) (c_at : Int32) (c_wordStart : Int32) (c_number : Int32) (c_failed : Int32) (t9' : Nat) (c_steps' : Nat → Int32) (c_at' : Int32) (c_wordStart' : Int32) (c_number' : Int32) (c_failed' : Int32) (hL : lpF (fun u9 : Int32 × (Nat → Int32) × Int32 × Int32 × Int32 × Int32 => B_X3_readStep_42 K c_stepCount c_tape_length c_tape_bytes x1 u9.1 u9.2.1 u9.2.2.1 u9.2.2.2.1 u9.2.2.2.2.1 u9.2.2.2.2.2) j9 (x2, c_steps, c_at, c_wordStart, c_number, c_failed) = some (t9', c_steps', c_at', c_wordStart', c_number', c_failed')) (hX : (t9' = 0 → ∀ (H : Heap) (locs : List Loc) (ls : Array Slot), va_P E.1 vwCl (w_X3_readStep E a_ a_tape a_rules a_places a_steps a_tape_bytes c_siteCount c_stepCount c_seenRules c_at' c_wordStart' c_number' c_failed' c_tape_length c_tape_bytes c_steps') H → va_D A (w_X3_readStep E a_ a_tape a_rules a_places a_steps a_tape_bytes c_siteCount c_stepCount c_seenRules c_at' c_wordStart' c_number' c_failed' c_tape_length c_tape_bytes c_steps') → va_S A s.heap H locs → lv_has ls 3 [] → W p l e ({ frames := 7, cells := 0, slots := 0, locals := 147 } : Room) s m #[Value.ref a_] below meth c H locs 0 0 Q (F0 m 65 ls [])) ∧ (t9' = 1 → ∀ (H : Heap) (locs : List Loc) (ls : Array Slot), va_P E.1 vwCl (w_X3_readStep E a_ a_tape a_rules a_places a_steps a_tape_bytes c_siteCount c_stepCount c_seenRules c_at' c_wordStart' c_number' c_failed' c_tape_length c_tape_bytes c_steps') H → va_D A (w_X3_readStep E a_ a_tape a_rules a_places a_steps a_tape_bytes c_siteCount c_stepCount c_seenRules c_at' c_wordStart' c_number' c_failed' c_tape_length c_tape_bytes c_steps') → va_S A s.heap H locs → lv_has ls 3 [] → W p l e ({ frames := 7, cells := 0, slots := 0, locals := 147 } : Room) s m #[Value.ref a_] below meth c H locs 0 0 Q (F0 m 93 ls [])) ∧ (t9' = 2 → ∀ (H : Heap) (locs : List Loc) (ls : Array Slot), va_P E.1 vwCl (w_X3_readStep E a_ a_tape a_rules a_places a_steps a_tape_bytes c_siteCount c_stepCount c_seenRules c_at' c_wordStart' c_number' c_failed' c_tape_length c_tape_bytes c_steps') H → va_D A (w_X3_readStep E a_ a_tape a_rules a_places a_steps a_tape_bytes c_siteCount c_stepCount c_seenRules c_at' c_wordStart' c_number' c_failed' c_tape_length c_tape_bytes c_steps') → va_S A s.heap H locs → lv_has ls 3 [] → W p l e ({ frames := 7, cells := 0, slots := 0, locals := 147 } : Room) s m #[Value.ref a_] below meth c H locs 0 0 Q (F0 m 110 ls []))) : ∀ (H : Heap) (locs : List Loc) (ls : Array Slot), va_P E.1 vwCl (w_X3_readStep E a_ a_tape a_rules a_places a_steps a_tape_bytes c_siteCount c_stepCount c_seenRules c_at c_wordStart c_number c_failed c_tape_length c_tape_bytes c_steps) H → va_D A (w_X3_readStep E a_ a_tape a_rules a_places a_steps a_tape_bytes c_siteCount c_stepCount c_seenRules c_at c_wordStart c_number c_failed c_tape_length c_tape_bytes c_steps) → va_S A s.heap H locs → lv_has ls 3 [(0, .ref a_), (1, .int x1), (2, .int x2)] → W p l e ({ frames := 7, cells := 0, slots := 0, locals := 147 } : Room) s m #[Value.ref a_] below meth c H locs 0 0 Q (F0 m 42 ls []) := by
  exact lp_rule (P := (fun u9 : Int32 × (Nat → Int32) × Int32 × Int32 × Int32 × Int32 => ∀ (H : Heap) (locs : List Loc) (ls : Array Slot), va_P E.1 vwCl (w_X3_readStep E a_ a_tape a_rules a_places a_steps a_tape_bytes c_siteCount c_stepCount c_seenRules u9.2.2.1 u9.2.2.2.1 u9.2.2.2.2.1 u9.2.2.2.2.2 c_tape_length c_tape_bytes u9.2.1) H → va_D A (w_X3_readStep E a_ a_tape a_rules a_places a_steps a_tape_bytes c_siteCount c_stepCount c_seenRules u9.2.2.1 u9.2.2.2.1 u9.2.2.2.2.1 u9.2.2.2.2.2 c_tape_length c_tape_bytes u9.2.1) → va_S A s.heap H locs → lv_has ls 3 [(0, .ref a_), (1, .int x1), (2, .int u9.1)] → W p l e ({ frames := 7, cells := 0, slots := 0, locals := 147 } : Room) s m #[Value.ref a_] below meth c H locs 0 0 Q (F0 m 42 ls []))) (R := (fun r9 : Nat × (Nat → Int32) × Int32 × Int32 × Int32 × Int32 => (r9.1 = 0 → ∀ (H : Heap) (locs : List Loc) (ls : Array Slot), va_P E.1 vwCl (w_X3_readStep E a_ a_tape a_rules a_places a_steps a_tape_bytes c_siteCount c_stepCount c_seenRules r9.2.2.1 r9.2.2.2.1 r9.2.2.2.2.1 r9.2.2.2.2.2 c_tape_length c_tape_bytes r9.2.1) H → va_D A (w_X3_readStep E a_ a_tape a_rules a_places a_steps a_tape_bytes c_siteCount c_stepCount c_seenRules r9.2.2.1 r9.2.2.2.1 r9.2.2.2.2.1 r9.2.2.2.2.2 c_tape_length c_tape_bytes r9.2.1) → va_S A s.heap H locs → lv_has ls 3 [] → W p l e ({ frames := 7, cells := 0, slots := 0, locals := 147 } : Room) s m #[Value.ref a_] below meth c H locs 0 0 Q (F0 m 65 ls [])) ∧ (r9.1 = 1 → ∀ (H : Heap) (locs : List Loc) (ls : Array Slot), va_P E.1 vwCl (w_X3_readStep E a_ a_tape a_rules a_places a_steps a_tape_bytes c_siteCount c_stepCount c_seenRules r9.2.2.1 r9.2.2.2.1 r9.2.2.2.2.1 r9.2.2.2.2.2 c_tape_length c_tape_bytes r9.2.1) H → va_D A (w_X3_readStep E a_ a_tape a_rules a_places a_steps a_tape_bytes c_siteCount c_stepCount c_seenRules r9.2.2.1 r9.2.2.2.1 r9.2.2.2.2.1 r9.2.2.2.2.2 c_tape_length c_tape_bytes r9.2.1) → va_S A s.heap H locs → lv_has ls 3 [] → W p l e ({ frames := 7, cells := 0, slots := 0, locals := 147 } : Room) s m #[Value.ref a_] below meth c H locs 0 0 Q (F0 m 93 ls [])) ∧ (r9.1 = 2 → ∀ (H : Heap) (locs : List Loc) (ls : Array Slot), va_P E.1 vwCl (w_X3_readStep E a_ a_tape a_rules a_places a_steps a_tape_bytes c_siteCount c_stepCount c_seenRules r9.2.2.1 r9.2.2.2.1 r9.2.2.2.2.1 r9.2.2.2.2.2 c_tape_length c_tape_bytes r9.2.1) H → va_D A (w_X3_readStep E a_ a_tape a_rules a_places a_steps a_tape_bytes c_siteCount c_stepCount c_seenRules r9.2.2.1 r9.2.2.2.1 r9.2.2.2.2.1 r9.2.2.2.2.2 c_tape_length c_tape_bytes r9.2.1) → va_S A s.heap H locs → lv_has ls 3 [] → W p l e ({ frames := 7, cells := 0, slots := 0, locals := 147 } : Room) s m #[Value.ref a_] below meth c H locs 0 0 Q (F0 m 110 ls [])))) (fun u9 xx hF hC hE => wb_X3_readStep_42 l E K (c_siteCount := c_siteCount) (c_stepCount := c_stepCount) (c_seenRules := c_seenRules) (c_tape_length := c_tape_length) (c_tape_bytes := c_tape_bytes) (x1 := x1) (x2 := u9.1) (c_steps := u9.2.1) (c_at := u9.2.2.1) (c_wordStart := u9.2.2.2.1) (c_number := u9.2.2.2.2.1) (c_failed := u9.2.2.2.2.2) hx hb hml hown hts hK hN hA hZ (fun x2 c_steps c_at c_wordStart c_number c_failed q9 => hC _ q9) (fun t9 c_steps c_at c_wordStart c_number c_failed q9 => hE _ q9) hF) j9 (x2, c_steps, c_at, c_wordStart, c_number, c_failed) (t9', c_steps', c_at', c_wordStart', c_number', c_failed') hL hX

set_option maxHeartbeats 4000000 in
set_option maxRecDepth 100000 in
theorem f_X3_readStep (l : Launch) (E : EE) (sz : Nat) (K : Nat) (z9 : Nat → Nat) {a_ a_tape a_rules a_places a_steps a_tape_bytes : Nat} {c_siteCount : Int32} {c_stepCount : Int32} {c_seenRules : Int32} {c_at : Int32} {c_wordStart : Int32} {c_number : Int32} {c_failed : Int32} {c_tape_length : Int32} {c_tape_bytes : Nat → Int32} {c_steps : Nat → Int32} {rr : Int32} {n_steps : Nat → Int32} {n_at : Int32} {n_wordStart : Int32} {n_number : Int32} {n_failed : Int32} (hF : F_X3_readStep K c_tape_bytes c_tape_length c_steps c_stepCount c_at c_wordStart c_number c_failed = some (rr, n_steps, n_at, n_wordStart, n_number, n_failed)) : Met l yX3_readStep v_f_X3_readStep (({ frames := 7, cells := 0, slots := 0, locals := 147 } : Room)) (va_Pc [.ref a_] (qWZ E z9 sz (w_X3_readStep E a_ a_tape a_rules a_places a_steps a_tape_bytes c_siteCount c_stepCount c_seenRules c_at c_wordStart c_number c_failed c_tape_length c_tape_bytes c_steps))) (va_Qi (fun (q : Int32) (_u : Unit) => q = rr ∧ (q = 0 ∨ q = 1)) (fun (_u : Unit) tt => va_P E.1 vwCl (w_X3_readStep E a_ a_tape a_rules a_places a_steps a_tape_bytes c_siteCount c_stepCount c_seenRules n_at n_wordStart n_number n_failed c_tape_length c_tape_bytes n_steps) tt.heap ∧ va_D (va_A (w_X3_readStep E a_ a_tape a_rules a_places a_steps a_tape_bytes c_siteCount c_stepCount c_seenRules c_at c_wordStart c_number c_failed c_tape_length c_tape_bytes c_steps) sz) (w_X3_readStep E a_ a_tape a_rules a_places a_steps a_tape_bytes c_siteCount c_stepCount c_seenRules n_at n_wordStart n_number n_failed c_tape_length c_tape_bytes n_steps)) (va_A (w_X3_readStep E a_ a_tape a_rules a_places a_steps a_tape_bytes c_siteCount c_stepCount c_seenRules c_at c_wordStart c_number c_failed c_tape_length c_tape_bytes c_steps) sz)) 0 0 (va_A (w_X3_readStep E a_ a_tape a_rules a_places a_steps a_tape_bytes c_siteCount c_stepCount c_seenRules c_at c_wordStart c_number c_failed c_tape_length c_tape_bytes c_steps) sz) := by
  refine Met.ofW (cc := cX3_readStep) (maxL := 3) (ret := (some .boolean)) (by decide) rfl ?_
  intro p e s m args below meth c s₁ B hml hv
  obtain ⟨rfl, hsz, ⟨hK, hN⟩, hP, hD0, hZ⟩ := hv
  have hx := B.exec
  have hb := B.bytes
  have hr := B.returns
  have hts := atoms_spec (ws := v_f_X3_readStep) B.pre
  have hown : s.vm.findClass RX3 = some m.cls := own_of hd_X3_readStep.1 (findClass_of_methodNamed B.named)
  have hlocks : meth.locks = false := B.notSynchronized
  subst hsz
  have hD := hD0.self (sz := s.heap.size)
  generalize hAe : va_A (w_X3_readStep E a_ a_tape a_rules a_places a_steps a_tape_bytes c_siteCount c_stepCount c_seenRules c_at c_wordStart c_number c_failed c_tape_length c_tape_bytes c_steps) s.heap.size = A at hD hZ ⊢
  have hA : ∀ q : Nat, s.heap.size ≤ q → A q := fun q h => by rw [← hAe]; exact Or.inr h
  have hS : va_S A s.heap s.heap [] := va_S.rf
  have hl := lv_entry ([.ref a_]) (n := 3) (Nat.le_of_ble_eq_true rfl)
  rw [lg_entry_eq]
  generalize (lg_sl ([.ref a_]) ++ List.replicate (3 - (lg_sl ([.ref a_])).length) Slot.unset).toArray = ls at hl ⊢
  have hl : lv_has ls 3 [(0, .ref a_)] := hl
  obtain ⟨Q, hQ⟩ : ∃ Q : State → Prop, Q = MQ below (va_Qi (fun (q : Int32) (_u : Unit) => q = rr ∧ (q = 0 ∨ q = 1)) (fun (_u : Unit) tt => va_P E.1 vwCl (w_X3_readStep E a_ a_tape a_rules a_places a_steps a_tape_bytes c_siteCount c_stepCount c_seenRules n_at n_wordStart n_number n_failed c_tape_length c_tape_bytes n_steps) tt.heap ∧ va_D A (w_X3_readStep E a_ a_tape a_rules a_places a_steps a_tape_bytes c_siteCount c_stepCount c_seenRules n_at n_wordStart n_number n_failed c_tape_length c_tape_bytes n_steps)) A) #[Value.ref a_] s 0 0 A := ⟨_, rfl⟩
  rw [← hQ]
  change W p l e ({ frames := 7, cells := 0, slots := 0, locals := 147 } : Room) s m #[Value.ref a_] below meth c s.heap [] 0 0 Q (F0 m 0 ls [])
  suffices hh9 : ∀ (H : Heap) (locs : List Loc), va_P E.1 vwCl (w_X3_readStep E a_ a_tape a_rules a_places a_steps a_tape_bytes c_siteCount c_stepCount c_seenRules c_at c_wordStart c_number c_failed c_tape_length c_tape_bytes c_steps) H → va_D A (w_X3_readStep E a_ a_tape a_rules a_places a_steps a_tape_bytes c_siteCount c_stepCount c_seenRules c_at c_wordStart c_number c_failed c_tape_length c_tape_bytes c_steps) → va_S A s.heap H locs → W p l e ({ frames := 7, cells := 0, slots := 0, locals := 147 } : Room) s m #[Value.ref a_] below meth c H locs 0 0 Q (F0 m 0 ls []) from hh9 s.heap [] hP hD hS
  clear hP hD hS
  intro H locs hP hD hS
  replace hP : va_P E.1 vwCl [(a_, .inr (4, [.ref a_tape, .ref a_rules, .ref a_places, .ref a_steps, .int c_siteCount, .int c_stepCount, .int c_seenRules, .int c_at, .int c_wordStart, .int c_number, .int c_failed])), (a_tape, .inr (7, [.ref a_tape_bytes, .int c_tape_length])), (a_tape_bytes, .inl (E.2.2.1, 320, .inl c_tape_bytes)), (a_steps, .inl (E.2.1, 48, .inl c_steps))] H := hP
  replace hD : va_D A [(a_, .inr (4, [.ref a_tape, .ref a_rules, .ref a_places, .ref a_steps, .int c_siteCount, .int c_stepCount, .int c_seenRules, .int c_at, .int c_wordStart, .int c_number, .int c_failed])), (a_tape, .inr (7, [.ref a_tape_bytes, .int c_tape_length])), (a_tape_bytes, .inl (E.2.2.1, 320, .inl c_tape_bytes)), (a_steps, .inl (E.2.1, 48, .inl c_steps))] := hD
  unfold F_X3_readStep at hF
  refine lv_aload_n hx hb dX3_readStep_0 rfl (lv_at hl 0 rfl) ?_
  replace hF := bd4_s hF
  obtain ⟨r_1, w_2, w_3, w_4, hc_5, hF⟩ := hF
  obtain ⟨hPc, hDc, hFc⟩ := wcut (wc := (w_X3_readWord E a_ a_tape a_rules a_places a_steps a_tape_bytes c_siteCount c_stepCount c_seenRules c_at c_wordStart c_number c_failed c_tape_length c_tape_bytes)) hP hD hS hA [0, 1, 2] (by decide) rfl
  have hrc := va_recv hK hPc (ci := 4) (q0 := 0) rfl rfl
  refine cE_z (wc := (w_X3_readWord E a_ a_tape a_rules a_places a_steps a_tape_bytes c_siteCount c_stepCount c_seenRules c_at c_wordStart c_number c_failed c_tape_length c_tape_bytes)) (wr := [(a_steps, .inl (E.2.1, 48, .inl c_steps))]) (w1 := (w_X3_readWord E a_ a_tape a_rules a_places a_steps a_tape_bytes c_siteCount c_stepCount c_seenRules w_2 w_3 c_number w_4 c_tape_length c_tape_bytes)) (va_runV (As := []) (rest := [])  ⟨hx, hb, hml, hown, hts⟩ (f_X3_readWord l E H.size K (a_ := a_) (a_tape := a_tape) (a_rules := a_rules) (a_places := a_places) (a_steps := a_steps) (a_tape_bytes := a_tape_bytes) (c_siteCount := c_siteCount) (c_stepCount := c_stepCount) (c_seenRules := c_seenRules) (c_at := c_at) (c_wordStart := c_wordStart) (c_number := c_number) (c_failed := c_failed) (c_tape_length := c_tape_length) (c_tape_bytes := c_tape_bytes) hc_5) (cwV 0 hts g_f_X3_readStep_f_X3_readWord_71 rfl rfl rfl hd_X3_readWord ⟨Nat.le_of_ble_eq_true rfl, Nat.le_of_ble_eq_true rfl⟩) ⟨pW.blind, hrc, (pW.pre ⟨hK, hN⟩ hPc hDc)⟩ rfl rfl hl.1 rfl (lv_room (Nat.le_of_ble_eq_true rfl)) dX3_readStep_1 ⟨Nat.le_of_ble_eq_true rfl, Nat.le_of_ble_eq_true rfl⟩) hS hFc hP hD [0, 1, 2] [3] rfl rfl (by decide) (by decide) (fun hb_6 H locs hP hD hS => ?_)
  replace hP : va_P E.1 vwCl [(a_steps, .inl (E.2.1, 48, .inl c_steps)), (a_, .inr (4, [.ref a_tape, .ref a_rules, .ref a_places, .ref a_steps, .int c_siteCount, .int c_stepCount, .int c_seenRules, .int w_2, .int w_3, .int c_number, .int w_4])), (a_tape, .inr (7, [.ref a_tape_bytes, .int c_tape_length])), (a_tape_bytes, .inl (E.2.2.1, 320, .inl c_tape_bytes))] H := hP
  replace hD : va_D A [(a_steps, .inl (E.2.1, 48, .inl c_steps)), (a_, .inr (4, [.ref a_tape, .ref a_rules, .ref a_places, .ref a_steps, .int c_siteCount, .int c_stepCount, .int c_seenRules, .int w_2, .int w_3, .int c_number, .int w_4])), (a_tape, .inr (7, [.ref a_tape_bytes, .int c_tape_length])), (a_tape_bytes, .inl (E.2.2.1, 320, .inl c_tape_bytes))] := hD
  refine lv_if_ne (tgt := 9) hx hb dX3_readStep_4 (by decide) (fun c_7 => ?_) (fun c_7 => ?_)
  ·
    replace hF := inn c_7 hF
    refine lv_aload_n hx hb dX3_readStep_9 rfl (lv_at hl 0 rfl) ?_
    replace hF := bd1_s hF
    obtain ⟨r_8, hc_9, hF⟩ := hF
    have hPc : va_P E.1 vwCl (w_X3_stepOfWord E a_ a_tape a_rules a_places a_steps a_tape_bytes c_siteCount c_stepCount c_seenRules w_2 w_3 c_number w_4 c_tape_length c_tape_bytes) H := hP.sub (ws' := [(a_, .inr (4, [.ref a_tape, .ref a_rules, .ref a_places, .ref a_steps, .int c_siteCount, .int c_stepCount, .int c_seenRules, .int w_2, .int w_3, .int c_number, .int w_4])), (a_tape, .inr (7, [.ref a_tape_bytes, .int c_tape_length])), (a_tape_bytes, .inl (E.2.2.1, 320, .inl c_tape_bytes))]) [1, 2, 3] rfl
    have hrc := va_recv hK hPc (ci := 4) (q0 := 0) rfl rfl
    refine pE_i (va_runV (As := []) (rest := [])  ⟨hx, hb, hml, hown, hts⟩ (f_X3_stepOfWord l E K z9 (a_ := a_) (a_tape := a_tape) (a_rules := a_rules) (a_places := a_places) (a_steps := a_steps) (a_tape_bytes := a_tape_bytes) (c_siteCount := c_siteCount) (c_stepCount := c_stepCount) (c_seenRules := c_seenRules) (c_at := w_2) (c_wordStart := w_3) (c_number := c_number) (c_failed := w_4) (c_tape_length := c_tape_length) (c_tape_bytes := c_tape_bytes) hc_9) (cwV 0 hts g_f_X3_readStep_f_X3_stepOfWord_106 rfl rfl rfl hd_X3_stepOfWord ⟨Nat.le_of_ble_eq_true rfl, Nat.le_of_ble_eq_true rfl⟩) ⟨qPZ.blind, hrc, (qPZ.pre ⟨hK, hN⟩ hPc hZ hS)⟩ rfl rfl hl.1 rfl (lv_room (Nat.le_of_ble_eq_true rfl)) dX3_readStep_10 ⟨Nat.le_of_ble_eq_true rfl, Nat.le_of_ble_eq_true rfl⟩) ?_
    refine lv_istore_n (lv' := [(1, .int r_8), (0, .ref a_)]) hx hb dX3_readStep_13 rfl hl (by decide) rfl (fun ls hl => ?_)
    refine lv_iload_n hx hb dX3_readStep_14 rfl (lv_at hl 0 rfl) ?_
    refine lv_if_lt (tgt := 26) hx hb dX3_readStep_15 (by decide) (fun c_10 => ?_) (fun c_10 => ?_)
    ·
      replace hF := ip c_10 hF
      refine lv_aload_n hx hb dX3_readStep_26 rfl (lv_at hl 1 rfl) ?_
      refine lv_aload_n hx hb dX3_readStep_27 rfl (lv_at hl 1 rfl) ?_
      refine gt_X3_8 (v := .int w_3) hx hb hts i_f_X3_readStep_X3 hown hK hP 1 rfl (hts (.fieldLink RX3 34 "HushWatch$Reader" "wordStart" "I") (List.mem_of_getElem? (i := 1) rfl)) rfl dX3_readStep_28 ?_
      replace hF := bd2_s hF
      obtain ⟨r_11, w_12, hc_13, hF⟩ := hF
      obtain ⟨hPc, hDc, hFc⟩ := wcut (wc := (w_X3_failAt E a_ a_tape a_rules a_places a_steps c_siteCount c_stepCount c_seenRules w_2 w_3 c_number w_4)) hP hD hS hA [1] (by decide) rfl
      have hrc := va_recv hK hPc (ci := 4) (q0 := 0) rfl rfl
      refine cE_z (wc := (w_X3_failAt E a_ a_tape a_rules a_places a_steps c_siteCount c_stepCount c_seenRules w_2 w_3 c_number w_4)) (wr := [(a_steps, .inl (E.2.1, 48, .inl c_steps)), (a_tape, .inr (7, [.ref a_tape_bytes, .int c_tape_length])), (a_tape_bytes, .inl (E.2.2.1, 320, .inl c_tape_bytes))]) (w1 := (w_X3_failAt E a_ a_tape a_rules a_places a_steps c_siteCount c_stepCount c_seenRules w_2 w_3 c_number w_12)) (va_runV (As := [.int w_3]) (rest := [])  ⟨hx, hb, hml, hown, hts⟩ (f_X3_failAt l E H.size (a_ := a_) (a_tape := a_tape) (a_rules := a_rules) (a_places := a_places) (a_steps := a_steps) (p1 := w_3) (c_siteCount := c_siteCount) (c_stepCount := c_stepCount) (c_seenRules := c_seenRules) (c_at := w_2) (c_wordStart := w_3) (c_number := c_number) (c_failed := w_4) hc_13) (cwV 1 hts g_f_X3_readStep_f_X3_failAt_87 rfl rfl rfl hd_X3_failAt ⟨Nat.le_of_ble_eq_true rfl, Nat.le_of_ble_eq_true rfl⟩) ⟨pW.blind, hrc, (pW.pre ⟨hK, hN⟩ hPc hDc)⟩ rfl rfl hl.1 rfl (lv_room (Nat.le_of_ble_eq_true rfl)) dX3_readStep_31 ⟨Nat.le_of_ble_eq_true rfl, Nat.le_of_ble_eq_true rfl⟩) hS hFc hP hD [1] [0, 2, 3] rfl rfl (by decide) (by decide) (fun hb_14 H locs hP hD hS => ?_)
      replace hP : va_P E.1 vwCl [(a_steps, .inl (E.2.1, 48, .inl c_steps)), (a_tape, .inr (7, [.ref a_tape_bytes, .int c_tape_length])), (a_tape_bytes, .inl (E.2.2.1, 320, .inl c_tape_bytes)), (a_, .inr (4, [.ref a_tape, .ref a_rules, .ref a_places, .ref a_steps, .int c_siteCount, .int c_stepCount, .int c_seenRules, .int w_2, .int w_3, .int c_number, .int w_12]))] H := hP
      replace hD : va_D A [(a_steps, .inl (E.2.1, 48, .inl c_steps)), (a_tape, .inr (7, [.ref a_tape_bytes, .int c_tape_length])), (a_tape_bytes, .inl (E.2.2.1, 320, .inl c_tape_bytes)), (a_, .inr (4, [.ref a_tape, .ref a_rules, .ref a_places, .ref a_steps, .int c_siteCount, .int c_stepCount, .int c_seenRules, .int w_2, .int w_3, .int c_number, .int w_12]))] := hD
      rw [hQ]
      have h9 := fin9 (P := fun u9 : Int32 × (Nat → Int32) × Int32 × Int32 × Int32 × Int32 => r_11 = u9.1 ∧ va_P E.1 vwCl (w_X3_readStep E a_ a_tape a_rules a_places a_steps a_tape_bytes c_siteCount c_stepCount c_seenRules u9.2.2.1 u9.2.2.2.1 u9.2.2.2.2.1 u9.2.2.2.2.2 c_tape_length c_tape_bytes u9.2.1) H ∧ va_D A (w_X3_readStep E a_ a_tape a_rules a_places a_steps a_tape_bytes c_siteCount c_stepCount c_seenRules u9.2.2.1 u9.2.2.2.1 u9.2.2.2.2.1 u9.2.2.2.2.2 c_tape_length c_tape_bytes u9.2.1)) hF ⟨rfl, hP.sub [3, 1, 2, 0] rfl, hD.sub [3, 1, 2, 0] (by decide) rfl⟩
      obtain ⟨e9_0, hP9, hD9⟩ := h9
      exact W.zret (v := r_11) hx hb hr (nar_bool hb_14) (fun tt ht hW => ⟨⟨_, (), rfl, ⟨e9_0, hb_14⟩, ht ▸ hP9, hD9⟩, hS.F ht⟩) hS.2.2 dX3_readStep_34
    ·
      replace hF := inn c_10 hF
      refine lv_iload_n hx hb dX3_readStep_18 rfl (lv_at hl 0 rfl) ?_
      refine va_getsN hx hb hZ.2.1.1 hS hown (nx hN 25 rfl) (fun _ h9 => h9) dX3_readStep_19 ?_
      refine va_tlen (v := 7) hx hb (hZ.2.1.2.1) hS (by decide) dX3_readStep_22 ?_
      refine lv_icmp_lt (tgt := 35) hx hb dX3_readStep_23 (by decide) (fun c_15 => ?_) (fun c_15 => ?_)
      ·
        replace hF := ip c_15 hF
        refine lv_aload_n hx hb dX3_readStep_35 rfl (lv_at hl 1 rfl) ?_
        refine lv_iload_n hx hb dX3_readStep_36 rfl (lv_at hl 0 rfl) ?_
        replace hF := bd1_s hF
        obtain ⟨w_16, hc_17, hF⟩ := hF
        obtain ⟨hPc, hDc, hFc⟩ := wcut (wc := (w_X3_startStep E a_ a_tape a_rules a_places a_steps c_siteCount c_stepCount c_seenRules w_2 w_3 c_number w_4 c_steps)) hP hD hS hA [1, 0] (by decide) rfl
        have hrc := va_recv hK hPc (ci := 4) (q0 := 0) rfl rfl
        refine cE_v (wc := (w_X3_startStep E a_ a_tape a_rules a_places a_steps c_siteCount c_stepCount c_seenRules w_2 w_3 c_number w_4 c_steps)) (wr := [(a_tape, .inr (7, [.ref a_tape_bytes, .int c_tape_length])), (a_tape_bytes, .inl (E.2.2.1, 320, .inl c_tape_bytes))]) (w1 := (w_X3_startStep E a_ a_tape a_rules a_places a_steps c_siteCount c_stepCount c_seenRules w_2 w_3 c_number w_4 w_16)) (va_runV (As := [.int r_8]) (rest := [])  ⟨hx, hb, hml, hown, hts⟩ (f_X3_startStep l E H.size K (a_ := a_) (a_tape := a_tape) (a_rules := a_rules) (a_places := a_places) (a_steps := a_steps) (p1 := r_8) (c_siteCount := c_siteCount) (c_stepCount := c_stepCount) (c_seenRules := c_seenRules) (c_at := w_2) (c_wordStart := w_3) (c_number := c_number) (c_failed := w_4) (c_steps := c_steps) hc_17) (cwV 1 hts g_f_X3_readStep_f_X3_startStep_112 rfl rfl rfl hd_X3_startStep ⟨Nat.le_of_ble_eq_true rfl, Nat.le_of_ble_eq_true rfl⟩) ⟨pW.blind, hrc, (pW.pre ⟨hK, hN⟩ hPc hDc)⟩ rfl rfl hl.1 rfl (lv_room (Nat.le_of_ble_eq_true rfl)) dX3_readStep_37 ⟨Nat.le_of_ble_eq_true rfl, Nat.le_of_ble_eq_true rfl⟩) hS hFc hP hD [1, 0] [2, 3] rfl rfl (by decide) (by decide) (fun H locs hP hD hS => ?_)
        replace hP : va_P E.1 vwCl [(a_tape, .inr (7, [.ref a_tape_bytes, .int c_tape_length])), (a_tape_bytes, .inl (E.2.2.1, 320, .inl c_tape_bytes)), (a_, .inr (4, [.ref a_tape, .ref a_rules, .ref a_places, .ref a_steps, .int c_siteCount, .int c_stepCount, .int c_seenRules, .int w_2, .int w_3, .int c_number, .int w_4])), (a_steps, .inl (E.2.1, 48, .inl w_16))] H := hP
        replace hD : va_D A [(a_tape, .inr (7, [.ref a_tape_bytes, .int c_tape_length])), (a_tape_bytes, .inl (E.2.2.1, 320, .inl c_tape_bytes)), (a_, .inr (4, [.ref a_tape, .ref a_rules, .ref a_places, .ref a_steps, .int c_siteCount, .int c_stepCount, .int c_seenRules, .int w_2, .int w_3, .int c_number, .int w_4])), (a_steps, .inl (E.2.1, 48, .inl w_16))] := hD
        refine lv_iconst (v := 1) hx hb dX3_readStep_40 (by decide) ?_
        refine lv_istore_n (lv' := [(2, .int (1 : Int32)), (1, .int r_8), (0, .ref a_)]) hx hb dX3_readStep_41 rfl hl (by decide) rfl (fun ls hl => ?_)
        replace hF := bd6_s hF
        obtain ⟨t_47, c_steps_48, c_at_49, c_wordStart_50, c_number_51, c_failed_52, hL_53, hF⟩ := hF
        refine lw_X3_readStep_42 l E K (c_siteCount := c_siteCount) (c_stepCount := c_stepCount) (c_seenRules := c_seenRules) (c_tape_length := c_tape_length) (c_tape_bytes := c_tape_bytes) (x1 := r_8) hx hb hml hown hts hK hN hA hZ K (1 : Int32) w_16 w_2 w_3 c_number w_4 t_47 c_steps_48 c_at_49 c_wordStart_50 c_number_51 c_failed_52 hL_53 ⟨?_, ?_, ?_⟩ H locs ls (hP.sub [2, 0, 1, 3] rfl) (hD.sub [2, 0, 1, 3] (by decide) rfl) hS (lv_sub hl [2, 1, 0] rfl)
        ·
          intro t9
          replace hF := ip t9 hF
          intro H locs ls hP hD hS hl
          replace hP : va_P E.1 vwCl [(a_, .inr (4, [.ref a_tape, .ref a_rules, .ref a_places, .ref a_steps, .int c_siteCount, .int c_stepCount, .int c_seenRules, .int c_at_49, .int c_wordStart_50, .int c_number_51, .int c_failed_52])), (a_tape, .inr (7, [.ref a_tape_bytes, .int c_tape_length])), (a_tape_bytes, .inl (E.2.2.1, 320, .inl c_tape_bytes)), (a_steps, .inl (E.2.1, 48, .inl c_steps_48))] H := hP
          replace hD : va_D A [(a_, .inr (4, [.ref a_tape, .ref a_rules, .ref a_places, .ref a_steps, .int c_siteCount, .int c_stepCount, .int c_seenRules, .int c_at_49, .int c_wordStart_50, .int c_number_51, .int c_failed_52])), (a_tape, .inr (7, [.ref a_tape_bytes, .int c_tape_length])), (a_tape_bytes, .inl (E.2.2.1, 320, .inl c_tape_bytes)), (a_steps, .inl (E.2.1, 48, .inl c_steps_48))] := hD
          refine lv_iconst (v := 0) hx hb dX3_readStep_65 (by decide) ?_
          rw [hQ]
          have h9 := fin9 (P := fun u9 : Int32 × (Nat → Int32) × Int32 × Int32 × Int32 × Int32 => (0 : Int32) = u9.1 ∧ va_P E.1 vwCl (w_X3_readStep E a_ a_tape a_rules a_places a_steps a_tape_bytes c_siteCount c_stepCount c_seenRules u9.2.2.1 u9.2.2.2.1 u9.2.2.2.2.1 u9.2.2.2.2.2 c_tape_length c_tape_bytes u9.2.1) H ∧ va_D A (w_X3_readStep E a_ a_tape a_rules a_places a_steps a_tape_bytes c_siteCount c_stepCount c_seenRules u9.2.2.1 u9.2.2.2.1 u9.2.2.2.2.1 u9.2.2.2.2.2 c_tape_length c_tape_bytes u9.2.1)) hF ⟨rfl, hP, hD⟩
          obtain ⟨e9_0, hP9, hD9⟩ := h9
          exact W.zret (v := (0 : Int32)) hx hb hr rfl (fun tt ht hW => ⟨⟨_, (), rfl, ⟨e9_0, Or.inl rfl⟩, ht ▸ hP9, hD9⟩, hS.F ht⟩) hS.2.2 dX3_readStep_66
        ·
          intro t9
          replace hF := inn (show ¬ t_47 = 0 by omega) hF
          replace hF := ip t9 hF
          intro H locs ls hP hD hS hl
          replace hP : va_P E.1 vwCl [(a_, .inr (4, [.ref a_tape, .ref a_rules, .ref a_places, .ref a_steps, .int c_siteCount, .int c_stepCount, .int c_seenRules, .int c_at_49, .int c_wordStart_50, .int c_number_51, .int c_failed_52])), (a_tape, .inr (7, [.ref a_tape_bytes, .int c_tape_length])), (a_tape_bytes, .inl (E.2.2.1, 320, .inl c_tape_bytes)), (a_steps, .inl (E.2.1, 48, .inl c_steps_48))] H := hP
          replace hD : va_D A [(a_, .inr (4, [.ref a_tape, .ref a_rules, .ref a_places, .ref a_steps, .int c_siteCount, .int c_stepCount, .int c_seenRules, .int c_at_49, .int c_wordStart_50, .int c_number_51, .int c_failed_52])), (a_tape, .inr (7, [.ref a_tape_bytes, .int c_tape_length])), (a_tape_bytes, .inl (E.2.2.1, 320, .inl c_tape_bytes)), (a_steps, .inl (E.2.1, 48, .inl c_steps_48))] := hD
          refine lv_iconst (v := 0) hx hb dX3_readStep_93 (by decide) ?_
          rw [hQ]
          have h9 := fin9 (P := fun u9 : Int32 × (Nat → Int32) × Int32 × Int32 × Int32 × Int32 => (0 : Int32) = u9.1 ∧ va_P E.1 vwCl (w_X3_readStep E a_ a_tape a_rules a_places a_steps a_tape_bytes c_siteCount c_stepCount c_seenRules u9.2.2.1 u9.2.2.2.1 u9.2.2.2.2.1 u9.2.2.2.2.2 c_tape_length c_tape_bytes u9.2.1) H ∧ va_D A (w_X3_readStep E a_ a_tape a_rules a_places a_steps a_tape_bytes c_siteCount c_stepCount c_seenRules u9.2.2.1 u9.2.2.2.1 u9.2.2.2.2.1 u9.2.2.2.2.2 c_tape_length c_tape_bytes u9.2.1)) hF ⟨rfl, hP, hD⟩
          obtain ⟨e9_0, hP9, hD9⟩ := h9
          exact W.zret (v := (0 : Int32)) hx hb hr rfl (fun tt ht hW => ⟨⟨_, (), rfl, ⟨e9_0, Or.inl rfl⟩, ht ▸ hP9, hD9⟩, hS.F ht⟩) hS.2.2 dX3_readStep_94
        ·
          intro t9
          replace hF := inn (show ¬ t_47 = 0 by omega) hF
          replace hF := inn (show ¬ t_47 = 1 by omega) hF
          replace hF := ip t9 hF
          intro H locs ls hP hD hS hl
          replace hP : va_P E.1 vwCl [(a_, .inr (4, [.ref a_tape, .ref a_rules, .ref a_places, .ref a_steps, .int c_siteCount, .int c_stepCount, .int c_seenRules, .int c_at_49, .int c_wordStart_50, .int c_number_51, .int c_failed_52])), (a_tape, .inr (7, [.ref a_tape_bytes, .int c_tape_length])), (a_tape_bytes, .inl (E.2.2.1, 320, .inl c_tape_bytes)), (a_steps, .inl (E.2.1, 48, .inl c_steps_48))] H := hP
          replace hD : va_D A [(a_, .inr (4, [.ref a_tape, .ref a_rules, .ref a_places, .ref a_steps, .int c_siteCount, .int c_stepCount, .int c_seenRules, .int c_at_49, .int c_wordStart_50, .int c_number_51, .int c_failed_52])), (a_tape, .inr (7, [.ref a_tape_bytes, .int c_tape_length])), (a_tape_bytes, .inl (E.2.2.1, 320, .inl c_tape_bytes)), (a_steps, .inl (E.2.1, 48, .inl c_steps_48))] := hD
          refine lv_iconst (v := 1) hx hb dX3_readStep_110 (by decide) ?_
          rw [hQ]
          have h9 := fin9 (P := fun u9 : Int32 × (Nat → Int32) × Int32 × Int32 × Int32 × Int32 => (1 : Int32) = u9.1 ∧ va_P E.1 vwCl (w_X3_readStep E a_ a_tape a_rules a_places a_steps a_tape_bytes c_siteCount c_stepCount c_seenRules u9.2.2.1 u9.2.2.2.1 u9.2.2.2.2.1 u9.2.2.2.2.2 c_tape_length c_tape_bytes u9.2.1) H ∧ va_D A (w_X3_readStep E a_ a_tape a_rules a_places a_steps a_tape_bytes c_siteCount c_stepCount c_seenRules u9.2.2.1 u9.2.2.2.1 u9.2.2.2.2.1 u9.2.2.2.2.2 c_tape_length c_tape_bytes u9.2.1)) hF ⟨rfl, hP, hD⟩
          obtain ⟨e9_0, hP9, hD9⟩ := h9
          exact W.zret (v := (1 : Int32)) hx hb hr rfl (fun tt ht hW => ⟨⟨_, (), rfl, ⟨e9_0, Or.inr rfl⟩, ht ▸ hP9, hD9⟩, hS.F ht⟩) hS.2.2 dX3_readStep_111
      ·
        replace hF := inn c_15 hF
        refine lv_aload_n hx hb dX3_readStep_26 rfl (lv_at hl 1 rfl) ?_
        refine lv_aload_n hx hb dX3_readStep_27 rfl (lv_at hl 1 rfl) ?_
        refine gt_X3_8 (v := .int w_3) hx hb hts i_f_X3_readStep_X3 hown hK hP 1 rfl (hts (.fieldLink RX3 34 "HushWatch$Reader" "wordStart" "I") (List.mem_of_getElem? (i := 1) rfl)) rfl dX3_readStep_28 ?_
        replace hF := bd2_s hF
        obtain ⟨r_54, w_55, hc_56, hF⟩ := hF
        obtain ⟨hPc, hDc, hFc⟩ := wcut (wc := (w_X3_failAt E a_ a_tape a_rules a_places a_steps c_siteCount c_stepCount c_seenRules w_2 w_3 c_number w_4)) hP hD hS hA [1] (by decide) rfl
        have hrc := va_recv hK hPc (ci := 4) (q0 := 0) rfl rfl
        refine cE_z (wc := (w_X3_failAt E a_ a_tape a_rules a_places a_steps c_siteCount c_stepCount c_seenRules w_2 w_3 c_number w_4)) (wr := [(a_steps, .inl (E.2.1, 48, .inl c_steps)), (a_tape, .inr (7, [.ref a_tape_bytes, .int c_tape_length])), (a_tape_bytes, .inl (E.2.2.1, 320, .inl c_tape_bytes))]) (w1 := (w_X3_failAt E a_ a_tape a_rules a_places a_steps c_siteCount c_stepCount c_seenRules w_2 w_3 c_number w_55)) (va_runV (As := [.int w_3]) (rest := [])  ⟨hx, hb, hml, hown, hts⟩ (f_X3_failAt l E H.size (a_ := a_) (a_tape := a_tape) (a_rules := a_rules) (a_places := a_places) (a_steps := a_steps) (p1 := w_3) (c_siteCount := c_siteCount) (c_stepCount := c_stepCount) (c_seenRules := c_seenRules) (c_at := w_2) (c_wordStart := w_3) (c_number := c_number) (c_failed := w_4) hc_56) (cwV 1 hts g_f_X3_readStep_f_X3_failAt_87 rfl rfl rfl hd_X3_failAt ⟨Nat.le_of_ble_eq_true rfl, Nat.le_of_ble_eq_true rfl⟩) ⟨pW.blind, hrc, (pW.pre ⟨hK, hN⟩ hPc hDc)⟩ rfl rfl hl.1 rfl (lv_room (Nat.le_of_ble_eq_true rfl)) dX3_readStep_31 ⟨Nat.le_of_ble_eq_true rfl, Nat.le_of_ble_eq_true rfl⟩) hS hFc hP hD [1] [0, 2, 3] rfl rfl (by decide) (by decide) (fun hb_57 H locs hP hD hS => ?_)
        replace hP : va_P E.1 vwCl [(a_steps, .inl (E.2.1, 48, .inl c_steps)), (a_tape, .inr (7, [.ref a_tape_bytes, .int c_tape_length])), (a_tape_bytes, .inl (E.2.2.1, 320, .inl c_tape_bytes)), (a_, .inr (4, [.ref a_tape, .ref a_rules, .ref a_places, .ref a_steps, .int c_siteCount, .int c_stepCount, .int c_seenRules, .int w_2, .int w_3, .int c_number, .int w_55]))] H := hP
        replace hD : va_D A [(a_steps, .inl (E.2.1, 48, .inl c_steps)), (a_tape, .inr (7, [.ref a_tape_bytes, .int c_tape_length])), (a_tape_bytes, .inl (E.2.2.1, 320, .inl c_tape_bytes)), (a_, .inr (4, [.ref a_tape, .ref a_rules, .ref a_places, .ref a_steps, .int c_siteCount, .int c_stepCount, .int c_seenRules, .int w_2, .int w_3, .int c_number, .int w_55]))] := hD
        rw [hQ]
        have h9 := fin9 (P := fun u9 : Int32 × (Nat → Int32) × Int32 × Int32 × Int32 × Int32 => r_54 = u9.1 ∧ va_P E.1 vwCl (w_X3_readStep E a_ a_tape a_rules a_places a_steps a_tape_bytes c_siteCount c_stepCount c_seenRules u9.2.2.1 u9.2.2.2.1 u9.2.2.2.2.1 u9.2.2.2.2.2 c_tape_length c_tape_bytes u9.2.1) H ∧ va_D A (w_X3_readStep E a_ a_tape a_rules a_places a_steps a_tape_bytes c_siteCount c_stepCount c_seenRules u9.2.2.1 u9.2.2.2.1 u9.2.2.2.2.1 u9.2.2.2.2.2 c_tape_length c_tape_bytes u9.2.1)) hF ⟨rfl, hP.sub [3, 1, 2, 0] rfl, hD.sub [3, 1, 2, 0] (by decide) rfl⟩
        obtain ⟨e9_0, hP9, hD9⟩ := h9
        exact W.zret (v := r_54) hx hb hr (nar_bool hb_57) (fun tt ht hW => ⟨⟨_, (), rfl, ⟨e9_0, hb_57⟩, ht ▸ hP9, hD9⟩, hS.F ht⟩) hS.2.2 dX3_readStep_34
  ·
    replace hF := ip c_7 hF
    refine lv_iconst (v := 0) hx hb dX3_readStep_7 (by decide) ?_
    rw [hQ]
    have h9 := fin9 (P := fun u9 : Int32 × (Nat → Int32) × Int32 × Int32 × Int32 × Int32 => (0 : Int32) = u9.1 ∧ va_P E.1 vwCl (w_X3_readStep E a_ a_tape a_rules a_places a_steps a_tape_bytes c_siteCount c_stepCount c_seenRules u9.2.2.1 u9.2.2.2.1 u9.2.2.2.2.1 u9.2.2.2.2.2 c_tape_length c_tape_bytes u9.2.1) H ∧ va_D A (w_X3_readStep E a_ a_tape a_rules a_places a_steps a_tape_bytes c_siteCount c_stepCount c_seenRules u9.2.2.1 u9.2.2.2.1 u9.2.2.2.2.1 u9.2.2.2.2.2 c_tape_length c_tape_bytes u9.2.1)) hF ⟨rfl, hP.sub [1, 2, 3, 0] rfl, hD.sub [1, 2, 3, 0] (by decide) rfl⟩
    obtain ⟨e9_0, hP9, hD9⟩ := h9
    exact W.zret (v := (0 : Int32)) hx hb hr rfl (fun tt ht hW => ⟨⟨_, (), rfl, ⟨e9_0, Or.inl rfl⟩, ht ▸ hP9, hD9⟩, hS.F ht⟩) hS.2.2 dX3_readStep_8
end
