def dl_X8_isWatch_30_md08_0 : List (Nat × Instr × Nat) := [(0, .aload_n 0, 1), (1, .getfield 196, 3), (4, .ifCond .le 7, 3), (11, .iconst 0, 1), (12, .ireturn, 1), (7, .iconst 1, 1), (8, .goto 4, 3)]
set_option maxRecDepth 100000 in
theorem dall_X8_isWatch_30_md08_0 : dchk cX8_isWatch dl_X8_isWatch_30_md08_0 = true := by decide +kernel
theorem dX8_isWatch_0 : decode cX8_isWatch 0 = .ok (.aload_n 0, 1) := dchk_at dall_X8_isWatch_30_md08_0 (k := 0) rfl
theorem dX8_isWatch_1 : decode cX8_isWatch 1 = .ok (.getfield 196, 3) := dchk_at dall_X8_isWatch_30_md08_0 (k := 1) rfl
theorem dX8_isWatch_4 : decode cX8_isWatch 4 = .ok (.ifCond .le 7, 3) := dchk_at dall_X8_isWatch_30_md08_0 (k := 2) rfl
theorem dX8_isWatch_11 : decode cX8_isWatch 11 = .ok (.iconst 0, 1) := dchk_at dall_X8_isWatch_30_md08_0 (k := 3) rfl
theorem dX8_isWatch_12 : decode cX8_isWatch 12 = .ok (.ireturn, 1) := dchk_at dall_X8_isWatch_30_md08_0 (k := 4) rfl
theorem dX8_isWatch_7 : decode cX8_isWatch 7 = .ok (.iconst 1, 1) := dchk_at dall_X8_isWatch_30_md08_0 (k := 5) rfl
theorem dX8_isWatch_8 : decode cX8_isWatch 8 = .ok (.goto 4, 3) := dchk_at dall_X8_isWatch_30_md08_0 (k := 6) rfl
def dl_X8_whySet_30_md08_0 : List (Nat × Instr × Nat) := [(0, .aload_n 0, 1), (1, .invokevirtual 299, 3), (4, .ifCond .ne 7, 3), (11, .iload_n 1, 1), (12, .i2l, 1), (13, .iload_n 2, 1), (14, .i2l, 1), (15, .iload_n 3, 1), (16, .i2l, 1), (17, .invokestatic 60, 3), (20, .ifCond .ne 7, 3), (27, .iload_n 1, 1), (28, .iload 4, 2), (30, .if_icmp .ne 7, 3), (37, .iconst (-1), 1), (38, .ireturn, 1), (33, .iconst 2, 1), (34, .goto 4, 3), (23, .iconst 1, 1), (24, .goto 14, 3), (7, .iconst 0, 1), (8, .goto 30, 3)]
set_option maxRecDepth 100000 in
theorem dall_X8_whySet_30_md08_0 : dchk cX8_whySet dl_X8_whySet_30_md08_0 = true := by decide +kernel
theorem dX8_whySet_0 : decode cX8_whySet 0 = .ok (.aload_n 0, 1) := dchk_at dall_X8_whySet_30_md08_0 (k := 0) rfl
theorem dX8_whySet_1 : decode cX8_whySet 1 = .ok (.invokevirtual 299, 3) := dchk_at dall_X8_whySet_30_md08_0 (k := 1) rfl
theorem dX8_whySet_4 : decode cX8_whySet 4 = .ok (.ifCond .ne 7, 3) := dchk_at dall_X8_whySet_30_md08_0 (k := 2) rfl
theorem dX8_whySet_11 : decode cX8_whySet 11 = .ok (.iload_n 1, 1) := dchk_at dall_X8_whySet_30_md08_0 (k := 3) rfl
theorem dX8_whySet_12 : decode cX8_whySet 12 = .ok (.i2l, 1) := dchk_at dall_X8_whySet_30_md08_0 (k := 4) rfl
theorem dX8_whySet_13 : decode cX8_whySet 13 = .ok (.iload_n 2, 1) := dchk_at dall_X8_whySet_30_md08_0 (k := 5) rfl
theorem dX8_whySet_14 : decode cX8_whySet 14 = .ok (.i2l, 1) := dchk_at dall_X8_whySet_30_md08_0 (k := 6) rfl
theorem dX8_whySet_15 : decode cX8_whySet 15 = .ok (.iload_n 3, 1) := dchk_at dall_X8_whySet_30_md08_0 (k := 7) rfl
theorem dX8_whySet_16 : decode cX8_whySet 16 = .ok (.i2l, 1) := dchk_at dall_X8_whySet_30_md08_0 (k := 8) rfl
theorem dX8_whySet_17 : decode cX8_whySet 17 = .ok (.invokestatic 60, 3) := dchk_at dall_X8_whySet_30_md08_0 (k := 9) rfl
theorem dX8_whySet_20 : decode cX8_whySet 20 = .ok (.ifCond .ne 7, 3) := dchk_at dall_X8_whySet_30_md08_0 (k := 10) rfl
theorem dX8_whySet_27 : decode cX8_whySet 27 = .ok (.iload_n 1, 1) := dchk_at dall_X8_whySet_30_md08_0 (k := 11) rfl
theorem dX8_whySet_28 : decode cX8_whySet 28 = .ok (.iload 4, 2) := dchk_at dall_X8_whySet_30_md08_0 (k := 12) rfl
theorem dX8_whySet_30 : decode cX8_whySet 30 = .ok (.if_icmp .ne 7, 3) := dchk_at dall_X8_whySet_30_md08_0 (k := 13) rfl
theorem dX8_whySet_37 : decode cX8_whySet 37 = .ok (.iconst (-1), 1) := dchk_at dall_X8_whySet_30_md08_0 (k := 14) rfl
theorem dX8_whySet_38 : decode cX8_whySet 38 = .ok (.ireturn, 1) := dchk_at dall_X8_whySet_30_md08_0 (k := 15) rfl
theorem dX8_whySet_33 : decode cX8_whySet 33 = .ok (.iconst 2, 1) := dchk_at dall_X8_whySet_30_md08_0 (k := 16) rfl
theorem dX8_whySet_34 : decode cX8_whySet 34 = .ok (.goto 4, 3) := dchk_at dall_X8_whySet_30_md08_0 (k := 17) rfl
theorem dX8_whySet_23 : decode cX8_whySet 23 = .ok (.iconst 1, 1) := dchk_at dall_X8_whySet_30_md08_0 (k := 18) rfl
theorem dX8_whySet_24 : decode cX8_whySet 24 = .ok (.goto 14, 3) := dchk_at dall_X8_whySet_30_md08_0 (k := 19) rfl
theorem dX8_whySet_7 : decode cX8_whySet 7 = .ok (.iconst 0, 1) := dchk_at dall_X8_whySet_30_md08_0 (k := 20) rfl
theorem dX8_whySet_8 : decode cX8_whySet 8 = .ok (.goto 30, 3) := dchk_at dall_X8_whySet_30_md08_0 (k := 21) rfl
def dl_X8_isReached_30_md08_0 : List (Nat × Instr × Nat) := [(0, .aload_n 0, 1), (1, .getfield 22, 3), (4, .bipush 73, 2), (6, .iaload, 1), (7, .aload_n 0, 1), (8, .getfield 22, 3), (11, .bipush 66, 2), (13, .iaload, 1), (14, .if_icmp .lt 7, 3), (21, .iconst 0, 1), (22, .ireturn, 1), (17, .iconst 1, 1), (18, .goto 4, 3)]
set_option maxRecDepth 100000 in
theorem dall_X8_isReached_30_md08_0 : dchk cX8_isReached dl_X8_isReached_30_md08_0 = true := by decide +kernel
theorem dX8_isReached_0 : decode cX8_isReached 0 = .ok (.aload_n 0, 1) := dchk_at dall_X8_isReached_30_md08_0 (k := 0) rfl
theorem dX8_isReached_1 : decode cX8_isReached 1 = .ok (.getfield 22, 3) := dchk_at dall_X8_isReached_30_md08_0 (k := 1) rfl
theorem dX8_isReached_4 : decode cX8_isReached 4 = .ok (.bipush 73, 2) := dchk_at dall_X8_isReached_30_md08_0 (k := 2) rfl
theorem dX8_isReached_6 : decode cX8_isReached 6 = .ok (.iaload, 1) := dchk_at dall_X8_isReached_30_md08_0 (k := 3) rfl
theorem dX8_isReached_7 : decode cX8_isReached 7 = .ok (.aload_n 0, 1) := dchk_at dall_X8_isReached_30_md08_0 (k := 4) rfl
theorem dX8_isReached_8 : decode cX8_isReached 8 = .ok (.getfield 22, 3) := dchk_at dall_X8_isReached_30_md08_0 (k := 5) rfl
theorem dX8_isReached_11 : decode cX8_isReached 11 = .ok (.bipush 66, 2) := dchk_at dall_X8_isReached_30_md08_0 (k := 6) rfl
theorem dX8_isReached_13 : decode cX8_isReached 13 = .ok (.iaload, 1) := dchk_at dall_X8_isReached_30_md08_0 (k := 7) rfl
theorem dX8_isReached_14 : decode cX8_isReached 14 = .ok (.if_icmp .lt 7, 3) := dchk_at dall_X8_isReached_30_md08_0 (k := 8) rfl
theorem dX8_isReached_21 : decode cX8_isReached 21 = .ok (.iconst 0, 1) := dchk_at dall_X8_isReached_30_md08_0 (k := 9) rfl
theorem dX8_isReached_22 : decode cX8_isReached 22 = .ok (.ireturn, 1) := dchk_at dall_X8_isReached_30_md08_0 (k := 10) rfl
theorem dX8_isReached_17 : decode cX8_isReached 17 = .ok (.iconst 1, 1) := dchk_at dall_X8_isReached_30_md08_0 (k := 11) rfl
theorem dX8_isReached_18 : decode cX8_isReached 18 = .ok (.goto 4, 3) := dchk_at dall_X8_isReached_30_md08_0 (k := 12) rfl
def dl_X8_whyAdd_30_md08_0 : List (Nat × Instr × Nat) := [(0, .aload_n 0, 1), (1, .iload_n 1, 1), (2, .invokevirtual 278, 3), (5, .ifCond .ne 5, 3), (10, .iload_n 2, 1), (11, .i2l, 1), (12, .lconst 1, 1), (13, .ldc2_w 289, 3), (16, .invokestatic 60, 3), (19, .ifCond .eq 20, 3), (39, .iconst 1, 1), (40, .goto 15, 3), (55, .ireturn, 1), (22, .aload_n 0, 1), (23, .getfield 22, 3), (26, .bipush 48, 2), (28, .iload_n 1, 1), (29, .iadd, 1), (30, .iaload, 1), (31, .iload_n 2, 1), (32, .iadd, 1), (33, .ldc_w 291, 3), (36, .if_icmp .le 7, 3), (43, .aload_n 0, 1), (44, .invokevirtual 292, 3), (47, .ifCond .eq 7, 3), (54, .iconst (-1), 1), (50, .iconst 2, 1), (51, .goto 4, 3), (8, .iconst 0, 1), (9, .ireturn, 1)]
set_option maxRecDepth 100000 in
theorem dall_X8_whyAdd_30_md08_0 : dchk cX8_whyAdd dl_X8_whyAdd_30_md08_0 = true := by decide +kernel
theorem dX8_whyAdd_0 : decode cX8_whyAdd 0 = .ok (.aload_n 0, 1) := dchk_at dall_X8_whyAdd_30_md08_0 (k := 0) rfl
theorem dX8_whyAdd_1 : decode cX8_whyAdd 1 = .ok (.iload_n 1, 1) := dchk_at dall_X8_whyAdd_30_md08_0 (k := 1) rfl
theorem dX8_whyAdd_2 : decode cX8_whyAdd 2 = .ok (.invokevirtual 278, 3) := dchk_at dall_X8_whyAdd_30_md08_0 (k := 2) rfl
theorem dX8_whyAdd_5 : decode cX8_whyAdd 5 = .ok (.ifCond .ne 5, 3) := dchk_at dall_X8_whyAdd_30_md08_0 (k := 3) rfl
theorem dX8_whyAdd_10 : decode cX8_whyAdd 10 = .ok (.iload_n 2, 1) := dchk_at dall_X8_whyAdd_30_md08_0 (k := 4) rfl
theorem dX8_whyAdd_11 : decode cX8_whyAdd 11 = .ok (.i2l, 1) := dchk_at dall_X8_whyAdd_30_md08_0 (k := 5) rfl
theorem dX8_whyAdd_12 : decode cX8_whyAdd 12 = .ok (.lconst 1, 1) := dchk_at dall_X8_whyAdd_30_md08_0 (k := 6) rfl
theorem dX8_whyAdd_13 : decode cX8_whyAdd 13 = .ok (.ldc2_w 289, 3) := dchk_at dall_X8_whyAdd_30_md08_0 (k := 7) rfl
theorem dX8_whyAdd_16 : decode cX8_whyAdd 16 = .ok (.invokestatic 60, 3) := dchk_at dall_X8_whyAdd_30_md08_0 (k := 8) rfl
theorem dX8_whyAdd_19 : decode cX8_whyAdd 19 = .ok (.ifCond .eq 20, 3) := dchk_at dall_X8_whyAdd_30_md08_0 (k := 9) rfl
theorem dX8_whyAdd_39 : decode cX8_whyAdd 39 = .ok (.iconst 1, 1) := dchk_at dall_X8_whyAdd_30_md08_0 (k := 10) rfl
theorem dX8_whyAdd_40 : decode cX8_whyAdd 40 = .ok (.goto 15, 3) := dchk_at dall_X8_whyAdd_30_md08_0 (k := 11) rfl
theorem dX8_whyAdd_55 : decode cX8_whyAdd 55 = .ok (.ireturn, 1) := dchk_at dall_X8_whyAdd_30_md08_0 (k := 12) rfl
theorem dX8_whyAdd_22 : decode cX8_whyAdd 22 = .ok (.aload_n 0, 1) := dchk_at dall_X8_whyAdd_30_md08_0 (k := 13) rfl
theorem dX8_whyAdd_23 : decode cX8_whyAdd 23 = .ok (.getfield 22, 3) := dchk_at dall_X8_whyAdd_30_md08_0 (k := 14) rfl
theorem dX8_whyAdd_26 : decode cX8_whyAdd 26 = .ok (.bipush 48, 2) := dchk_at dall_X8_whyAdd_30_md08_0 (k := 15) rfl
theorem dX8_whyAdd_28 : decode cX8_whyAdd 28 = .ok (.iload_n 1, 1) := dchk_at dall_X8_whyAdd_30_md08_0 (k := 16) rfl
theorem dX8_whyAdd_29 : decode cX8_whyAdd 29 = .ok (.iadd, 1) := dchk_at dall_X8_whyAdd_30_md08_0 (k := 17) rfl
theorem dX8_whyAdd_30 : decode cX8_whyAdd 30 = .ok (.iaload, 1) := dchk_at dall_X8_whyAdd_30_md08_0 (k := 18) rfl
theorem dX8_whyAdd_31 : decode cX8_whyAdd 31 = .ok (.iload_n 2, 1) := dchk_at dall_X8_whyAdd_30_md08_0 (k := 19) rfl
theorem dX8_whyAdd_32 : decode cX8_whyAdd 32 = .ok (.iadd, 1) := dchk_at dall_X8_whyAdd_30_md08_0 (k := 20) rfl
theorem dX8_whyAdd_33 : decode cX8_whyAdd 33 = .ok (.ldc_w 291, 3) := dchk_at dall_X8_whyAdd_30_md08_0 (k := 21) rfl
theorem dX8_whyAdd_36 : decode cX8_whyAdd 36 = .ok (.if_icmp .le 7, 3) := dchk_at dall_X8_whyAdd_30_md08_0 (k := 22) rfl
theorem dX8_whyAdd_43 : decode cX8_whyAdd 43 = .ok (.aload_n 0, 1) := dchk_at dall_X8_whyAdd_30_md08_0 (k := 23) rfl
theorem dX8_whyAdd_44 : decode cX8_whyAdd 44 = .ok (.invokevirtual 292, 3) := dchk_at dall_X8_whyAdd_30_md08_0 (k := 24) rfl
theorem dX8_whyAdd_47 : decode cX8_whyAdd 47 = .ok (.ifCond .eq 7, 3) := dchk_at dall_X8_whyAdd_30_md08_0 (k := 25) rfl
theorem dX8_whyAdd_54 : decode cX8_whyAdd 54 = .ok (.iconst (-1), 1) := dchk_at dall_X8_whyAdd_30_md08_0 (k := 26) rfl
theorem dX8_whyAdd_50 : decode cX8_whyAdd 50 = .ok (.iconst 2, 1) := dchk_at dall_X8_whyAdd_30_md08_0 (k := 27) rfl
theorem dX8_whyAdd_51 : decode cX8_whyAdd 51 = .ok (.goto 4, 3) := dchk_at dall_X8_whyAdd_30_md08_0 (k := 28) rfl
theorem dX8_whyAdd_8 : decode cX8_whyAdd 8 = .ok (.iconst 0, 1) := dchk_at dall_X8_whyAdd_30_md08_0 (k := 29) rfl
theorem dX8_whyAdd_9 : decode cX8_whyAdd 9 = .ok (.ireturn, 1) := dchk_at dall_X8_whyAdd_30_md08_0 (k := 30) rfl
def dl_X8_frozenOnes_30_md08_0 : List (Nat × Instr × Nat) := [(4, .iload_n 2, 1), (5, .aload_n 0, 1), (6, .getfield 196, 3), (9, .if_icmp .ge 27, 3), (12, .iload_n 1, 1), (13, .aload_n 0, 1), (14, .iload_n 2, 1), (15, .invokevirtual 257, 3), (18, .ifCond .eq 9, 3), (27, .iconst 0, 1), (28, .ior, 1), (29, .istore_n 1, 1), (30, .iinc 2 1, 3), (33, .goto (-29), 3), (21, .iconst 1, 1), (22, .iload_n 2, 1), (23, .ishl, 1), (24, .goto 4, 3), (0, .iconst 0, 1), (1, .istore_n 1, 1), (2, .iconst 0, 1), (3, .istore_n 2, 1), (36, .iload_n 1, 1), (37, .ireturn, 1)]
set_option maxRecDepth 100000 in
theorem dall_X8_frozenOnes_30_md08_0 : dchk cX8_frozenOnes dl_X8_frozenOnes_30_md08_0 = true := by decide +kernel
theorem dX8_frozenOnes_4 : decode cX8_frozenOnes 4 = .ok (.iload_n 2, 1) := dchk_at dall_X8_frozenOnes_30_md08_0 (k := 0) rfl
theorem dX8_frozenOnes_5 : decode cX8_frozenOnes 5 = .ok (.aload_n 0, 1) := dchk_at dall_X8_frozenOnes_30_md08_0 (k := 1) rfl
theorem dX8_frozenOnes_6 : decode cX8_frozenOnes 6 = .ok (.getfield 196, 3) := dchk_at dall_X8_frozenOnes_30_md08_0 (k := 2) rfl
theorem dX8_frozenOnes_9 : decode cX8_frozenOnes 9 = .ok (.if_icmp .ge 27, 3) := dchk_at dall_X8_frozenOnes_30_md08_0 (k := 3) rfl
theorem dX8_frozenOnes_12 : decode cX8_frozenOnes 12 = .ok (.iload_n 1, 1) := dchk_at dall_X8_frozenOnes_30_md08_0 (k := 4) rfl
theorem dX8_frozenOnes_13 : decode cX8_frozenOnes 13 = .ok (.aload_n 0, 1) := dchk_at dall_X8_frozenOnes_30_md08_0 (k := 5) rfl
theorem dX8_frozenOnes_14 : decode cX8_frozenOnes 14 = .ok (.iload_n 2, 1) := dchk_at dall_X8_frozenOnes_30_md08_0 (k := 6) rfl
theorem dX8_frozenOnes_15 : decode cX8_frozenOnes 15 = .ok (.invokevirtual 257, 3) := dchk_at dall_X8_frozenOnes_30_md08_0 (k := 7) rfl
theorem dX8_frozenOnes_18 : decode cX8_frozenOnes 18 = .ok (.ifCond .eq 9, 3) := dchk_at dall_X8_frozenOnes_30_md08_0 (k := 8) rfl
theorem dX8_frozenOnes_27 : decode cX8_frozenOnes 27 = .ok (.iconst 0, 1) := dchk_at dall_X8_frozenOnes_30_md08_0 (k := 9) rfl
theorem dX8_frozenOnes_28 : decode cX8_frozenOnes 28 = .ok (.ior, 1) := dchk_at dall_X8_frozenOnes_30_md08_0 (k := 10) rfl
theorem dX8_frozenOnes_29 : decode cX8_frozenOnes 29 = .ok (.istore_n 1, 1) := dchk_at dall_X8_frozenOnes_30_md08_0 (k := 11) rfl
theorem dX8_frozenOnes_30 : decode cX8_frozenOnes 30 = .ok (.iinc 2 1, 3) := dchk_at dall_X8_frozenOnes_30_md08_0 (k := 12) rfl
theorem dX8_frozenOnes_33 : decode cX8_frozenOnes 33 = .ok (.goto (-29), 3) := dchk_at dall_X8_frozenOnes_30_md08_0 (k := 13) rfl
theorem dX8_frozenOnes_21 : decode cX8_frozenOnes 21 = .ok (.iconst 1, 1) := dchk_at dall_X8_frozenOnes_30_md08_0 (k := 14) rfl
theorem dX8_frozenOnes_22 : decode cX8_frozenOnes 22 = .ok (.iload_n 2, 1) := dchk_at dall_X8_frozenOnes_30_md08_0 (k := 15) rfl
theorem dX8_frozenOnes_23 : decode cX8_frozenOnes 23 = .ok (.ishl, 1) := dchk_at dall_X8_frozenOnes_30_md08_0 (k := 16) rfl
theorem dX8_frozenOnes_24 : decode cX8_frozenOnes 24 = .ok (.goto 4, 3) := dchk_at dall_X8_frozenOnes_30_md08_0 (k := 17) rfl
theorem dX8_frozenOnes_0 : decode cX8_frozenOnes 0 = .ok (.iconst 0, 1) := dchk_at dall_X8_frozenOnes_30_md08_0 (k := 18) rfl
theorem dX8_frozenOnes_1 : decode cX8_frozenOnes 1 = .ok (.istore_n 1, 1) := dchk_at dall_X8_frozenOnes_30_md08_0 (k := 19) rfl
theorem dX8_frozenOnes_2 : decode cX8_frozenOnes 2 = .ok (.iconst 0, 1) := dchk_at dall_X8_frozenOnes_30_md08_0 (k := 20) rfl
theorem dX8_frozenOnes_3 : decode cX8_frozenOnes 3 = .ok (.istore_n 2, 1) := dchk_at dall_X8_frozenOnes_30_md08_0 (k := 21) rfl
theorem dX8_frozenOnes_36 : decode cX8_frozenOnes 36 = .ok (.iload_n 1, 1) := dchk_at dall_X8_frozenOnes_30_md08_0 (k := 22) rfl
theorem dX8_frozenOnes_37 : decode cX8_frozenOnes 37 = .ok (.ireturn, 1) := dchk_at dall_X8_frozenOnes_30_md08_0 (k := 23) rfl
def dl_X8_whyFreeze_30_md08_0 : List (Nat × Instr × Nat) := [(0, .aload_n 0, 1), (1, .iload_n 1, 1), (2, .invokevirtual 278, 3), (5, .ifCond .ne 7, 3), (12, .aload_n 0, 1), (13, .iload_n 1, 1), (14, .invokevirtual 257, 3), (17, .ifCond .ne 23, 3), (40, .iconst (-1), 1), (41, .ireturn, 1), (20, .aload_n 0, 1), (21, .invokevirtual 296, 3), (24, .invokestatic 237, 3), (27, .aload_n 0, 1), (28, .getfield 196, 3), (31, .iconst 1, 1), (32, .isub, 1), (33, .if_icmp .ne 7, 3), (36, .iconst 2, 1), (37, .goto 4, 3), (8, .iconst 0, 1), (9, .goto 32, 3)]
set_option maxRecDepth 100000 in
theorem dall_X8_whyFreeze_30_md08_0 : dchk cX8_whyFreeze dl_X8_whyFreeze_30_md08_0 = true := by decide +kernel
theorem dX8_whyFreeze_0 : decode cX8_whyFreeze 0 = .ok (.aload_n 0, 1) := dchk_at dall_X8_whyFreeze_30_md08_0 (k := 0) rfl
theorem dX8_whyFreeze_1 : decode cX8_whyFreeze 1 = .ok (.iload_n 1, 1) := dchk_at dall_X8_whyFreeze_30_md08_0 (k := 1) rfl
theorem dX8_whyFreeze_2 : decode cX8_whyFreeze 2 = .ok (.invokevirtual 278, 3) := dchk_at dall_X8_whyFreeze_30_md08_0 (k := 2) rfl
theorem dX8_whyFreeze_5 : decode cX8_whyFreeze 5 = .ok (.ifCond .ne 7, 3) := dchk_at dall_X8_whyFreeze_30_md08_0 (k := 3) rfl
theorem dX8_whyFreeze_12 : decode cX8_whyFreeze 12 = .ok (.aload_n 0, 1) := dchk_at dall_X8_whyFreeze_30_md08_0 (k := 4) rfl
theorem dX8_whyFreeze_13 : decode cX8_whyFreeze 13 = .ok (.iload_n 1, 1) := dchk_at dall_X8_whyFreeze_30_md08_0 (k := 5) rfl
theorem dX8_whyFreeze_14 : decode cX8_whyFreeze 14 = .ok (.invokevirtual 257, 3) := dchk_at dall_X8_whyFreeze_30_md08_0 (k := 6) rfl
theorem dX8_whyFreeze_17 : decode cX8_whyFreeze 17 = .ok (.ifCond .ne 23, 3) := dchk_at dall_X8_whyFreeze_30_md08_0 (k := 7) rfl
theorem dX8_whyFreeze_40 : decode cX8_whyFreeze 40 = .ok (.iconst (-1), 1) := dchk_at dall_X8_whyFreeze_30_md08_0 (k := 8) rfl
theorem dX8_whyFreeze_41 : decode cX8_whyFreeze 41 = .ok (.ireturn, 1) := dchk_at dall_X8_whyFreeze_30_md08_0 (k := 9) rfl
theorem dX8_whyFreeze_20 : decode cX8_whyFreeze 20 = .ok (.aload_n 0, 1) := dchk_at dall_X8_whyFreeze_30_md08_0 (k := 10) rfl
theorem dX8_whyFreeze_21 : decode cX8_whyFreeze 21 = .ok (.invokevirtual 296, 3) := dchk_at dall_X8_whyFreeze_30_md08_0 (k := 11) rfl
theorem dX8_whyFreeze_24 : decode cX8_whyFreeze 24 = .ok (.invokestatic 237, 3) := dchk_at dall_X8_whyFreeze_30_md08_0 (k := 12) rfl
theorem dX8_whyFreeze_27 : decode cX8_whyFreeze 27 = .ok (.aload_n 0, 1) := dchk_at dall_X8_whyFreeze_30_md08_0 (k := 13) rfl
theorem dX8_whyFreeze_28 : decode cX8_whyFreeze 28 = .ok (.getfield 196, 3) := dchk_at dall_X8_whyFreeze_30_md08_0 (k := 14) rfl
theorem dX8_whyFreeze_31 : decode cX8_whyFreeze 31 = .ok (.iconst 1, 1) := dchk_at dall_X8_whyFreeze_30_md08_0 (k := 15) rfl
theorem dX8_whyFreeze_32 : decode cX8_whyFreeze 32 = .ok (.isub, 1) := dchk_at dall_X8_whyFreeze_30_md08_0 (k := 16) rfl
theorem dX8_whyFreeze_33 : decode cX8_whyFreeze 33 = .ok (.if_icmp .ne 7, 3) := dchk_at dall_X8_whyFreeze_30_md08_0 (k := 17) rfl
theorem dX8_whyFreeze_36 : decode cX8_whyFreeze 36 = .ok (.iconst 2, 1) := dchk_at dall_X8_whyFreeze_30_md08_0 (k := 18) rfl
theorem dX8_whyFreeze_37 : decode cX8_whyFreeze 37 = .ok (.goto 4, 3) := dchk_at dall_X8_whyFreeze_30_md08_0 (k := 19) rfl
theorem dX8_whyFreeze_8 : decode cX8_whyFreeze 8 = .ok (.iconst 0, 1) := dchk_at dall_X8_whyFreeze_30_md08_0 (k := 20) rfl
theorem dX8_whyFreeze_9 : decode cX8_whyFreeze 9 = .ok (.goto 32, 3) := dchk_at dall_X8_whyFreeze_30_md08_0 (k := 21) rfl
def dl_X8_whyNot_30_md08_0 : List (Nat × Instr × Nat) := [(0, .iload_n 1, 1), (1, .tableswitch 110 0 6 #[43, 52, 65, 82, 97, 110, 104], 43), (44, .aload_n 0, 1), (45, .iload_n 2, 1), (46, .iload_n 3, 1), (47, .iload 4, 2), (49, .invokevirtual 302, 3), (52, .ireturn, 1), (53, .aload_n 0, 1), (54, .invokevirtual 299, 3), (57, .ifCond .eq 7, 3), (64, .iconst 0, 1), (65, .ireturn, 1), (60, .iconst (-1), 1), (61, .goto 4, 3), (66, .aload_n 0, 1), (67, .iload_n 2, 1), (68, .ldc 152, 2), (70, .ldc 153, 2), (72, .aload_n 0, 1), (73, .getfield 22, 3), (76, .bipush 65, 2), (78, .iaload, 1), (79, .invokevirtual 306, 3), (82, .ireturn, 1), (83, .aload_n 0, 1), (84, .iload_n 2, 1), (85, .iconst 0, 1), (86, .iconst 3, 1), (87, .aload_n 0, 1), (88, .getfield 22, 3), (91, .bipush 64, 2), (93, .iaload, 1), (94, .invokevirtual 306, 3), (97, .ireturn, 1), (98, .aload_n 0, 1), (99, .iload_n 2, 1), (100, .iload_n 3, 1), (101, .invokevirtual 310, 3), (104, .ireturn, 1), (111, .aload_n 0, 1), (112, .iload_n 2, 1), (113, .iconst 1, 1), (114, .sipush 9999, 3), (117, .iconst (-1), 1), (118, .invokevirtual 306, 3), (121, .ireturn, 1), (105, .aload_n 0, 1), (106, .iload_n 2, 1), (107, .invokevirtual 313, 3)]
set_option maxRecDepth 100000 in
theorem dall_X8_whyNot_30_md08_0 : dchk cX8_whyNot dl_X8_whyNot_30_md08_0 = true := by decide +kernel
theorem dX8_whyNot_0 : decode cX8_whyNot 0 = .ok (.iload_n 1, 1) := dchk_at dall_X8_whyNot_30_md08_0 (k := 0) rfl
theorem dX8_whyNot_1 : decode cX8_whyNot 1 = .ok (.tableswitch 110 0 6 #[43, 52, 65, 82, 97, 110, 104], 43) := dchk_at dall_X8_whyNot_30_md08_0 (k := 1) rfl
theorem dX8_whyNot_44 : decode cX8_whyNot 44 = .ok (.aload_n 0, 1) := dchk_at dall_X8_whyNot_30_md08_0 (k := 2) rfl
theorem dX8_whyNot_45 : decode cX8_whyNot 45 = .ok (.iload_n 2, 1) := dchk_at dall_X8_whyNot_30_md08_0 (k := 3) rfl
theorem dX8_whyNot_46 : decode cX8_whyNot 46 = .ok (.iload_n 3, 1) := dchk_at dall_X8_whyNot_30_md08_0 (k := 4) rfl
theorem dX8_whyNot_47 : decode cX8_whyNot 47 = .ok (.iload 4, 2) := dchk_at dall_X8_whyNot_30_md08_0 (k := 5) rfl
theorem dX8_whyNot_49 : decode cX8_whyNot 49 = .ok (.invokevirtual 302, 3) := dchk_at dall_X8_whyNot_30_md08_0 (k := 6) rfl
theorem dX8_whyNot_52 : decode cX8_whyNot 52 = .ok (.ireturn, 1) := dchk_at dall_X8_whyNot_30_md08_0 (k := 7) rfl
theorem dX8_whyNot_53 : decode cX8_whyNot 53 = .ok (.aload_n 0, 1) := dchk_at dall_X8_whyNot_30_md08_0 (k := 8) rfl
theorem dX8_whyNot_54 : decode cX8_whyNot 54 = .ok (.invokevirtual 299, 3) := dchk_at dall_X8_whyNot_30_md08_0 (k := 9) rfl
theorem dX8_whyNot_57 : decode cX8_whyNot 57 = .ok (.ifCond .eq 7, 3) := dchk_at dall_X8_whyNot_30_md08_0 (k := 10) rfl
theorem dX8_whyNot_64 : decode cX8_whyNot 64 = .ok (.iconst 0, 1) := dchk_at dall_X8_whyNot_30_md08_0 (k := 11) rfl
theorem dX8_whyNot_65 : decode cX8_whyNot 65 = .ok (.ireturn, 1) := dchk_at dall_X8_whyNot_30_md08_0 (k := 12) rfl
theorem dX8_whyNot_60 : decode cX8_whyNot 60 = .ok (.iconst (-1), 1) := dchk_at dall_X8_whyNot_30_md08_0 (k := 13) rfl
theorem dX8_whyNot_61 : decode cX8_whyNot 61 = .ok (.goto 4, 3) := dchk_at dall_X8_whyNot_30_md08_0 (k := 14) rfl
theorem dX8_whyNot_66 : decode cX8_whyNot 66 = .ok (.aload_n 0, 1) := dchk_at dall_X8_whyNot_30_md08_0 (k := 15) rfl
theorem dX8_whyNot_67 : decode cX8_whyNot 67 = .ok (.iload_n 2, 1) := dchk_at dall_X8_whyNot_30_md08_0 (k := 16) rfl
theorem dX8_whyNot_68 : decode cX8_whyNot 68 = .ok (.ldc 152, 2) := dchk_at dall_X8_whyNot_30_md08_0 (k := 17) rfl
theorem dX8_whyNot_70 : decode cX8_whyNot 70 = .ok (.ldc 153, 2) := dchk_at dall_X8_whyNot_30_md08_0 (k := 18) rfl
theorem dX8_whyNot_72 : decode cX8_whyNot 72 = .ok (.aload_n 0, 1) := dchk_at dall_X8_whyNot_30_md08_0 (k := 19) rfl
theorem dX8_whyNot_73 : decode cX8_whyNot 73 = .ok (.getfield 22, 3) := dchk_at dall_X8_whyNot_30_md08_0 (k := 20) rfl
theorem dX8_whyNot_76 : decode cX8_whyNot 76 = .ok (.bipush 65, 2) := dchk_at dall_X8_whyNot_30_md08_0 (k := 21) rfl
theorem dX8_whyNot_78 : decode cX8_whyNot 78 = .ok (.iaload, 1) := dchk_at dall_X8_whyNot_30_md08_0 (k := 22) rfl
theorem dX8_whyNot_79 : decode cX8_whyNot 79 = .ok (.invokevirtual 306, 3) := dchk_at dall_X8_whyNot_30_md08_0 (k := 23) rfl
theorem dX8_whyNot_82 : decode cX8_whyNot 82 = .ok (.ireturn, 1) := dchk_at dall_X8_whyNot_30_md08_0 (k := 24) rfl
theorem dX8_whyNot_83 : decode cX8_whyNot 83 = .ok (.aload_n 0, 1) := dchk_at dall_X8_whyNot_30_md08_0 (k := 25) rfl
theorem dX8_whyNot_84 : decode cX8_whyNot 84 = .ok (.iload_n 2, 1) := dchk_at dall_X8_whyNot_30_md08_0 (k := 26) rfl
theorem dX8_whyNot_85 : decode cX8_whyNot 85 = .ok (.iconst 0, 1) := dchk_at dall_X8_whyNot_30_md08_0 (k := 27) rfl
theorem dX8_whyNot_86 : decode cX8_whyNot 86 = .ok (.iconst 3, 1) := dchk_at dall_X8_whyNot_30_md08_0 (k := 28) rfl
theorem dX8_whyNot_87 : decode cX8_whyNot 87 = .ok (.aload_n 0, 1) := dchk_at dall_X8_whyNot_30_md08_0 (k := 29) rfl
theorem dX8_whyNot_88 : decode cX8_whyNot 88 = .ok (.getfield 22, 3) := dchk_at dall_X8_whyNot_30_md08_0 (k := 30) rfl
theorem dX8_whyNot_91 : decode cX8_whyNot 91 = .ok (.bipush 64, 2) := dchk_at dall_X8_whyNot_30_md08_0 (k := 31) rfl
theorem dX8_whyNot_93 : decode cX8_whyNot 93 = .ok (.iaload, 1) := dchk_at dall_X8_whyNot_30_md08_0 (k := 32) rfl
theorem dX8_whyNot_94 : decode cX8_whyNot 94 = .ok (.invokevirtual 306, 3) := dchk_at dall_X8_whyNot_30_md08_0 (k := 33) rfl
theorem dX8_whyNot_97 : decode cX8_whyNot 97 = .ok (.ireturn, 1) := dchk_at dall_X8_whyNot_30_md08_0 (k := 34) rfl
theorem dX8_whyNot_98 : decode cX8_whyNot 98 = .ok (.aload_n 0, 1) := dchk_at dall_X8_whyNot_30_md08_0 (k := 35) rfl
theorem dX8_whyNot_99 : decode cX8_whyNot 99 = .ok (.iload_n 2, 1) := dchk_at dall_X8_whyNot_30_md08_0 (k := 36) rfl
theorem dX8_whyNot_100 : decode cX8_whyNot 100 = .ok (.iload_n 3, 1) := dchk_at dall_X8_whyNot_30_md08_0 (k := 37) rfl
theorem dX8_whyNot_101 : decode cX8_whyNot 101 = .ok (.invokevirtual 310, 3) := dchk_at dall_X8_whyNot_30_md08_0 (k := 38) rfl
theorem dX8_whyNot_104 : decode cX8_whyNot 104 = .ok (.ireturn, 1) := dchk_at dall_X8_whyNot_30_md08_0 (k := 39) rfl
theorem dX8_whyNot_111 : decode cX8_whyNot 111 = .ok (.aload_n 0, 1) := dchk_at dall_X8_whyNot_30_md08_0 (k := 40) rfl
theorem dX8_whyNot_112 : decode cX8_whyNot 112 = .ok (.iload_n 2, 1) := dchk_at dall_X8_whyNot_30_md08_0 (k := 41) rfl
theorem dX8_whyNot_113 : decode cX8_whyNot 113 = .ok (.iconst 1, 1) := dchk_at dall_X8_whyNot_30_md08_0 (k := 42) rfl
theorem dX8_whyNot_114 : decode cX8_whyNot 114 = .ok (.sipush 9999, 3) := dchk_at dall_X8_whyNot_30_md08_0 (k := 43) rfl
theorem dX8_whyNot_117 : decode cX8_whyNot 117 = .ok (.iconst (-1), 1) := dchk_at dall_X8_whyNot_30_md08_0 (k := 44) rfl
theorem dX8_whyNot_118 : decode cX8_whyNot 118 = .ok (.invokevirtual 306, 3) := dchk_at dall_X8_whyNot_30_md08_0 (k := 45) rfl
theorem dX8_whyNot_121 : decode cX8_whyNot 121 = .ok (.ireturn, 1) := dchk_at dall_X8_whyNot_30_md08_0 (k := 46) rfl
theorem dX8_whyNot_105 : decode cX8_whyNot 105 = .ok (.aload_n 0, 1) := dchk_at dall_X8_whyNot_30_md08_0 (k := 47) rfl
theorem dX8_whyNot_106 : decode cX8_whyNot 106 = .ok (.iload_n 2, 1) := dchk_at dall_X8_whyNot_30_md08_0 (k := 48) rfl
theorem dX8_whyNot_107 : decode cX8_whyNot 107 = .ok (.invokevirtual 313, 3) := dchk_at dall_X8_whyNot_30_md08_0 (k := 49) rfl
def dl_X8_whyNot_30_md08_1 : List (Nat × Instr × Nat) := [(110, .ireturn, 1)]
set_option maxRecDepth 100000 in
theorem dall_X8_whyNot_30_md08_1 : dchk cX8_whyNot dl_X8_whyNot_30_md08_1 = true := by decide +kernel
theorem dX8_whyNot_110 : decode cX8_whyNot 110 = .ok (.ireturn, 1) := dchk_at dall_X8_whyNot_30_md08_1 (k := 0) rfl
def F_X8_isWatch (c_sites : Int32) : Option (Int32) :=
  if c_sites ≤ (0 : Int32) then some (0 : Int32) else some (1 : Int32)
abbrev w_X8_isWatch (E : EE) (a_ a_tape a_readPlace a_script a_scriptLong a_now a_refused a_shareX a_shareY a_askedRow a_kept a_aside a_spelled a_image : Nat) (c_thrown : Int32) (c_taped : Int32) (c_at : Int32) (c_part : Int32) (c_partFrom : Int32) (c_partNumber : Int32) (c_wrong : Int32) (c_partWord : Int64) (c_readLaw : Int32) (c_readBound : Int32) (c_readGoal : Int32) (c_readSites : Int32) (c_scripts : Int32) (c_sites : Int32) (c_asked : Int32) (c_outcome : Int32) (c_took : Int32) (c_acts : Int32) (c_drawn : Int64) (c_racer : Int32) (c_raced : Int32) (c_spelledMany : Int32) (c_hasImage : Int32) : va_W := [(a_, .inr (9, [.int c_thrown, .ref a_tape, .int c_taped, .int c_at, .int c_part, .int c_partFrom, .int c_partNumber, .int c_wrong, .long c_partWord, .int c_readLaw, .int c_readBound, .int c_readGoal, .int c_readSites, .ref a_readPlace, .ref a_script, .ref a_scriptLong, .int c_scripts, .ref a_now, .ref a_refused, .int c_sites, .ref a_shareX, .ref a_shareY, .int c_asked, .int c_outcome, .ref a_askedRow, .int c_took, .ref a_kept, .int c_acts, .long c_drawn, .ref a_aside, .int c_racer, .int c_raced, .ref a_spelled, .int c_spelledMany, .ref a_image, .int c_hasImage]))]
def v_f_X8_isWatch : List Cond := List.cons (.code yX8_isWatch cX8_isWatch 1 (some .boolean)) (HAppend.hAppend (α := List Cond) (β := List Cond) (γ := List Cond) [.fieldLink RX8 196 "HushWatchModel" "sites" "I"] (HAppend.hAppend (α := List Cond) (β := List Cond) (γ := List Cond) wsX80 []))
theorem gw_f_X8_isWatch : v_f_X8_isWatch.all goodWord = true := by decide +kernel
theorem i_f_X8_isWatch_X8 : ∀ w ∈ wsX80, w ∈ v_f_X8_isWatch := fun _ h => List.mem_cons_of_mem _ (List.mem_append_right _ (List.mem_append_left _ h))
theorem hd_X8_isWatch : yX8_isWatch.cls = RX8 ∧ yX8_isWatch.cls ≠ "java/lang/invoke/MethodHandle" ∧ yX8_isWatch.cls ≠ "java/lang/invoke/VarHandle" ∧ (parseMethodDescriptor yX8_isWatch.desc).map (fun d => d.parameters.length) = some 0 := by decide +kernel
set_option maxHeartbeats 4000000 in
set_option maxRecDepth 100000 in
theorem f_X8_isWatch (l : Launch) (E : EE) {a_ a_tape a_readPlace a_script a_scriptLong a_now a_refused a_shareX a_shareY a_askedRow a_kept a_aside a_spelled a_image : Nat} {c_thrown : Int32} {c_taped : Int32} {c_at : Int32} {c_part : Int32} {c_partFrom : Int32} {c_partNumber : Int32} {c_wrong : Int32} {c_partWord : Int64} {c_readLaw : Int32} {c_readBound : Int32} {c_readGoal : Int32} {c_readSites : Int32} {c_scripts : Int32} {c_sites : Int32} {c_asked : Int32} {c_outcome : Int32} {c_took : Int32} {c_acts : Int32} {c_drawn : Int64} {c_racer : Int32} {c_raced : Int32} {c_spelledMany : Int32} {c_hasImage : Int32} {rr : Int32} (hF : F_X8_isWatch c_sites = some rr) : Met l yX8_isWatch v_f_X8_isWatch (({ frames := 0, cells := 0, slots := 0, locals := 0 } : Room)) (va_Pc [.ref a_] (pP E (w_X8_isWatch E a_ a_tape a_readPlace a_script a_scriptLong a_now a_refused a_shareX a_shareY a_askedRow a_kept a_aside a_spelled a_image c_thrown c_taped c_at c_part c_partFrom c_partNumber c_wrong c_partWord c_readLaw c_readBound c_readGoal c_readSites c_scripts c_sites c_asked c_outcome c_took c_acts c_drawn c_racer c_raced c_spelledMany c_hasImage))) (vp_Si (fun q : Int32 => q = rr ∧ (q = 0 ∨ q = 1))) 0 0 (fun _ => False) := by
  refine Met.ofW (cc := cX8_isWatch) (maxL := 1) (ret := (some .boolean)) (by decide) rfl ?_
  intro p e s m args below meth c s₁ B hml hv
  obtain ⟨rfl, ⟨hK, hN⟩, hP⟩ := hv
  have hx := B.exec
  have hb := B.bytes
  have hr := B.returns
  have hts := atoms_spec (ws := v_f_X8_isWatch) B.pre
  have hown : s.vm.findClass RX8 = some m.cls := own_of hd_X8_isWatch.1 (findClass_of_methodNamed B.named)
  have hlocks : meth.locks = false := B.notSynchronized
  replace hP : va_P E.1 vwCl [(a_, .inr (9, [.int c_thrown, .ref a_tape, .int c_taped, .int c_at, .int c_part, .int c_partFrom, .int c_partNumber, .int c_wrong, .long c_partWord, .int c_readLaw, .int c_readBound, .int c_readGoal, .int c_readSites, .ref a_readPlace, .ref a_script, .ref a_scriptLong, .int c_scripts, .ref a_now, .ref a_refused, .int c_sites, .ref a_shareX, .ref a_shareY, .int c_asked, .int c_outcome, .ref a_askedRow, .int c_took, .ref a_kept, .int c_acts, .long c_drawn, .ref a_aside, .int c_racer, .int c_raced, .ref a_spelled, .int c_spelledMany, .ref a_image, .int c_hasImage]))] s.heap := hP
  have hl := lv_entry ([.ref a_]) (n := 1) (Nat.le_of_ble_eq_true rfl)
  rw [lg_entry_eq]
  generalize (lg_sl ([.ref a_]) ++ List.replicate (1 - (lg_sl ([.ref a_])).length) Slot.unset).toArray = ls at hl ⊢
  have hl : lv_has ls 1 [(0, .ref a_)] := hl
  obtain ⟨Q, hQ⟩ : ∃ Q : State → Prop, Q = MQ below (vp_Si (fun q : Int32 => q = rr ∧ (q = 0 ∨ q = 1))) #[Value.ref a_] s 0 0 (fun _ => False) := ⟨_, rfl⟩
  rw [← hQ]
  change W p l e ({ frames := 0, cells := 0, slots := 0, locals := 0 } : Room) s m #[Value.ref a_] below meth c s.heap [] 0 0 Q (F0 m 0 ls [])
  unfold F_X8_isWatch at hF
  refine lv_aload_n hx hb dX8_isWatch_0 rfl (lv_at hl 0 rfl) ?_
  refine gt_X8_19 (v := .int c_sites) hx hb hts i_f_X8_isWatch_X8 hown hK hP 0 rfl (hts (.fieldLink RX8 196 "HushWatchModel" "sites" "I") (List.mem_of_getElem? (i := 1) rfl)) rfl dX8_isWatch_1 ?_
  refine lv_if_le (tgt := 11) hx hb dX8_isWatch_4 (by decide) (fun c_1 => ?_) (fun c_1 => ?_)
  ·
    replace hF := ip c_1 hF
    refine lv_iconst (v := 0) hx hb dX8_isWatch_11 (by decide) ?_
    rw [hQ]
    obtain e9_0 := inj1 hF
    exact W.zret (v := (0 : Int32)) hx hb hr rfl (fun tt ht hW => ⟨_, rfl, ⟨e9_0, Or.inl rfl⟩, ht⟩) (fun _ h => by cases h) dX8_isWatch_12
  ·
    replace hF := inn c_1 hF
    refine lv_iconst (v := 1) hx hb dX8_isWatch_7 (by decide) ?_
    refine lv_goto (tgt := 12) hx hb dX8_isWatch_8 (by decide) ?_
    rw [hQ]
    obtain e9_0 := inj1 hF
    exact W.zret (v := (1 : Int32)) hx hb hr rfl (fun tt ht hW => ⟨_, rfl, ⟨e9_0, Or.inr rfl⟩, ht⟩) (fun _ h => by cases h) dX8_isWatch_12

def F_X8_whySet (p1 : Int32) (p2 : Int32) (p3 : Int32) (p4 : Int32) (c_sites : Int32) : Option (Int32) :=
  bd1 (F_X8_isWatch c_sites) (fun r_1 => if r_1 = (0 : Int32) then some (0 : Int32) else bd1 (F_X8_in p1.toInt64 p2.toInt64 p3.toInt64) (fun r_5 => if r_5 = (0 : Int32) then some (1 : Int32) else if p1 = p4 then some (2 : Int32) else some (-1 : Int32)))
abbrev w_X8_whySet (E : EE) (a_ a_tape a_readPlace a_script a_scriptLong a_now a_refused a_shareX a_shareY a_askedRow a_kept a_aside a_spelled a_image : Nat) (c_thrown : Int32) (c_taped : Int32) (c_at : Int32) (c_part : Int32) (c_partFrom : Int32) (c_partNumber : Int32) (c_wrong : Int32) (c_partWord : Int64) (c_readLaw : Int32) (c_readBound : Int32) (c_readGoal : Int32) (c_readSites : Int32) (c_scripts : Int32) (c_sites : Int32) (c_asked : Int32) (c_outcome : Int32) (c_took : Int32) (c_acts : Int32) (c_drawn : Int64) (c_racer : Int32) (c_raced : Int32) (c_spelledMany : Int32) (c_hasImage : Int32) : va_W := [(a_, .inr (9, [.int c_thrown, .ref a_tape, .int c_taped, .int c_at, .int c_part, .int c_partFrom, .int c_partNumber, .int c_wrong, .long c_partWord, .int c_readLaw, .int c_readBound, .int c_readGoal, .int c_readSites, .ref a_readPlace, .ref a_script, .ref a_scriptLong, .int c_scripts, .ref a_now, .ref a_refused, .int c_sites, .ref a_shareX, .ref a_shareY, .int c_asked, .int c_outcome, .ref a_askedRow, .int c_took, .ref a_kept, .int c_acts, .long c_drawn, .ref a_aside, .int c_racer, .int c_raced, .ref a_spelled, .int c_spelledMany, .ref a_image, .int c_hasImage]))]
def v_f_X8_whySet : List Cond := List.cons (.code yX8_whySet cX8_whySet 5 (some .int)) (HAppend.hAppend (α := List Cond) (β := List Cond) (γ := List Cond) [.methodLink RX8 299 yX8_isWatch, .instanceMethod yX8_isWatch, .selects RX8 yX8_isWatch yX8_isWatch, .initialized RX8, .methodLink RX8 60 yX8_in, .static yX8_in] (HAppend.hAppend (α := List Cond) (β := List Cond) (γ := List Cond) v_f_X8_isWatch (HAppend.hAppend (α := List Cond) (β := List Cond) (γ := List Cond) v_f_X8_in [])))
theorem gw_f_X8_whySet : v_f_X8_whySet.all goodWord = true := by decide +kernel
theorem g_f_X8_whySet_f_X8_isWatch_299 : GoodIn v_f_X8_whySet (wsV RX8 299 RX8 yX8_isWatch v_f_X8_isWatch) := goodIn_app (goodIn_of _ (by decide +kernel)) (goodIn_sub (fun _ h => List.mem_cons_of_mem _ (List.mem_append_right _ (List.mem_append_left _ h))) gw_f_X8_isWatch)
theorem g_f_X8_whySet_f_X8_in_60 : GoodIn v_f_X8_whySet (va_wsS RX8 60 yX8_in v_f_X8_in) := goodIn_app (goodIn_of _ (by decide +kernel)) (goodIn_sub (fun _ h => List.mem_cons_of_mem _ (List.mem_append_right _ (List.mem_append_right _ (List.mem_append_left _ h)))) gw_f_X8_in)
theorem hd_X8_whySet : yX8_whySet.cls = RX8 ∧ yX8_whySet.cls ≠ "java/lang/invoke/MethodHandle" ∧ yX8_whySet.cls ≠ "java/lang/invoke/VarHandle" ∧ (parseMethodDescriptor yX8_whySet.desc).map (fun d => d.parameters.length) = some 4 := by decide +kernel
set_option maxHeartbeats 4000000 in
set_option maxRecDepth 100000 in
theorem f_X8_whySet (l : Launch) (E : EE) {a_ a_tape a_readPlace a_script a_scriptLong a_now a_refused a_shareX a_shareY a_askedRow a_kept a_aside a_spelled a_image : Nat} {p1 : Int32} {p2 : Int32} {p3 : Int32} {p4 : Int32} {c_thrown : Int32} {c_taped : Int32} {c_at : Int32} {c_part : Int32} {c_partFrom : Int32} {c_partNumber : Int32} {c_wrong : Int32} {c_partWord : Int64} {c_readLaw : Int32} {c_readBound : Int32} {c_readGoal : Int32} {c_readSites : Int32} {c_scripts : Int32} {c_sites : Int32} {c_asked : Int32} {c_outcome : Int32} {c_took : Int32} {c_acts : Int32} {c_drawn : Int64} {c_racer : Int32} {c_raced : Int32} {c_spelledMany : Int32} {c_hasImage : Int32} {rr : Int32} (hF : F_X8_whySet p1 p2 p3 p4 c_sites = some rr) : Met l yX8_whySet v_f_X8_whySet (({ frames := 1, cells := 0, slots := 0, locals := 25 } : Room)) (va_Pc [.ref a_, .int p1, .int p2, .int p3, .int p4] (pP E (w_X8_whySet E a_ a_tape a_readPlace a_script a_scriptLong a_now a_refused a_shareX a_shareY a_askedRow a_kept a_aside a_spelled a_image c_thrown c_taped c_at c_part c_partFrom c_partNumber c_wrong c_partWord c_readLaw c_readBound c_readGoal c_readSites c_scripts c_sites c_asked c_outcome c_took c_acts c_drawn c_racer c_raced c_spelledMany c_hasImage))) (vp_Si (fun q : Int32 => q = rr)) 0 0 (fun _ => False) := by
  refine Met.ofW (cc := cX8_whySet) (maxL := 5) (ret := (some .int)) (by decide) rfl ?_
  intro p e s m args below meth c s₁ B hml hv
  obtain ⟨rfl, ⟨hK, hN⟩, hP⟩ := hv
  have hx := B.exec
  have hb := B.bytes
  have hr := B.returns
  have hts := atoms_spec (ws := v_f_X8_whySet) B.pre
  have hown : s.vm.findClass RX8 = some m.cls := own_of hd_X8_whySet.1 (findClass_of_methodNamed B.named)
  have hlocks : meth.locks = false := B.notSynchronized
  replace hP : va_P E.1 vwCl [(a_, .inr (9, [.int c_thrown, .ref a_tape, .int c_taped, .int c_at, .int c_part, .int c_partFrom, .int c_partNumber, .int c_wrong, .long c_partWord, .int c_readLaw, .int c_readBound, .int c_readGoal, .int c_readSites, .ref a_readPlace, .ref a_script, .ref a_scriptLong, .int c_scripts, .ref a_now, .ref a_refused, .int c_sites, .ref a_shareX, .ref a_shareY, .int c_asked, .int c_outcome, .ref a_askedRow, .int c_took, .ref a_kept, .int c_acts, .long c_drawn, .ref a_aside, .int c_racer, .int c_raced, .ref a_spelled, .int c_spelledMany, .ref a_image, .int c_hasImage]))] s.heap := hP
  have hl := lv_entry ([.ref a_, .int p1, .int p2, .int p3, .int p4]) (n := 5) (Nat.le_of_ble_eq_true rfl)
  rw [lg_entry_eq]
  generalize (lg_sl ([.ref a_, .int p1, .int p2, .int p3, .int p4]) ++ List.replicate (5 - (lg_sl ([.ref a_, .int p1, .int p2, .int p3, .int p4])).length) Slot.unset).toArray = ls at hl ⊢
  have hl : lv_has ls 5 [(0, .ref a_), (1, .int p1), (2, .int p2), (3, .int p3), (4, .int p4)] := hl
  obtain ⟨Q, hQ⟩ : ∃ Q : State → Prop, Q = MQ below (vp_Si (fun q : Int32 => q = rr)) #[Value.ref a_, Value.int p1, Value.int p2, Value.int p3, Value.int p4] s 0 0 (fun _ => False) := ⟨_, rfl⟩
  rw [← hQ]
  change W p l e ({ frames := 1, cells := 0, slots := 0, locals := 25 } : Room) s m #[Value.ref a_, Value.int p1, Value.int p2, Value.int p3, Value.int p4] below meth c s.heap [] 0 0 Q (F0 m 0 ls [])
  unfold F_X8_whySet at hF
  refine lv_aload_n hx hb dX8_whySet_0 rfl (lv_at hl 0 rfl) ?_
  replace hF := bd1_s hF
  obtain ⟨r_1, hc_2, hF⟩ := hF
  have hPc : va_P E.1 vwCl (w_X8_isWatch E a_ a_tape a_readPlace a_script a_scriptLong a_now a_refused a_shareX a_shareY a_askedRow a_kept a_aside a_spelled a_image c_thrown c_taped c_at c_part c_partFrom c_partNumber c_wrong c_partWord c_readLaw c_readBound c_readGoal c_readSites c_scripts c_sites c_asked c_outcome c_took c_acts c_drawn c_racer c_raced c_spelledMany c_hasImage) s.heap := hP.sub (ws' := [(a_, .inr (9, [.int c_thrown, .ref a_tape, .int c_taped, .int c_at, .int c_part, .int c_partFrom, .int c_partNumber, .int c_wrong, .long c_partWord, .int c_readLaw, .int c_readBound, .int c_readGoal, .int c_readSites, .ref a_readPlace, .ref a_script, .ref a_scriptLong, .int c_scripts, .ref a_now, .ref a_refused, .int c_sites, .ref a_shareX, .ref a_shareY, .int c_asked, .int c_outcome, .ref a_askedRow, .int c_took, .ref a_kept, .int c_acts, .long c_drawn, .ref a_aside, .int c_racer, .int c_raced, .ref a_spelled, .int c_spelledMany, .ref a_image, .int c_hasImage]))]) [0] rfl
  have hrc := va_recv hK hPc (ci := 9) (q0 := 0) rfl rfl
  refine pE_z (va_runV (As := []) (rest := [])  ⟨hx, hb, hml, hown, hts⟩ (f_X8_isWatch l E (a_ := a_) (a_tape := a_tape) (a_readPlace := a_readPlace) (a_script := a_script) (a_scriptLong := a_scriptLong) (a_now := a_now) (a_refused := a_refused) (a_shareX := a_shareX) (a_shareY := a_shareY) (a_askedRow := a_askedRow) (a_kept := a_kept) (a_aside := a_aside) (a_spelled := a_spelled) (a_image := a_image) (c_thrown := c_thrown) (c_taped := c_taped) (c_at := c_at) (c_part := c_part) (c_partFrom := c_partFrom) (c_partNumber := c_partNumber) (c_wrong := c_wrong) (c_partWord := c_partWord) (c_readLaw := c_readLaw) (c_readBound := c_readBound) (c_readGoal := c_readGoal) (c_readSites := c_readSites) (c_scripts := c_scripts) (c_sites := c_sites) (c_asked := c_asked) (c_outcome := c_outcome) (c_took := c_took) (c_acts := c_acts) (c_drawn := c_drawn) (c_racer := c_racer) (c_raced := c_raced) (c_spelledMany := c_spelledMany) (c_hasImage := c_hasImage) hc_2) (cwV 0 hts g_f_X8_whySet_f_X8_isWatch_299 rfl rfl rfl hd_X8_isWatch ⟨Nat.le_of_ble_eq_true rfl, Nat.le_of_ble_eq_true rfl⟩) ⟨pP.blind, hrc, (pP.pre ⟨hK, hN⟩ hPc)⟩ rfl rfl hl.1 rfl (lv_room (Nat.le_of_ble_eq_true rfl)) dX8_whySet_1 ⟨Nat.le_of_ble_eq_true rfl, Nat.le_of_ble_eq_true rfl⟩) (fun hb_3 => ?_)
  refine lv_if_ne (tgt := 11) hx hb dX8_whySet_4 (by decide) (fun c_4 => ?_) (fun c_4 => ?_)
  ·
    replace hF := inn c_4 hF
    refine lv_iload_n hx hb dX8_whySet_11 rfl (lv_at hl 1 rfl) ?_
    refine lv_i2l (v := p1.toInt64) hx hb dX8_whySet_12 rfl ?_
    refine lv_iload_n hx hb dX8_whySet_13 rfl (lv_at hl 2 rfl) ?_
    refine lv_i2l (v := p2.toInt64) hx hb dX8_whySet_14 rfl ?_
    refine lv_iload_n hx hb dX8_whySet_15 rfl (lv_at hl 3 rfl) ?_
    refine lv_i2l (v := p3.toInt64) hx hb dX8_whySet_16 rfl ?_
    replace hF := bd1_s hF
    obtain ⟨r_5, hc_6, hF⟩ := hF
    have hPc : va_P E.1 vwCl [] s.heap := fun k q h => by simp at h
    refine pE_z (va_runS (As := [.long p1.toInt64, .long p2.toInt64, .long p3.toInt64]) (rest := [])  ⟨hx, hb, hml, hown, hts⟩ (f_X8_in l E (p0 := p1.toInt64) (p1 := p2.toInt64) (p2 := p3.toInt64) hc_6) (va_cwS 3 hts g_f_X8_whySet_f_X8_in_60 rfl rfl rfl hd_X8_in.2 ⟨Nat.le_of_ble_eq_true rfl, Nat.le_of_ble_eq_true rfl⟩) ⟨pP.blind, (pP.pre ⟨hK, hN⟩ hPc)⟩ rfl rfl hl.1 rfl (lv_room (Nat.le_of_ble_eq_true rfl)) dX8_whySet_17 ⟨Nat.le_of_ble_eq_true rfl, Nat.le_of_ble_eq_true rfl⟩) (fun hb_7 => ?_)
    refine lv_if_ne (tgt := 27) hx hb dX8_whySet_20 (by decide) (fun c_8 => ?_) (fun c_8 => ?_)
    ·
      replace hF := inn c_8 hF
      refine lv_iload_n hx hb dX8_whySet_27 rfl (lv_at hl 1 rfl) ?_
      refine lv_iload hx hb dX8_whySet_28 (lv_at hl 4 rfl) ?_
      refine lv_icmp_ne (tgt := 37) hx hb dX8_whySet_30 (by decide) (fun c_9 => ?_) (fun c_9 => ?_)
      ·
        replace hF := inn c_9 hF
        refine lv_iconst (v := -1) hx hb dX8_whySet_37 (by decide) ?_
        rw [hQ]
        obtain e9_0 := inj1 hF
        exact W.iret (v := (-1 : Int32)) hx hb hr (fun tt ht hW => ⟨_, rfl, e9_0, ht⟩) (fun _ h => by cases h) dX8_whySet_38
      ·
        replace hF := ip c_9 hF
        refine lv_iconst (v := 2) hx hb dX8_whySet_33 (by decide) ?_
        refine lv_goto (tgt := 38) hx hb dX8_whySet_34 (by decide) ?_
        rw [hQ]
        obtain e9_0 := inj1 hF
        exact W.iret (v := (2 : Int32)) hx hb hr (fun tt ht hW => ⟨_, rfl, e9_0, ht⟩) (fun _ h => by cases h) dX8_whySet_38
    ·
      replace hF := ip c_8 hF
      refine lv_iconst (v := 1) hx hb dX8_whySet_23 (by decide) ?_
      refine lv_goto (tgt := 38) hx hb dX8_whySet_24 (by decide) ?_
      rw [hQ]
      obtain e9_0 := inj1 hF
      exact W.iret (v := (1 : Int32)) hx hb hr (fun tt ht hW => ⟨_, rfl, e9_0, ht⟩) (fun _ h => by cases h) dX8_whySet_38
  ·
    replace hF := ip c_4 hF
    refine lv_iconst (v := 0) hx hb dX8_whySet_7 (by decide) ?_
    refine lv_goto (tgt := 38) hx hb dX8_whySet_8 (by decide) ?_
    rw [hQ]
    obtain e9_0 := inj1 hF
    exact W.iret (v := (0 : Int32)) hx hb hr (fun tt ht hW => ⟨_, rfl, e9_0, ht⟩) (fun _ h => by cases h) dX8_whySet_38

def F_X8_isReached (c_now : Nat → Int32) : Option (Int32) :=
  if c_now 73 < c_now 66 then some (0 : Int32) else some (1 : Int32)
abbrev w_X8_isReached (E : EE) (a_ a_tape a_readPlace a_script a_scriptLong a_now a_refused a_shareX a_shareY a_askedRow a_kept a_aside a_spelled a_image : Nat) (c_thrown : Int32) (c_taped : Int32) (c_at : Int32) (c_part : Int32) (c_partFrom : Int32) (c_partNumber : Int32) (c_wrong : Int32) (c_partWord : Int64) (c_readLaw : Int32) (c_readBound : Int32) (c_readGoal : Int32) (c_readSites : Int32) (c_scripts : Int32) (c_sites : Int32) (c_asked : Int32) (c_outcome : Int32) (c_took : Int32) (c_acts : Int32) (c_drawn : Int64) (c_racer : Int32) (c_raced : Int32) (c_spelledMany : Int32) (c_hasImage : Int32) (c_now : Nat → Int32) : va_W := [(a_, .inr (9, [.int c_thrown, .ref a_tape, .int c_taped, .int c_at, .int c_part, .int c_partFrom, .int c_partNumber, .int c_wrong, .long c_partWord, .int c_readLaw, .int c_readBound, .int c_readGoal, .int c_readSites, .ref a_readPlace, .ref a_script, .ref a_scriptLong, .int c_scripts, .ref a_now, .ref a_refused, .int c_sites, .ref a_shareX, .ref a_shareY, .int c_asked, .int c_outcome, .ref a_askedRow, .int c_took, .ref a_kept, .int c_acts, .long c_drawn, .ref a_aside, .int c_racer, .int c_raced, .ref a_spelled, .int c_spelledMany, .ref a_image, .int c_hasImage])), (a_now, .inl (E.2.1, 265, .inl c_now))]
def v_f_X8_isReached : List Cond := List.cons (.code yX8_isReached cX8_isReached 1 (some .boolean)) (HAppend.hAppend (α := List Cond) (β := List Cond) (γ := List Cond) [.fieldLink RX8 22 "HushWatchModel" "now" "[I"] (HAppend.hAppend (α := List Cond) (β := List Cond) (γ := List Cond) wsX80 []))
theorem gw_f_X8_isReached : v_f_X8_isReached.all goodWord = true := by decide +kernel
theorem i_f_X8_isReached_X8 : ∀ w ∈ wsX80, w ∈ v_f_X8_isReached := fun _ h => List.mem_cons_of_mem _ (List.mem_append_right _ (List.mem_append_left _ h))
theorem hd_X8_isReached : yX8_isReached.cls = RX8 ∧ yX8_isReached.cls ≠ "java/lang/invoke/MethodHandle" ∧ yX8_isReached.cls ≠ "java/lang/invoke/VarHandle" ∧ (parseMethodDescriptor yX8_isReached.desc).map (fun d => d.parameters.length) = some 0 := by decide +kernel
set_option maxHeartbeats 4000000 in
set_option maxRecDepth 100000 in
theorem f_X8_isReached (l : Launch) (E : EE) {a_ a_tape a_readPlace a_script a_scriptLong a_now a_refused a_shareX a_shareY a_askedRow a_kept a_aside a_spelled a_image : Nat} {c_thrown : Int32} {c_taped : Int32} {c_at : Int32} {c_part : Int32} {c_partFrom : Int32} {c_partNumber : Int32} {c_wrong : Int32} {c_partWord : Int64} {c_readLaw : Int32} {c_readBound : Int32} {c_readGoal : Int32} {c_readSites : Int32} {c_scripts : Int32} {c_sites : Int32} {c_asked : Int32} {c_outcome : Int32} {c_took : Int32} {c_acts : Int32} {c_drawn : Int64} {c_racer : Int32} {c_raced : Int32} {c_spelledMany : Int32} {c_hasImage : Int32} {c_now : Nat → Int32} {rr : Int32} (hF : F_X8_isReached c_now = some rr) : Met l yX8_isReached v_f_X8_isReached (({ frames := 0, cells := 0, slots := 0, locals := 0 } : Room)) (va_Pc [.ref a_] (pP E (w_X8_isReached E a_ a_tape a_readPlace a_script a_scriptLong a_now a_refused a_shareX a_shareY a_askedRow a_kept a_aside a_spelled a_image c_thrown c_taped c_at c_part c_partFrom c_partNumber c_wrong c_partWord c_readLaw c_readBound c_readGoal c_readSites c_scripts c_sites c_asked c_outcome c_took c_acts c_drawn c_racer c_raced c_spelledMany c_hasImage c_now))) (vp_Si (fun q : Int32 => q = rr ∧ (q = 0 ∨ q = 1))) 0 0 (fun _ => False) := by
  refine Met.ofW (cc := cX8_isReached) (maxL := 1) (ret := (some .boolean)) (by decide) rfl ?_
  intro p e s m args below meth c s₁ B hml hv
  obtain ⟨rfl, ⟨hK, hN⟩, hP⟩ := hv
  have hx := B.exec
  have hb := B.bytes
  have hr := B.returns
  have hts := atoms_spec (ws := v_f_X8_isReached) B.pre
  have hown : s.vm.findClass RX8 = some m.cls := own_of hd_X8_isReached.1 (findClass_of_methodNamed B.named)
  have hlocks : meth.locks = false := B.notSynchronized
  replace hP : va_P E.1 vwCl [(a_, .inr (9, [.int c_thrown, .ref a_tape, .int c_taped, .int c_at, .int c_part, .int c_partFrom, .int c_partNumber, .int c_wrong, .long c_partWord, .int c_readLaw, .int c_readBound, .int c_readGoal, .int c_readSites, .ref a_readPlace, .ref a_script, .ref a_scriptLong, .int c_scripts, .ref a_now, .ref a_refused, .int c_sites, .ref a_shareX, .ref a_shareY, .int c_asked, .int c_outcome, .ref a_askedRow, .int c_took, .ref a_kept, .int c_acts, .long c_drawn, .ref a_aside, .int c_racer, .int c_raced, .ref a_spelled, .int c_spelledMany, .ref a_image, .int c_hasImage])), (a_now, .inl (E.2.1, 265, .inl c_now))] s.heap := hP
  have hl := lv_entry ([.ref a_]) (n := 1) (Nat.le_of_ble_eq_true rfl)
  rw [lg_entry_eq]
  generalize (lg_sl ([.ref a_]) ++ List.replicate (1 - (lg_sl ([.ref a_])).length) Slot.unset).toArray = ls at hl ⊢
  have hl : lv_has ls 1 [(0, .ref a_)] := hl
  obtain ⟨Q, hQ⟩ : ∃ Q : State → Prop, Q = MQ below (vp_Si (fun q : Int32 => q = rr ∧ (q = 0 ∨ q = 1))) #[Value.ref a_] s 0 0 (fun _ => False) := ⟨_, rfl⟩
  rw [← hQ]
  change W p l e ({ frames := 0, cells := 0, slots := 0, locals := 0 } : Room) s m #[Value.ref a_] below meth c s.heap [] 0 0 Q (F0 m 0 ls [])
  unfold F_X8_isReached at hF
  refine lv_aload_n hx hb dX8_isReached_0 rfl (lv_at hl 0 rfl) ?_
  refine gt_X8_17 (v := .ref a_now) hx hb hts i_f_X8_isReached_X8 hown hK hP 0 rfl (hts (.fieldLink RX8 22 "HushWatchModel" "now" "[I") (List.mem_of_getElem? (i := 1) rfl)) rfl dX8_isReached_1 ?_
  refine lv_bipush (v := 73) hx hb dX8_isReached_4 (by decide) ?_
  refine va_iald hx hb hK hP 1 0 rfl rfl (vin rfl) dX8_isReached_6 ?_
  refine W.eq (g2 := F0 m 7 ls [.int (c_now 73)]) rfl ?_
  refine lv_aload_n hx hb dX8_isReached_7 rfl (lv_at hl 0 rfl) ?_
  refine gt_X8_17 (v := .ref a_now) hx hb hts i_f_X8_isReached_X8 hown hK hP 0 rfl (hts (.fieldLink RX8 22 "HushWatchModel" "now" "[I") (List.mem_of_getElem? (i := 1) rfl)) rfl dX8_isReached_8 ?_
  refine lv_bipush (v := 66) hx hb dX8_isReached_11 (by decide) ?_
  refine va_iald hx hb hK hP 1 0 rfl rfl (vin rfl) dX8_isReached_13 ?_
  refine W.eq (g2 := F0 m 14 ls [.int (c_now 66), .int (c_now 73)]) rfl ?_
  refine lv_icmp_lt (tgt := 21) hx hb dX8_isReached_14 (by decide) (fun c_1 => ?_) (fun c_1 => ?_)
  ·
    replace hF := ip c_1 hF
    refine lv_iconst (v := 0) hx hb dX8_isReached_21 (by decide) ?_
    rw [hQ]
    obtain e9_0 := inj1 hF
    exact W.zret (v := (0 : Int32)) hx hb hr rfl (fun tt ht hW => ⟨_, rfl, ⟨e9_0, Or.inl rfl⟩, ht⟩) (fun _ h => by cases h) dX8_isReached_22
  ·
    replace hF := inn c_1 hF
    refine lv_iconst (v := 1) hx hb dX8_isReached_17 (by decide) ?_
    refine lv_goto (tgt := 22) hx hb dX8_isReached_18 (by decide) ?_
    rw [hQ]
    obtain e9_0 := inj1 hF
    exact W.zret (v := (1 : Int32)) hx hb hr rfl (fun tt ht hW => ⟨_, rfl, ⟨e9_0, Or.inr rfl⟩, ht⟩) (fun _ h => by cases h) dX8_isReached_22

def F_X8_whyAdd (p1 : Int32) (p2 : Int32) (c_now : Nat → Int32) (c_sites : Int32) : Option (Int32) :=
  bd1 (F_X8_isSite p1 c_sites) (fun r_1 => if r_1 = (0 : Int32) then some (0 : Int32) else bd1 (F_X8_in p2.toInt64 (1 : Int64) (999 : Int64)) (fun r_5 => if r_5 = (0 : Int32) then some (1 : Int32) else ixF ((48 : Int32) + p1) 265 (if (c_now ((48 : Int32) + p1).toNatClampNeg) + p2 ≤ (99999 : Int32) then bd1 (F_X8_isReached c_now) (fun r_11 => if r_11 = (0 : Int32) then some (-1 : Int32) else some (2 : Int32)) else some (1 : Int32))))
abbrev w_X8_whyAdd (E : EE) (a_ a_tape a_readPlace a_script a_scriptLong a_now a_refused a_shareX a_shareY a_askedRow a_kept a_aside a_spelled a_image : Nat) (c_thrown : Int32) (c_taped : Int32) (c_at : Int32) (c_part : Int32) (c_partFrom : Int32) (c_partNumber : Int32) (c_wrong : Int32) (c_partWord : Int64) (c_readLaw : Int32) (c_readBound : Int32) (c_readGoal : Int32) (c_readSites : Int32) (c_scripts : Int32) (c_sites : Int32) (c_asked : Int32) (c_outcome : Int32) (c_took : Int32) (c_acts : Int32) (c_drawn : Int64) (c_racer : Int32) (c_raced : Int32) (c_spelledMany : Int32) (c_hasImage : Int32) (c_now : Nat → Int32) : va_W := [(a_, .inr (9, [.int c_thrown, .ref a_tape, .int c_taped, .int c_at, .int c_part, .int c_partFrom, .int c_partNumber, .int c_wrong, .long c_partWord, .int c_readLaw, .int c_readBound, .int c_readGoal, .int c_readSites, .ref a_readPlace, .ref a_script, .ref a_scriptLong, .int c_scripts, .ref a_now, .ref a_refused, .int c_sites, .ref a_shareX, .ref a_shareY, .int c_asked, .int c_outcome, .ref a_askedRow, .int c_took, .ref a_kept, .int c_acts, .long c_drawn, .ref a_aside, .int c_racer, .int c_raced, .ref a_spelled, .int c_spelledMany, .ref a_image, .int c_hasImage])), (a_now, .inl (E.2.1, 265, .inl c_now))]
def v_f_X8_whyAdd : List Cond := List.cons (.code yX8_whyAdd cX8_whyAdd 3 (some .int)) (HAppend.hAppend (α := List Cond) (β := List Cond) (γ := List Cond) [.constantLong RX8 289 (999), .fieldLink RX8 22 "HushWatchModel" "now" "[I", .constant RX8 291 (99999), .methodLink RX8 278 yX8_isSite, .instanceMethod yX8_isSite, .selects RX8 yX8_isSite yX8_isSite, .initialized RX8, .methodLink RX8 60 yX8_in, .static yX8_in, .methodLink RX8 292 yX8_isReached, .instanceMethod yX8_isReached, .selects RX8 yX8_isReached yX8_isReached] (HAppend.hAppend (α := List Cond) (β := List Cond) (γ := List Cond) v_f_X8_isSite (HAppend.hAppend (α := List Cond) (β := List Cond) (γ := List Cond) v_f_X8_in (HAppend.hAppend (α := List Cond) (β := List Cond) (γ := List Cond) wsX80 (HAppend.hAppend (α := List Cond) (β := List Cond) (γ := List Cond) v_f_X8_isReached [])))))
theorem gw_f_X8_whyAdd : v_f_X8_whyAdd.all goodWord = true := by decide +kernel
theorem i_f_X8_whyAdd_X8 : ∀ w ∈ wsX80, w ∈ v_f_X8_whyAdd := fun _ h => List.mem_cons_of_mem _ (List.mem_append_right _ (List.mem_append_right _ (List.mem_append_right _ (List.mem_append_left _ h))))
theorem g_f_X8_whyAdd_f_X8_isSite_278 : GoodIn v_f_X8_whyAdd (wsV RX8 278 RX8 yX8_isSite v_f_X8_isSite) := goodIn_app (goodIn_of _ (by decide +kernel)) (goodIn_sub (fun _ h => List.mem_cons_of_mem _ (List.mem_append_right _ (List.mem_append_left _ h))) gw_f_X8_isSite)
theorem g_f_X8_whyAdd_f_X8_in_60 : GoodIn v_f_X8_whyAdd (va_wsS RX8 60 yX8_in v_f_X8_in) := goodIn_app (goodIn_of _ (by decide +kernel)) (goodIn_sub (fun _ h => List.mem_cons_of_mem _ (List.mem_append_right _ (List.mem_append_right _ (List.mem_append_left _ h)))) gw_f_X8_in)
theorem g_f_X8_whyAdd_f_X8_isReached_292 : GoodIn v_f_X8_whyAdd (wsV RX8 292 RX8 yX8_isReached v_f_X8_isReached) := goodIn_app (goodIn_of _ (by decide +kernel)) (goodIn_sub (fun _ h => List.mem_cons_of_mem _ (List.mem_append_right _ (List.mem_append_right _ (List.mem_append_right _ (List.mem_append_right _ (List.mem_append_left _ h)))))) gw_f_X8_isReached)
theorem hd_X8_whyAdd : yX8_whyAdd.cls = RX8 ∧ yX8_whyAdd.cls ≠ "java/lang/invoke/MethodHandle" ∧ yX8_whyAdd.cls ≠ "java/lang/invoke/VarHandle" ∧ (parseMethodDescriptor yX8_whyAdd.desc).map (fun d => d.parameters.length) = some 2 := by decide +kernel
set_option maxHeartbeats 4000000 in
set_option maxRecDepth 100000 in
theorem f_X8_whyAdd (l : Launch) (E : EE) {a_ a_tape a_readPlace a_script a_scriptLong a_now a_refused a_shareX a_shareY a_askedRow a_kept a_aside a_spelled a_image : Nat} {p1 : Int32} {p2 : Int32} {c_thrown : Int32} {c_taped : Int32} {c_at : Int32} {c_part : Int32} {c_partFrom : Int32} {c_partNumber : Int32} {c_wrong : Int32} {c_partWord : Int64} {c_readLaw : Int32} {c_readBound : Int32} {c_readGoal : Int32} {c_readSites : Int32} {c_scripts : Int32} {c_sites : Int32} {c_asked : Int32} {c_outcome : Int32} {c_took : Int32} {c_acts : Int32} {c_drawn : Int64} {c_racer : Int32} {c_raced : Int32} {c_spelledMany : Int32} {c_hasImage : Int32} {c_now : Nat → Int32} {rr : Int32} (hF : F_X8_whyAdd p1 p2 c_now c_sites = some rr) : Met l yX8_whyAdd v_f_X8_whyAdd (({ frames := 2, cells := 0, slots := 0, locals := 46 } : Room)) (va_Pc [.ref a_, .int p1, .int p2] (pP E (w_X8_whyAdd E a_ a_tape a_readPlace a_script a_scriptLong a_now a_refused a_shareX a_shareY a_askedRow a_kept a_aside a_spelled a_image c_thrown c_taped c_at c_part c_partFrom c_partNumber c_wrong c_partWord c_readLaw c_readBound c_readGoal c_readSites c_scripts c_sites c_asked c_outcome c_took c_acts c_drawn c_racer c_raced c_spelledMany c_hasImage c_now))) (vp_Si (fun q : Int32 => q = rr)) 0 0 (fun _ => False) := by
  refine Met.ofW (cc := cX8_whyAdd) (maxL := 3) (ret := (some .int)) (by decide) rfl ?_
  intro p e s m args below meth c s₁ B hml hv
  obtain ⟨rfl, ⟨hK, hN⟩, hP⟩ := hv
  have hx := B.exec
  have hb := B.bytes
  have hr := B.returns
  have hts := atoms_spec (ws := v_f_X8_whyAdd) B.pre
  have hown : s.vm.findClass RX8 = some m.cls := own_of hd_X8_whyAdd.1 (findClass_of_methodNamed B.named)
  have hlocks : meth.locks = false := B.notSynchronized
  replace hP : va_P E.1 vwCl [(a_, .inr (9, [.int c_thrown, .ref a_tape, .int c_taped, .int c_at, .int c_part, .int c_partFrom, .int c_partNumber, .int c_wrong, .long c_partWord, .int c_readLaw, .int c_readBound, .int c_readGoal, .int c_readSites, .ref a_readPlace, .ref a_script, .ref a_scriptLong, .int c_scripts, .ref a_now, .ref a_refused, .int c_sites, .ref a_shareX, .ref a_shareY, .int c_asked, .int c_outcome, .ref a_askedRow, .int c_took, .ref a_kept, .int c_acts, .long c_drawn, .ref a_aside, .int c_racer, .int c_raced, .ref a_spelled, .int c_spelledMany, .ref a_image, .int c_hasImage])), (a_now, .inl (E.2.1, 265, .inl c_now))] s.heap := hP
  have hl := lv_entry ([.ref a_, .int p1, .int p2]) (n := 3) (Nat.le_of_ble_eq_true rfl)
  rw [lg_entry_eq]
  generalize (lg_sl ([.ref a_, .int p1, .int p2]) ++ List.replicate (3 - (lg_sl ([.ref a_, .int p1, .int p2])).length) Slot.unset).toArray = ls at hl ⊢
  have hl : lv_has ls 3 [(0, .ref a_), (1, .int p1), (2, .int p2)] := hl
  obtain ⟨Q, hQ⟩ : ∃ Q : State → Prop, Q = MQ below (vp_Si (fun q : Int32 => q = rr)) #[Value.ref a_, Value.int p1, Value.int p2] s 0 0 (fun _ => False) := ⟨_, rfl⟩
  rw [← hQ]
  change W p l e ({ frames := 2, cells := 0, slots := 0, locals := 46 } : Room) s m #[Value.ref a_, Value.int p1, Value.int p2] below meth c s.heap [] 0 0 Q (F0 m 0 ls [])
  unfold F_X8_whyAdd at hF
  refine lv_aload_n hx hb dX8_whyAdd_0 rfl (lv_at hl 0 rfl) ?_
  refine lv_iload_n hx hb dX8_whyAdd_1 rfl (lv_at hl 1 rfl) ?_
  replace hF := bd1_s hF
  obtain ⟨r_1, hc_2, hF⟩ := hF
  have hPc : va_P E.1 vwCl (w_X8_isSite E a_ a_tape a_readPlace a_script a_scriptLong a_now a_refused a_shareX a_shareY a_askedRow a_kept a_aside a_spelled a_image c_thrown c_taped c_at c_part c_partFrom c_partNumber c_wrong c_partWord c_readLaw c_readBound c_readGoal c_readSites c_scripts c_sites c_asked c_outcome c_took c_acts c_drawn c_racer c_raced c_spelledMany c_hasImage) s.heap := hP.sub (ws' := [(a_, .inr (9, [.int c_thrown, .ref a_tape, .int c_taped, .int c_at, .int c_part, .int c_partFrom, .int c_partNumber, .int c_wrong, .long c_partWord, .int c_readLaw, .int c_readBound, .int c_readGoal, .int c_readSites, .ref a_readPlace, .ref a_script, .ref a_scriptLong, .int c_scripts, .ref a_now, .ref a_refused, .int c_sites, .ref a_shareX, .ref a_shareY, .int c_asked, .int c_outcome, .ref a_askedRow, .int c_took, .ref a_kept, .int c_acts, .long c_drawn, .ref a_aside, .int c_racer, .int c_raced, .ref a_spelled, .int c_spelledMany, .ref a_image, .int c_hasImage]))]) [0] rfl
  have hrc := va_recv hK hPc (ci := 9) (q0 := 0) rfl rfl
  refine pE_z (va_runV (As := [.int p1]) (rest := [])  ⟨hx, hb, hml, hown, hts⟩ (f_X8_isSite l E (a_ := a_) (a_tape := a_tape) (a_readPlace := a_readPlace) (a_script := a_script) (a_scriptLong := a_scriptLong) (a_now := a_now) (a_refused := a_refused) (a_shareX := a_shareX) (a_shareY := a_shareY) (a_askedRow := a_askedRow) (a_kept := a_kept) (a_aside := a_aside) (a_spelled := a_spelled) (a_image := a_image) (p1 := p1) (c_thrown := c_thrown) (c_taped := c_taped) (c_at := c_at) (c_part := c_part) (c_partFrom := c_partFrom) (c_partNumber := c_partNumber) (c_wrong := c_wrong) (c_partWord := c_partWord) (c_readLaw := c_readLaw) (c_readBound := c_readBound) (c_readGoal := c_readGoal) (c_readSites := c_readSites) (c_scripts := c_scripts) (c_sites := c_sites) (c_asked := c_asked) (c_outcome := c_outcome) (c_took := c_took) (c_acts := c_acts) (c_drawn := c_drawn) (c_racer := c_racer) (c_raced := c_raced) (c_spelledMany := c_spelledMany) (c_hasImage := c_hasImage) hc_2) (cwV 1 hts g_f_X8_whyAdd_f_X8_isSite_278 rfl rfl rfl hd_X8_isSite ⟨Nat.le_of_ble_eq_true rfl, Nat.le_of_ble_eq_true rfl⟩) ⟨pP.blind, hrc, (pP.pre ⟨hK, hN⟩ hPc)⟩ rfl rfl hl.1 rfl (lv_room (Nat.le_of_ble_eq_true rfl)) dX8_whyAdd_2 ⟨Nat.le_of_ble_eq_true rfl, Nat.le_of_ble_eq_true rfl⟩) (fun hb_3 => ?_)
  refine lv_if_ne (tgt := 10) hx hb dX8_whyAdd_5 (by decide) (fun c_4 => ?_) (fun c_4 => ?_)
  ·
    replace hF := inn c_4 hF
    refine lv_iload_n hx hb dX8_whyAdd_10 rfl (lv_at hl 2 rfl) ?_
    refine lv_i2l (v := p2.toInt64) hx hb dX8_whyAdd_11 rfl ?_
    refine lv_lconst (v := 1) hx hb dX8_whyAdd_12 (by decide) ?_
    refine lv_ldc2 (v := 999) hx hb hown (hts (.constantLong RX8 289 (999)) (List.mem_of_getElem? (i := 1) rfl)) dX8_whyAdd_13 ?_
    replace hF := bd1_s hF
    obtain ⟨r_5, hc_6, hF⟩ := hF
    have hPc : va_P E.1 vwCl [] s.heap := fun k q h => by simp at h
    refine pE_z (va_runS (As := [.long p2.toInt64, .long (1 : Int64), .long (999 : Int64)]) (rest := [])  ⟨hx, hb, hml, hown, hts⟩ (f_X8_in l E (p0 := p2.toInt64) (p1 := (1 : Int64)) (p2 := (999 : Int64)) hc_6) (va_cwS 3 hts g_f_X8_whyAdd_f_X8_in_60 rfl rfl rfl hd_X8_in.2 ⟨Nat.le_of_ble_eq_true rfl, Nat.le_of_ble_eq_true rfl⟩) ⟨pP.blind, (pP.pre ⟨hK, hN⟩ hPc)⟩ rfl rfl hl.1 rfl (lv_room (Nat.le_of_ble_eq_true rfl)) dX8_whyAdd_16 ⟨Nat.le_of_ble_eq_true rfl, Nat.le_of_ble_eq_true rfl⟩) (fun hb_7 => ?_)
    refine lv_if_eq (tgt := 39) hx hb dX8_whyAdd_19 (by decide) (fun c_8 => ?_) (fun c_8 => ?_)
    ·
      replace hF := ip c_8 hF
      refine lv_iconst (v := 1) hx hb dX8_whyAdd_39 (by decide) ?_
      refine lv_goto (tgt := 55) hx hb dX8_whyAdd_40 (by decide) ?_
      rw [hQ]
      obtain e9_0 := inj1 hF
      exact W.iret (v := (1 : Int32)) hx hb hr (fun tt ht hW => ⟨_, rfl, e9_0, ht⟩) (fun _ h => by cases h) dX8_whyAdd_55
    ·
      replace hF := inn c_8 hF
      refine lv_aload_n hx hb dX8_whyAdd_22 rfl (lv_at hl 0 rfl) ?_
      refine gt_X8_17 (v := .ref a_now) hx hb hts i_f_X8_whyAdd_X8 hown hK hP 0 rfl (hts (.fieldLink RX8 22 "HushWatchModel" "now" "[I") (List.mem_of_getElem? (i := 2) rfl)) rfl dX8_whyAdd_23 ?_
      refine lv_bipush (v := 48) hx hb dX8_whyAdd_26 (by decide) ?_
      refine lv_iload_n hx hb dX8_whyAdd_28 rfl (lv_at hl 1 rfl) ?_
      refine lv_iadd hx hb dX8_whyAdd_29 ?_
      replace hF := ix_s hF
      obtain ⟨hi_9, hF⟩ := hF
      refine va_iald hx hb hK hP 1 0 rfl rfl hi_9 dX8_whyAdd_30 ?_
      refine lv_iload_n hx hb dX8_whyAdd_31 rfl (lv_at hl 2 rfl) ?_
      refine lv_iadd hx hb dX8_whyAdd_32 ?_
      refine lv_ldcw (v := 99999) hx hb hown (hts (.constant RX8 291 (99999)) (List.mem_of_getElem? (i := 3) rfl)) dX8_whyAdd_33 ?_
      refine lv_icmp_le (tgt := 43) hx hb dX8_whyAdd_36 (by decide) (fun c_10 => ?_) (fun c_10 => ?_)
      ·
        replace hF := ip c_10 hF
        refine lv_aload_n hx hb dX8_whyAdd_43 rfl (lv_at hl 0 rfl) ?_
        replace hF := bd1_s hF
        obtain ⟨r_11, hc_12, hF⟩ := hF
        have hPc : va_P E.1 vwCl (w_X8_isReached E a_ a_tape a_readPlace a_script a_scriptLong a_now a_refused a_shareX a_shareY a_askedRow a_kept a_aside a_spelled a_image c_thrown c_taped c_at c_part c_partFrom c_partNumber c_wrong c_partWord c_readLaw c_readBound c_readGoal c_readSites c_scripts c_sites c_asked c_outcome c_took c_acts c_drawn c_racer c_raced c_spelledMany c_hasImage c_now) s.heap := hP.sub (ws' := [(a_, .inr (9, [.int c_thrown, .ref a_tape, .int c_taped, .int c_at, .int c_part, .int c_partFrom, .int c_partNumber, .int c_wrong, .long c_partWord, .int c_readLaw, .int c_readBound, .int c_readGoal, .int c_readSites, .ref a_readPlace, .ref a_script, .ref a_scriptLong, .int c_scripts, .ref a_now, .ref a_refused, .int c_sites, .ref a_shareX, .ref a_shareY, .int c_asked, .int c_outcome, .ref a_askedRow, .int c_took, .ref a_kept, .int c_acts, .long c_drawn, .ref a_aside, .int c_racer, .int c_raced, .ref a_spelled, .int c_spelledMany, .ref a_image, .int c_hasImage])), (a_now, .inl (E.2.1, 265, .inl c_now))]) [0, 1] rfl
        have hrc := va_recv hK hPc (ci := 9) (q0 := 0) rfl rfl
        refine pE_z (va_runV (As := []) (rest := [])  ⟨hx, hb, hml, hown, hts⟩ (f_X8_isReached l E (a_ := a_) (a_tape := a_tape) (a_readPlace := a_readPlace) (a_script := a_script) (a_scriptLong := a_scriptLong) (a_now := a_now) (a_refused := a_refused) (a_shareX := a_shareX) (a_shareY := a_shareY) (a_askedRow := a_askedRow) (a_kept := a_kept) (a_aside := a_aside) (a_spelled := a_spelled) (a_image := a_image) (c_thrown := c_thrown) (c_taped := c_taped) (c_at := c_at) (c_part := c_part) (c_partFrom := c_partFrom) (c_partNumber := c_partNumber) (c_wrong := c_wrong) (c_partWord := c_partWord) (c_readLaw := c_readLaw) (c_readBound := c_readBound) (c_readGoal := c_readGoal) (c_readSites := c_readSites) (c_scripts := c_scripts) (c_sites := c_sites) (c_asked := c_asked) (c_outcome := c_outcome) (c_took := c_took) (c_acts := c_acts) (c_drawn := c_drawn) (c_racer := c_racer) (c_raced := c_raced) (c_spelledMany := c_spelledMany) (c_hasImage := c_hasImage) (c_now := c_now) hc_12) (cwV 0 hts g_f_X8_whyAdd_f_X8_isReached_292 rfl rfl rfl hd_X8_isReached ⟨Nat.le_of_ble_eq_true rfl, Nat.le_of_ble_eq_true rfl⟩) ⟨pP.blind, hrc, (pP.pre ⟨hK, hN⟩ hPc)⟩ rfl rfl hl.1 rfl (lv_room (Nat.le_of_ble_eq_true rfl)) dX8_whyAdd_44 ⟨Nat.le_of_ble_eq_true rfl, Nat.le_of_ble_eq_true rfl⟩) (fun hb_13 => ?_)
        refine lv_if_eq (tgt := 54) hx hb dX8_whyAdd_47 (by decide) (fun c_14 => ?_) (fun c_14 => ?_)
        ·
          replace hF := ip c_14 hF
          refine lv_iconst (v := -1) hx hb dX8_whyAdd_54 (by decide) ?_
          rw [hQ]
          obtain e9_0 := inj1 hF
          exact W.iret (v := (-1 : Int32)) hx hb hr (fun tt ht hW => ⟨_, rfl, e9_0, ht⟩) (fun _ h => by cases h) dX8_whyAdd_55
        ·
          replace hF := inn c_14 hF
          refine lv_iconst (v := 2) hx hb dX8_whyAdd_50 (by decide) ?_
          refine lv_goto (tgt := 55) hx hb dX8_whyAdd_51 (by decide) ?_
          rw [hQ]
          obtain e9_0 := inj1 hF
          exact W.iret (v := (2 : Int32)) hx hb hr (fun tt ht hW => ⟨_, rfl, e9_0, ht⟩) (fun _ h => by cases h) dX8_whyAdd_55
      ·
        replace hF := inn c_10 hF
        refine lv_iconst (v := 1) hx hb dX8_whyAdd_39 (by decide) ?_
        refine lv_goto (tgt := 55) hx hb dX8_whyAdd_40 (by decide) ?_
        rw [hQ]
        obtain e9_0 := inj1 hF
        exact W.iret (v := (1 : Int32)) hx hb hr (fun tt ht hW => ⟨_, rfl, e9_0, ht⟩) (fun _ h => by cases h) dX8_whyAdd_55
  ·
    replace hF := ip c_4 hF
    refine lv_iconst (v := 0) hx hb dX8_whyAdd_8 (by decide) ?_
    rw [hQ]
    obtain e9_0 := inj1 hF
    exact W.iret (v := (0 : Int32)) hx hb hr (fun tt ht hW => ⟨_, rfl, e9_0, ht⟩) (fun _ h => by cases h) dX8_whyAdd_9

def B_X8_frozenOnes_4 (c_sites : Int32) (c_now : Nat → Int32) (x1 : Int32) (x2 : Int32) : Option ((Int32 × Int32) ⊕ (Int32)) :=
  if c_sites ≤ x2 then some (.inr x1) else bd1 (F_X8_isFrozen x2 c_now) (fun r_2 => if r_2 = (0 : Int32) then some (.inl (x1 ||| (0 : Int32), x2 + (1 : Int32))) else some (.inl (x1 ||| ((1 : Int32) <<< (x2 &&& (31 : Int32))), x2 + (1 : Int32))))
def F_X8_frozenOnes (K : Nat) (c_now : Nat → Int32) (c_sites : Int32) : Option (Int32) :=
  bd1 (lpF (fun u9 : Int32 × Int32 => B_X8_frozenOnes_4 c_sites c_now u9.1 u9.2) K ((0 : Int32), (0 : Int32))) (fun x1_6 => some x1_6)
abbrev w_X8_frozenOnes (E : EE) (a_ a_tape a_readPlace a_script a_scriptLong a_now a_refused a_shareX a_shareY a_askedRow a_kept a_aside a_spelled a_image : Nat) (c_thrown : Int32) (c_taped : Int32) (c_at : Int32) (c_part : Int32) (c_partFrom : Int32) (c_partNumber : Int32) (c_wrong : Int32) (c_partWord : Int64) (c_readLaw : Int32) (c_readBound : Int32) (c_readGoal : Int32) (c_readSites : Int32) (c_scripts : Int32) (c_sites : Int32) (c_asked : Int32) (c_outcome : Int32) (c_took : Int32) (c_acts : Int32) (c_drawn : Int64) (c_racer : Int32) (c_raced : Int32) (c_spelledMany : Int32) (c_hasImage : Int32) (c_now : Nat → Int32) : va_W := [(a_, .inr (9, [.int c_thrown, .ref a_tape, .int c_taped, .int c_at, .int c_part, .int c_partFrom, .int c_partNumber, .int c_wrong, .long c_partWord, .int c_readLaw, .int c_readBound, .int c_readGoal, .int c_readSites, .ref a_readPlace, .ref a_script, .ref a_scriptLong, .int c_scripts, .ref a_now, .ref a_refused, .int c_sites, .ref a_shareX, .ref a_shareY, .int c_asked, .int c_outcome, .ref a_askedRow, .int c_took, .ref a_kept, .int c_acts, .long c_drawn, .ref a_aside, .int c_racer, .int c_raced, .ref a_spelled, .int c_spelledMany, .ref a_image, .int c_hasImage])), (a_now, .inl (E.2.1, 265, .inl c_now))]
def v_f_X8_frozenOnes : List Cond := List.cons (.code yX8_frozenOnes cX8_frozenOnes 3 (some .int)) (HAppend.hAppend (α := List Cond) (β := List Cond) (γ := List Cond) [.fieldLink RX8 196 "HushWatchModel" "sites" "I", .methodLink RX8 257 yX8_isFrozen, .instanceMethod yX8_isFrozen, .selects RX8 yX8_isFrozen yX8_isFrozen, .initialized RX8] (HAppend.hAppend (α := List Cond) (β := List Cond) (γ := List Cond) wsX80 (HAppend.hAppend (α := List Cond) (β := List Cond) (γ := List Cond) v_f_X8_isFrozen [])))
theorem gw_f_X8_frozenOnes : v_f_X8_frozenOnes.all goodWord = true := by decide +kernel
theorem i_f_X8_frozenOnes_X8 : ∀ w ∈ wsX80, w ∈ v_f_X8_frozenOnes := fun _ h => List.mem_cons_of_mem _ (List.mem_append_right _ (List.mem_append_left _ h))
theorem g_f_X8_frozenOnes_f_X8_isFrozen_257 : GoodIn v_f_X8_frozenOnes (wsV RX8 257 RX8 yX8_isFrozen v_f_X8_isFrozen) := goodIn_app (goodIn_of _ (by decide +kernel)) (goodIn_sub (fun _ h => List.mem_cons_of_mem _ (List.mem_append_right _ (List.mem_append_right _ (List.mem_append_left _ h)))) gw_f_X8_isFrozen)
theorem hd_X8_frozenOnes : yX8_frozenOnes.cls = RX8 ∧ yX8_frozenOnes.cls ≠ "java/lang/invoke/MethodHandle" ∧ yX8_frozenOnes.cls ≠ "java/lang/invoke/VarHandle" ∧ (parseMethodDescriptor yX8_frozenOnes.desc).map (fun d => d.parameters.length) = some 0 := by decide +kernel
set_option maxHeartbeats 4000000 in
set_option maxRecDepth 100000 in
theorem wb_X8_frozenOnes_4 {p : Program} (l : Launch) {e : Env} {s : State} {m : MethodId} {below : List Frame} {meth : Method} {c : Code} {Q : State → Prop} (E : EE) (K : Nat) {a_ a_tape a_readPlace a_script a_scriptLong a_now a_refused a_shareX a_shareY a_askedRow a_kept a_aside a_spelled a_image : Nat} {c_thrown : Int32} {c_taped : Int32} {c_at : Int32} {c_part : Int32} {c_partFrom : Int32} {c_partNumber : Int32} {c_wrong : Int32} {c_partWord : Int64} {c_readLaw : Int32} {c_readBound : Int32} {c_readGoal : Int32} {c_readSites : Int32} {c_scripts : Int32} {c_sites : Int32} {c_asked : Int32} {c_outcome : Int32} {c_took : Int32} {c_acts : Int32} {c_drawn : Int64} {c_racer : Int32} {c_raced : Int32} {c_spelledMany : Int32} {c_hasImage : Int32} {c_now : Nat → Int32} {x1 : Int32} {x2 : Int32} (hx : p.tables.exec = Jvm.exec) (hb : c.code = cX8_frozenOnes) (hml : c.maxLocals = 3) (hown : s.vm.findClass RX8 = some m.cls) (hts : ∀ w ∈ v_f_X8_frozenOnes, w.before #[Value.ref a_] s = true) (hK : va_K E.1 vwCl (TY E) s) (hN : NX s) {xx : (Int32 × Int32) ⊕ (Int32)} (hC : ∀ (x1 : Int32), ∀ (x2 : Int32), xx = .inl (x1, x2) → ∀ (ls : Array Slot), lv_has ls 3 [(0, .ref a_), (1, .int x1), (2, .int x2)] → W p l e ({ frames := 1, cells := 0, slots := 0, locals := 21 } : Room) s m #[Value.ref a_] below meth c s.heap [] 0 0 Q (F0 m 4 ls [])) (hE : ∀ (x1 : Int32), xx = .inr x1 → ((∀ (ls : Array Slot), lv_has ls 3 [(1, .int x1)] → W p l e ({ frames := 1, cells := 0, slots := 0, locals := 21 } : Room) s m #[Value.ref a_] below meth c s.heap [] 0 0 Q (F0 m 36 ls [])))) (hF : B_X8_frozenOnes_4 c_sites c_now x1 x2 = some xx) (hP : va_P E.1 vwCl (w_X8_frozenOnes E a_ a_tape a_readPlace a_script a_scriptLong a_now a_refused a_shareX a_shareY a_askedRow a_kept a_aside a_spelled a_image c_thrown c_taped c_at c_part c_partFrom c_partNumber c_wrong c_partWord c_readLaw c_readBound c_readGoal c_readSites c_scripts c_sites c_asked c_outcome c_took c_acts c_drawn c_racer c_raced c_spelledMany c_hasImage c_now) s.heap) : ∀ (ls : Array Slot), lv_has ls 3 [(0, .ref a_), (1, .int x1), (2, .int x2)] → W p l e ({ frames := 1, cells := 0, slots := 0, locals := 21 } : Room) s m #[Value.ref a_] below meth c s.heap [] 0 0 Q (F0 m 4 ls []) := by
  unfold B_X8_frozenOnes_4 at hF
  replace hP : va_P E.1 vwCl [(a_, .inr (9, [.int c_thrown, .ref a_tape, .int c_taped, .int c_at, .int c_part, .int c_partFrom, .int c_partNumber, .int c_wrong, .long c_partWord, .int c_readLaw, .int c_readBound, .int c_readGoal, .int c_readSites, .ref a_readPlace, .ref a_script, .ref a_scriptLong, .int c_scripts, .ref a_now, .ref a_refused, .int c_sites, .ref a_shareX, .ref a_shareY, .int c_asked, .int c_outcome, .ref a_askedRow, .int c_took, .ref a_kept, .int c_acts, .long c_drawn, .ref a_aside, .int c_racer, .int c_raced, .ref a_spelled, .int c_spelledMany, .ref a_image, .int c_hasImage])), (a_now, .inl (E.2.1, 265, .inl c_now))] s.heap := hP
  intro ls hl
  refine lv_iload_n hx hb dX8_frozenOnes_4 rfl (lv_at hl 2 rfl) ?_
  refine lv_aload_n hx hb dX8_frozenOnes_5 rfl (lv_at hl 0 rfl) ?_
  refine gt_X8_19 (v := .int c_sites) hx hb hts i_f_X8_frozenOnes_X8 hown hK hP 0 rfl (hts (.fieldLink RX8 196 "HushWatchModel" "sites" "I") (List.mem_of_getElem? (i := 1) rfl)) rfl dX8_frozenOnes_6 ?_
  refine lv_icmp_ge (tgt := 36) hx hb dX8_frozenOnes_9 (by decide) (fun c_1 => ?_) (fun c_1 => ?_)
  ·
    replace hF := ip c_1 hF
    cases hF
    exact hE x1 rfl ls (lv_sub hl [1] rfl)
  ·
    replace hF := inn c_1 hF
    refine lv_iload_n hx hb dX8_frozenOnes_12 rfl (lv_at hl 1 rfl) ?_
    refine lv_aload_n hx hb dX8_frozenOnes_13 rfl (lv_at hl 0 rfl) ?_
    refine lv_iload_n hx hb dX8_frozenOnes_14 rfl (lv_at hl 2 rfl) ?_
    replace hF := bd1_s hF
    obtain ⟨r_2, hc_3, hF⟩ := hF
    have hPc : va_P E.1 vwCl (w_X8_isFrozen E a_ a_tape a_readPlace a_script a_scriptLong a_now a_refused a_shareX a_shareY a_askedRow a_kept a_aside a_spelled a_image c_thrown c_taped c_at c_part c_partFrom c_partNumber c_wrong c_partWord c_readLaw c_readBound c_readGoal c_readSites c_scripts c_sites c_asked c_outcome c_took c_acts c_drawn c_racer c_raced c_spelledMany c_hasImage c_now) s.heap := hP.sub (ws' := [(a_, .inr (9, [.int c_thrown, .ref a_tape, .int c_taped, .int c_at, .int c_part, .int c_partFrom, .int c_partNumber, .int c_wrong, .long c_partWord, .int c_readLaw, .int c_readBound, .int c_readGoal, .int c_readSites, .ref a_readPlace, .ref a_script, .ref a_scriptLong, .int c_scripts, .ref a_now, .ref a_refused, .int c_sites, .ref a_shareX, .ref a_shareY, .int c_asked, .int c_outcome, .ref a_askedRow, .int c_took, .ref a_kept, .int c_acts, .long c_drawn, .ref a_aside, .int c_racer, .int c_raced, .ref a_spelled, .int c_spelledMany, .ref a_image, .int c_hasImage])), (a_now, .inl (E.2.1, 265, .inl c_now))]) [0, 1] rfl
    have hrc := va_recv hK hPc (ci := 9) (q0 := 0) rfl rfl
    refine pE_z (va_runV (As := [.int x2]) (rest := [.int x1])  ⟨hx, hb, hml, hown, hts⟩ (f_X8_isFrozen l E (a_ := a_) (a_tape := a_tape) (a_readPlace := a_readPlace) (a_script := a_script) (a_scriptLong := a_scriptLong) (a_now := a_now) (a_refused := a_refused) (a_shareX := a_shareX) (a_shareY := a_shareY) (a_askedRow := a_askedRow) (a_kept := a_kept) (a_aside := a_aside) (a_spelled := a_spelled) (a_image := a_image) (p1 := x2) (c_thrown := c_thrown) (c_taped := c_taped) (c_at := c_at) (c_part := c_part) (c_partFrom := c_partFrom) (c_partNumber := c_partNumber) (c_wrong := c_wrong) (c_partWord := c_partWord) (c_readLaw := c_readLaw) (c_readBound := c_readBound) (c_readGoal := c_readGoal) (c_readSites := c_readSites) (c_scripts := c_scripts) (c_sites := c_sites) (c_asked := c_asked) (c_outcome := c_outcome) (c_took := c_took) (c_acts := c_acts) (c_drawn := c_drawn) (c_racer := c_racer) (c_raced := c_raced) (c_spelledMany := c_spelledMany) (c_hasImage := c_hasImage) (c_now := c_now) hc_3) (cwV 1 hts g_f_X8_frozenOnes_f_X8_isFrozen_257 rfl rfl rfl hd_X8_isFrozen ⟨Nat.le_of_ble_eq_true rfl, Nat.le_of_ble_eq_true rfl⟩) ⟨pP.blind, hrc, (pP.pre ⟨hK, hN⟩ hPc)⟩ rfl rfl hl.1 rfl (lv_room (Nat.le_of_ble_eq_true rfl)) dX8_frozenOnes_15 ⟨Nat.le_of_ble_eq_true rfl, Nat.le_of_ble_eq_true rfl⟩) (fun hb_4 => ?_)
    refine lv_if_eq (tgt := 27) hx hb dX8_frozenOnes_18 (by decide) (fun c_5 => ?_) (fun c_5 => ?_)
    ·
      replace hF := ip c_5 hF
      refine lv_iconst (v := 0) hx hb dX8_frozenOnes_27 (by decide) ?_
      refine lv_ior hx hb dX8_frozenOnes_28 ?_
      refine lv_istore_n (lv' := [(1, .int (x1 ||| (0 : Int32))), (0, .ref a_), (2, .int x2)]) hx hb dX8_frozenOnes_29 rfl hl (by decide) rfl (fun ls hl => ?_)
      refine lv_iinc (v := x2 + (1 : Int32)) (lv' := [(2, .int (x2 + (1 : Int32))), (1, .int (x1 ||| (0 : Int32))), (0, .ref a_)]) hx hb dX8_frozenOnes_30 hl (k := 2) rfl (rfl) (by decide) rfl (fun ls hl => ?_)
      refine lv_goto (tgt := 4) hx hb dX8_frozenOnes_33 (by decide) ?_
      cases hF
      exact hC (x1 ||| (0 : Int32)) (x2 + (1 : Int32)) rfl ls (lv_sub hl [2, 1, 0] rfl)
    ·
      replace hF := inn c_5 hF
      refine lv_iconst (v := 1) hx hb dX8_frozenOnes_21 (by decide) ?_
      refine lv_iload_n hx hb dX8_frozenOnes_22 rfl (lv_at hl 2 rfl) ?_
      refine lv_ishl hx hb dX8_frozenOnes_23 ?_
      refine lv_goto (tgt := 28) hx hb dX8_frozenOnes_24 (by decide) ?_
      refine lv_ior hx hb dX8_frozenOnes_28 ?_
      refine lv_istore_n (lv' := [(1, .int (x1 ||| ((1 : Int32) <<< (x2 &&& (31 : Int32))))), (0, .ref a_), (2, .int x2)]) hx hb dX8_frozenOnes_29 rfl hl (by decide) rfl (fun ls hl => ?_)
      refine lv_iinc (v := x2 + (1 : Int32)) (lv' := [(2, .int (x2 + (1 : Int32))), (1, .int (x1 ||| ((1 : Int32) <<< (x2 &&& (31 : Int32))))), (0, .ref a_)]) hx hb dX8_frozenOnes_30 hl (k := 2) rfl (rfl) (by decide) rfl (fun ls hl => ?_)
      refine lv_goto (tgt := 4) hx hb dX8_frozenOnes_33 (by decide) ?_
      cases hF
      exact hC (x1 ||| ((1 : Int32) <<< (x2 &&& (31 : Int32)))) (x2 + (1 : Int32)) rfl ls (lv_sub hl [2, 1, 0] rfl)

set_option maxHeartbeats 4000000 in
set_option maxRecDepth 100000 in
theorem lw_X8_frozenOnes_4 {p : Program} (l : Launch) {e : Env} {s : State} {m : MethodId} {below : List Frame} {meth : Method} {c : Code} {Q : State → Prop} (E : EE) (K : Nat) {a_ a_tape a_readPlace a_script a_scriptLong a_now a_refused a_shareX a_shareY a_askedRow a_kept a_aside a_spelled a_image : Nat} {c_thrown : Int32} {c_taped : Int32} {c_at : Int32} {c_part : Int32} {c_partFrom : Int32} {c_partNumber : Int32} {c_wrong : Int32} {c_partWord : Int64} {c_readLaw : Int32} {c_readBound : Int32} {c_readGoal : Int32} {c_readSites : Int32} {c_scripts : Int32} {c_sites : Int32} {c_asked : Int32} {c_outcome : Int32} {c_took : Int32} {c_acts : Int32} {c_drawn : Int64} {c_racer : Int32} {c_raced : Int32} {c_spelledMany : Int32} {c_hasImage : Int32} {c_now : Nat → Int32} (hx : p.tables.exec = Jvm.exec) (hb : c.code = cX8_frozenOnes) (hml : c.maxLocals = 3) (hown : s.vm.findClass RX8 = some m.cls) (hts : ∀ w ∈ v_f_X8_frozenOnes, w.before #[Value.ref a_] s = true) (hK : va_K E.1 vwCl (TY E) s) (hN : NX s) (hP : va_P E.1 vwCl (w_X8_frozenOnes E a_ a_tape a_readPlace a_script a_scriptLong a_now a_refused a_shareX a_shareY a_askedRow a_kept a_aside a_spelled a_image c_thrown c_taped c_at c_part c_partFrom c_partNumber c_wrong c_partWord c_readLaw c_readBound c_readGoal c_readSites c_scripts c_sites c_asked c_outcome c_took c_acts c_drawn c_racer c_raced c_spelledMany c_hasImage c_now) s.heap) (j9 : Nat) (x1 : Int32) (x2 : Int32) (x1' : Int32) (hL : lpF (fun u9 : Int32 × Int32 => B_X8_frozenOnes_4 c_sites c_now u9.1 u9.2) j9 (x1, x2) = some x1') (hX : (∀ (ls : Array Slot), lv_has ls 3 [(1, .int x1')] → W p l e ({ frames := 1, cells := 0, slots := 0, locals := 21 } : Room) s m #[Value.ref a_] below meth c s.heap [] 0 0 Q (F0 m 36 ls []))) : ∀ (ls : Array Slot), lv_has ls 3 [(0, .ref a_), (1, .int x1), (2, .int x2)] → W p l e ({ frames := 1, cells := 0, slots := 0, locals := 21 } : Room) s m #[Value.ref a_] below meth c s.heap [] 0 0 Q (F0 m 4 ls []) := by
  exact lp_rule (P := (fun u9 : Int32 × Int32 => ∀ (ls : Array Slot), lv_has ls 3 [(0, .ref a_), (1, .int u9.1), (2, .int u9.2)] → W p l e ({ frames := 1, cells := 0, slots := 0, locals := 21 } : Room) s m #[Value.ref a_] below meth c s.heap [] 0 0 Q (F0 m 4 ls []))) (R := (fun r9 : Int32 => (∀ (ls : Array Slot), lv_has ls 3 [(1, .int r9)] → W p l e ({ frames := 1, cells := 0, slots := 0, locals := 21 } : Room) s m #[Value.ref a_] below meth c s.heap [] 0 0 Q (F0 m 36 ls [])))) (fun u9 xx hF hC hE => wb_X8_frozenOnes_4 l E K (c_thrown := c_thrown) (c_taped := c_taped) (c_at := c_at) (c_part := c_part) (c_partFrom := c_partFrom) (c_partNumber := c_partNumber) (c_wrong := c_wrong) (c_partWord := c_partWord) (c_readLaw := c_readLaw) (c_readBound := c_readBound) (c_readGoal := c_readGoal) (c_readSites := c_readSites) (c_scripts := c_scripts) (c_sites := c_sites) (c_asked := c_asked) (c_outcome := c_outcome) (c_took := c_took) (c_acts := c_acts) (c_drawn := c_drawn) (c_racer := c_racer) (c_raced := c_raced) (c_spelledMany := c_spelledMany) (c_hasImage := c_hasImage) (c_now := c_now) (x1 := u9.1) (x2 := u9.2) hx hb hml hown hts hK hN (fun x1 x2 q9 => hC _ q9) (fun x1 q9 => hE _ q9) hF hP) j9 (x1, x2) x1' hL hX

set_option maxHeartbeats 4000000 in
set_option maxRecDepth 100000 in
theorem f_X8_frozenOnes (l : Launch) (E : EE) (K : Nat) {a_ a_tape a_readPlace a_script a_scriptLong a_now a_refused a_shareX a_shareY a_askedRow a_kept a_aside a_spelled a_image : Nat} {c_thrown : Int32} {c_taped : Int32} {c_at : Int32} {c_part : Int32} {c_partFrom : Int32} {c_partNumber : Int32} {c_wrong : Int32} {c_partWord : Int64} {c_readLaw : Int32} {c_readBound : Int32} {c_readGoal : Int32} {c_readSites : Int32} {c_scripts : Int32} {c_sites : Int32} {c_asked : Int32} {c_outcome : Int32} {c_took : Int32} {c_acts : Int32} {c_drawn : Int64} {c_racer : Int32} {c_raced : Int32} {c_spelledMany : Int32} {c_hasImage : Int32} {c_now : Nat → Int32} {rr : Int32} (hF : F_X8_frozenOnes K c_now c_sites = some rr) : Met l yX8_frozenOnes v_f_X8_frozenOnes (({ frames := 1, cells := 0, slots := 0, locals := 21 } : Room)) (va_Pc [.ref a_] (pP E (w_X8_frozenOnes E a_ a_tape a_readPlace a_script a_scriptLong a_now a_refused a_shareX a_shareY a_askedRow a_kept a_aside a_spelled a_image c_thrown c_taped c_at c_part c_partFrom c_partNumber c_wrong c_partWord c_readLaw c_readBound c_readGoal c_readSites c_scripts c_sites c_asked c_outcome c_took c_acts c_drawn c_racer c_raced c_spelledMany c_hasImage c_now))) (vp_Si (fun q : Int32 => q = rr)) 0 0 (fun _ => False) := by
  refine Met.ofW (cc := cX8_frozenOnes) (maxL := 3) (ret := (some .int)) (by decide) rfl ?_
  intro p e s m args below meth c s₁ B hml hv
  obtain ⟨rfl, ⟨hK, hN⟩, hP⟩ := hv
  have hx := B.exec
  have hb := B.bytes
  have hr := B.returns
  have hts := atoms_spec (ws := v_f_X8_frozenOnes) B.pre
  have hown : s.vm.findClass RX8 = some m.cls := own_of hd_X8_frozenOnes.1 (findClass_of_methodNamed B.named)
  have hlocks : meth.locks = false := B.notSynchronized
  replace hP : va_P E.1 vwCl [(a_, .inr (9, [.int c_thrown, .ref a_tape, .int c_taped, .int c_at, .int c_part, .int c_partFrom, .int c_partNumber, .int c_wrong, .long c_partWord, .int c_readLaw, .int c_readBound, .int c_readGoal, .int c_readSites, .ref a_readPlace, .ref a_script, .ref a_scriptLong, .int c_scripts, .ref a_now, .ref a_refused, .int c_sites, .ref a_shareX, .ref a_shareY, .int c_asked, .int c_outcome, .ref a_askedRow, .int c_took, .ref a_kept, .int c_acts, .long c_drawn, .ref a_aside, .int c_racer, .int c_raced, .ref a_spelled, .int c_spelledMany, .ref a_image, .int c_hasImage])), (a_now, .inl (E.2.1, 265, .inl c_now))] s.heap := hP
  have hl := lv_entry ([.ref a_]) (n := 3) (Nat.le_of_ble_eq_true rfl)
  rw [lg_entry_eq]
  generalize (lg_sl ([.ref a_]) ++ List.replicate (3 - (lg_sl ([.ref a_])).length) Slot.unset).toArray = ls at hl ⊢
  have hl : lv_has ls 3 [(0, .ref a_)] := hl
  obtain ⟨Q, hQ⟩ : ∃ Q : State → Prop, Q = MQ below (vp_Si (fun q : Int32 => q = rr)) #[Value.ref a_] s 0 0 (fun _ => False) := ⟨_, rfl⟩
  rw [← hQ]
  change W p l e ({ frames := 1, cells := 0, slots := 0, locals := 21 } : Room) s m #[Value.ref a_] below meth c s.heap [] 0 0 Q (F0 m 0 ls [])
  unfold F_X8_frozenOnes at hF
  refine lv_iconst (v := 0) hx hb dX8_frozenOnes_0 (by decide) ?_
  refine lv_istore_n (lv' := [(1, .int (0 : Int32)), (0, .ref a_)]) hx hb dX8_frozenOnes_1 rfl hl (by decide) rfl (fun ls hl => ?_)
  refine lv_iconst (v := 0) hx hb dX8_frozenOnes_2 (by decide) ?_
  refine lv_istore_n (lv' := [(2, .int (0 : Int32)), (1, .int (0 : Int32)), (0, .ref a_)]) hx hb dX8_frozenOnes_3 rfl hl (by decide) rfl (fun ls hl => ?_)
  replace hF := bd1_s hF
  obtain ⟨x1_6, hL_7, hF⟩ := hF
  refine lw_X8_frozenOnes_4 l E K (c_thrown := c_thrown) (c_taped := c_taped) (c_at := c_at) (c_part := c_part) (c_partFrom := c_partFrom) (c_partNumber := c_partNumber) (c_wrong := c_wrong) (c_partWord := c_partWord) (c_readLaw := c_readLaw) (c_readBound := c_readBound) (c_readGoal := c_readGoal) (c_readSites := c_readSites) (c_scripts := c_scripts) (c_sites := c_sites) (c_asked := c_asked) (c_outcome := c_outcome) (c_took := c_took) (c_acts := c_acts) (c_drawn := c_drawn) (c_racer := c_racer) (c_raced := c_raced) (c_spelledMany := c_spelledMany) (c_hasImage := c_hasImage) (c_now := c_now) hx hb hml hown hts hK hN hP K (0 : Int32) (0 : Int32) x1_6 hL_7 ?_ ls (lv_sub hl [2, 1, 0] rfl)
  ·
    intro ls hl
    refine lv_iload_n hx hb dX8_frozenOnes_36 rfl (lv_at hl 0 rfl) ?_
    rw [hQ]
    obtain e9_0 := inj1 hF
    exact W.iret (v := x1_6) hx hb hr (fun tt ht hW => ⟨_, rfl, e9_0, ht⟩) (fun _ h => by cases h) dX8_frozenOnes_37

def F_X8_whyFreeze (K : Nat) (p1 : Int32) (c_now : Nat → Int32) (c_sites : Int32) : Option (Int32) :=
  bd1 (F_X8_isSite p1 c_sites) (fun r_1 => if r_1 = (0 : Int32) then some (0 : Int32) else bd1 (F_X8_isFrozen p1 c_now) (fun r_5 => if r_5 = (0 : Int32) then bd1 (F_X8_frozenOnes K c_now c_sites) (fun r_9 => bd1 (F_X8_bits K r_9) (fun r_11 => if r_11 = c_sites - (1 : Int32) then some (2 : Int32) else some (-1 : Int32))) else some (-1 : Int32)))
abbrev w_X8_whyFreeze (E : EE) (a_ a_tape a_readPlace a_script a_scriptLong a_now a_refused a_shareX a_shareY a_askedRow a_kept a_aside a_spelled a_image : Nat) (c_thrown : Int32) (c_taped : Int32) (c_at : Int32) (c_part : Int32) (c_partFrom : Int32) (c_partNumber : Int32) (c_wrong : Int32) (c_partWord : Int64) (c_readLaw : Int32) (c_readBound : Int32) (c_readGoal : Int32) (c_readSites : Int32) (c_scripts : Int32) (c_sites : Int32) (c_asked : Int32) (c_outcome : Int32) (c_took : Int32) (c_acts : Int32) (c_drawn : Int64) (c_racer : Int32) (c_raced : Int32) (c_spelledMany : Int32) (c_hasImage : Int32) (c_now : Nat → Int32) : va_W := [(a_, .inr (9, [.int c_thrown, .ref a_tape, .int c_taped, .int c_at, .int c_part, .int c_partFrom, .int c_partNumber, .int c_wrong, .long c_partWord, .int c_readLaw, .int c_readBound, .int c_readGoal, .int c_readSites, .ref a_readPlace, .ref a_script, .ref a_scriptLong, .int c_scripts, .ref a_now, .ref a_refused, .int c_sites, .ref a_shareX, .ref a_shareY, .int c_asked, .int c_outcome, .ref a_askedRow, .int c_took, .ref a_kept, .int c_acts, .long c_drawn, .ref a_aside, .int c_racer, .int c_raced, .ref a_spelled, .int c_spelledMany, .ref a_image, .int c_hasImage])), (a_now, .inl (E.2.1, 265, .inl c_now))]
def v_f_X8_whyFreeze : List Cond := List.cons (.code yX8_whyFreeze cX8_whyFreeze 2 (some .int)) (HAppend.hAppend (α := List Cond) (β := List Cond) (γ := List Cond) [.fieldLink RX8 196 "HushWatchModel" "sites" "I", .methodLink RX8 278 yX8_isSite, .instanceMethod yX8_isSite, .selects RX8 yX8_isSite yX8_isSite, .initialized RX8, .methodLink RX8 257 yX8_isFrozen, .instanceMethod yX8_isFrozen, .selects RX8 yX8_isFrozen yX8_isFrozen, .methodLink RX8 296 yX8_frozenOnes, .instanceMethod yX8_frozenOnes, .selects RX8 yX8_frozenOnes yX8_frozenOnes, .methodLink RX8 237 yX8_bits, .static yX8_bits] (HAppend.hAppend (α := List Cond) (β := List Cond) (γ := List Cond) v_f_X8_isSite (HAppend.hAppend (α := List Cond) (β := List Cond) (γ := List Cond) v_f_X8_isFrozen (HAppend.hAppend (α := List Cond) (β := List Cond) (γ := List Cond) v_f_X8_frozenOnes (HAppend.hAppend (α := List Cond) (β := List Cond) (γ := List Cond) v_f_X8_bits (HAppend.hAppend (α := List Cond) (β := List Cond) (γ := List Cond) wsX80 []))))))
theorem gw_f_X8_whyFreeze : v_f_X8_whyFreeze.all goodWord = true := by decide +kernel
theorem i_f_X8_whyFreeze_X8 : ∀ w ∈ wsX80, w ∈ v_f_X8_whyFreeze := fun _ h => List.mem_cons_of_mem _ (List.mem_append_right _ (List.mem_append_right _ (List.mem_append_right _ (List.mem_append_right _ (List.mem_append_right _ (List.mem_append_left _ h))))))
theorem g_f_X8_whyFreeze_f_X8_isSite_278 : GoodIn v_f_X8_whyFreeze (wsV RX8 278 RX8 yX8_isSite v_f_X8_isSite) := goodIn_app (goodIn_of _ (by decide +kernel)) (goodIn_sub (fun _ h => List.mem_cons_of_mem _ (List.mem_append_right _ (List.mem_append_left _ h))) gw_f_X8_isSite)
theorem g_f_X8_whyFreeze_f_X8_isFrozen_257 : GoodIn v_f_X8_whyFreeze (wsV RX8 257 RX8 yX8_isFrozen v_f_X8_isFrozen) := goodIn_app (goodIn_of _ (by decide +kernel)) (goodIn_sub (fun _ h => List.mem_cons_of_mem _ (List.mem_append_right _ (List.mem_append_right _ (List.mem_append_left _ h)))) gw_f_X8_isFrozen)
theorem g_f_X8_whyFreeze_f_X8_frozenOnes_296 : GoodIn v_f_X8_whyFreeze (wsV RX8 296 RX8 yX8_frozenOnes v_f_X8_frozenOnes) := goodIn_app (goodIn_of _ (by decide +kernel)) (goodIn_sub (fun _ h => List.mem_cons_of_mem _ (List.mem_append_right _ (List.mem_append_right _ (List.mem_append_right _ (List.mem_append_left _ h))))) gw_f_X8_frozenOnes)
theorem g_f_X8_whyFreeze_f_X8_bits_237 : GoodIn v_f_X8_whyFreeze (va_wsS RX8 237 yX8_bits v_f_X8_bits) := goodIn_app (goodIn_of _ (by decide +kernel)) (goodIn_sub (fun _ h => List.mem_cons_of_mem _ (List.mem_append_right _ (List.mem_append_right _ (List.mem_append_right _ (List.mem_append_right _ (List.mem_append_left _ h)))))) gw_f_X8_bits)
theorem hd_X8_whyFreeze : yX8_whyFreeze.cls = RX8 ∧ yX8_whyFreeze.cls ≠ "java/lang/invoke/MethodHandle" ∧ yX8_whyFreeze.cls ≠ "java/lang/invoke/VarHandle" ∧ (parseMethodDescriptor yX8_whyFreeze.desc).map (fun d => d.parameters.length) = some 1 := by decide +kernel
set_option maxHeartbeats 4000000 in
set_option maxRecDepth 100000 in
theorem f_X8_whyFreeze (l : Launch) (E : EE) (K : Nat) {a_ a_tape a_readPlace a_script a_scriptLong a_now a_refused a_shareX a_shareY a_askedRow a_kept a_aside a_spelled a_image : Nat} {p1 : Int32} {c_thrown : Int32} {c_taped : Int32} {c_at : Int32} {c_part : Int32} {c_partFrom : Int32} {c_partNumber : Int32} {c_wrong : Int32} {c_partWord : Int64} {c_readLaw : Int32} {c_readBound : Int32} {c_readGoal : Int32} {c_readSites : Int32} {c_scripts : Int32} {c_sites : Int32} {c_asked : Int32} {c_outcome : Int32} {c_took : Int32} {c_acts : Int32} {c_drawn : Int64} {c_racer : Int32} {c_raced : Int32} {c_spelledMany : Int32} {c_hasImage : Int32} {c_now : Nat → Int32} {rr : Int32} (hF : F_X8_whyFreeze K p1 c_now c_sites = some rr) : Met l yX8_whyFreeze v_f_X8_whyFreeze (({ frames := 2, cells := 0, slots := 0, locals := 46 } : Room)) (va_Pc [.ref a_, .int p1] (pP E (w_X8_whyFreeze E a_ a_tape a_readPlace a_script a_scriptLong a_now a_refused a_shareX a_shareY a_askedRow a_kept a_aside a_spelled a_image c_thrown c_taped c_at c_part c_partFrom c_partNumber c_wrong c_partWord c_readLaw c_readBound c_readGoal c_readSites c_scripts c_sites c_asked c_outcome c_took c_acts c_drawn c_racer c_raced c_spelledMany c_hasImage c_now))) (vp_Si (fun q : Int32 => q = rr)) 0 0 (fun _ => False) := by
  refine Met.ofW (cc := cX8_whyFreeze) (maxL := 2) (ret := (some .int)) (by decide) rfl ?_
  intro p e s m args below meth c s₁ B hml hv
  obtain ⟨rfl, ⟨hK, hN⟩, hP⟩ := hv
  have hx := B.exec
  have hb := B.bytes
  have hr := B.returns
  have hts := atoms_spec (ws := v_f_X8_whyFreeze) B.pre
  have hown : s.vm.findClass RX8 = some m.cls := own_of hd_X8_whyFreeze.1 (findClass_of_methodNamed B.named)
  have hlocks : meth.locks = false := B.notSynchronized
  replace hP : va_P E.1 vwCl [(a_, .inr (9, [.int c_thrown, .ref a_tape, .int c_taped, .int c_at, .int c_part, .int c_partFrom, .int c_partNumber, .int c_wrong, .long c_partWord, .int c_readLaw, .int c_readBound, .int c_readGoal, .int c_readSites, .ref a_readPlace, .ref a_script, .ref a_scriptLong, .int c_scripts, .ref a_now, .ref a_refused, .int c_sites, .ref a_shareX, .ref a_shareY, .int c_asked, .int c_outcome, .ref a_askedRow, .int c_took, .ref a_kept, .int c_acts, .long c_drawn, .ref a_aside, .int c_racer, .int c_raced, .ref a_spelled, .int c_spelledMany, .ref a_image, .int c_hasImage])), (a_now, .inl (E.2.1, 265, .inl c_now))] s.heap := hP
  have hl := lv_entry ([.ref a_, .int p1]) (n := 2) (Nat.le_of_ble_eq_true rfl)
  rw [lg_entry_eq]
  generalize (lg_sl ([.ref a_, .int p1]) ++ List.replicate (2 - (lg_sl ([.ref a_, .int p1])).length) Slot.unset).toArray = ls at hl ⊢
  have hl : lv_has ls 2 [(0, .ref a_), (1, .int p1)] := hl
  obtain ⟨Q, hQ⟩ : ∃ Q : State → Prop, Q = MQ below (vp_Si (fun q : Int32 => q = rr)) #[Value.ref a_, Value.int p1] s 0 0 (fun _ => False) := ⟨_, rfl⟩
  rw [← hQ]
  change W p l e ({ frames := 2, cells := 0, slots := 0, locals := 46 } : Room) s m #[Value.ref a_, Value.int p1] below meth c s.heap [] 0 0 Q (F0 m 0 ls [])
  unfold F_X8_whyFreeze at hF
  refine lv_aload_n hx hb dX8_whyFreeze_0 rfl (lv_at hl 0 rfl) ?_
  refine lv_iload_n hx hb dX8_whyFreeze_1 rfl (lv_at hl 1 rfl) ?_
  replace hF := bd1_s hF
  obtain ⟨r_1, hc_2, hF⟩ := hF
  have hPc : va_P E.1 vwCl (w_X8_isSite E a_ a_tape a_readPlace a_script a_scriptLong a_now a_refused a_shareX a_shareY a_askedRow a_kept a_aside a_spelled a_image c_thrown c_taped c_at c_part c_partFrom c_partNumber c_wrong c_partWord c_readLaw c_readBound c_readGoal c_readSites c_scripts c_sites c_asked c_outcome c_took c_acts c_drawn c_racer c_raced c_spelledMany c_hasImage) s.heap := hP.sub (ws' := [(a_, .inr (9, [.int c_thrown, .ref a_tape, .int c_taped, .int c_at, .int c_part, .int c_partFrom, .int c_partNumber, .int c_wrong, .long c_partWord, .int c_readLaw, .int c_readBound, .int c_readGoal, .int c_readSites, .ref a_readPlace, .ref a_script, .ref a_scriptLong, .int c_scripts, .ref a_now, .ref a_refused, .int c_sites, .ref a_shareX, .ref a_shareY, .int c_asked, .int c_outcome, .ref a_askedRow, .int c_took, .ref a_kept, .int c_acts, .long c_drawn, .ref a_aside, .int c_racer, .int c_raced, .ref a_spelled, .int c_spelledMany, .ref a_image, .int c_hasImage]))]) [0] rfl
  have hrc := va_recv hK hPc (ci := 9) (q0 := 0) rfl rfl
  refine pE_z (va_runV (As := [.int p1]) (rest := [])  ⟨hx, hb, hml, hown, hts⟩ (f_X8_isSite l E (a_ := a_) (a_tape := a_tape) (a_readPlace := a_readPlace) (a_script := a_script) (a_scriptLong := a_scriptLong) (a_now := a_now) (a_refused := a_refused) (a_shareX := a_shareX) (a_shareY := a_shareY) (a_askedRow := a_askedRow) (a_kept := a_kept) (a_aside := a_aside) (a_spelled := a_spelled) (a_image := a_image) (p1 := p1) (c_thrown := c_thrown) (c_taped := c_taped) (c_at := c_at) (c_part := c_part) (c_partFrom := c_partFrom) (c_partNumber := c_partNumber) (c_wrong := c_wrong) (c_partWord := c_partWord) (c_readLaw := c_readLaw) (c_readBound := c_readBound) (c_readGoal := c_readGoal) (c_readSites := c_readSites) (c_scripts := c_scripts) (c_sites := c_sites) (c_asked := c_asked) (c_outcome := c_outcome) (c_took := c_took) (c_acts := c_acts) (c_drawn := c_drawn) (c_racer := c_racer) (c_raced := c_raced) (c_spelledMany := c_spelledMany) (c_hasImage := c_hasImage) hc_2) (cwV 1 hts g_f_X8_whyFreeze_f_X8_isSite_278 rfl rfl rfl hd_X8_isSite ⟨Nat.le_of_ble_eq_true rfl, Nat.le_of_ble_eq_true rfl⟩) ⟨pP.blind, hrc, (pP.pre ⟨hK, hN⟩ hPc)⟩ rfl rfl hl.1 rfl (lv_room (Nat.le_of_ble_eq_true rfl)) dX8_whyFreeze_2 ⟨Nat.le_of_ble_eq_true rfl, Nat.le_of_ble_eq_true rfl⟩) (fun hb_3 => ?_)
  refine lv_if_ne (tgt := 12) hx hb dX8_whyFreeze_5 (by decide) (fun c_4 => ?_) (fun c_4 => ?_)
  ·
    replace hF := inn c_4 hF
    refine lv_aload_n hx hb dX8_whyFreeze_12 rfl (lv_at hl 0 rfl) ?_
    refine lv_iload_n hx hb dX8_whyFreeze_13 rfl (lv_at hl 1 rfl) ?_
    replace hF := bd1_s hF
    obtain ⟨r_5, hc_6, hF⟩ := hF
    have hPc : va_P E.1 vwCl (w_X8_isFrozen E a_ a_tape a_readPlace a_script a_scriptLong a_now a_refused a_shareX a_shareY a_askedRow a_kept a_aside a_spelled a_image c_thrown c_taped c_at c_part c_partFrom c_partNumber c_wrong c_partWord c_readLaw c_readBound c_readGoal c_readSites c_scripts c_sites c_asked c_outcome c_took c_acts c_drawn c_racer c_raced c_spelledMany c_hasImage c_now) s.heap := hP.sub (ws' := [(a_, .inr (9, [.int c_thrown, .ref a_tape, .int c_taped, .int c_at, .int c_part, .int c_partFrom, .int c_partNumber, .int c_wrong, .long c_partWord, .int c_readLaw, .int c_readBound, .int c_readGoal, .int c_readSites, .ref a_readPlace, .ref a_script, .ref a_scriptLong, .int c_scripts, .ref a_now, .ref a_refused, .int c_sites, .ref a_shareX, .ref a_shareY, .int c_asked, .int c_outcome, .ref a_askedRow, .int c_took, .ref a_kept, .int c_acts, .long c_drawn, .ref a_aside, .int c_racer, .int c_raced, .ref a_spelled, .int c_spelledMany, .ref a_image, .int c_hasImage])), (a_now, .inl (E.2.1, 265, .inl c_now))]) [0, 1] rfl
    have hrc := va_recv hK hPc (ci := 9) (q0 := 0) rfl rfl
    refine pE_z (va_runV (As := [.int p1]) (rest := [])  ⟨hx, hb, hml, hown, hts⟩ (f_X8_isFrozen l E (a_ := a_) (a_tape := a_tape) (a_readPlace := a_readPlace) (a_script := a_script) (a_scriptLong := a_scriptLong) (a_now := a_now) (a_refused := a_refused) (a_shareX := a_shareX) (a_shareY := a_shareY) (a_askedRow := a_askedRow) (a_kept := a_kept) (a_aside := a_aside) (a_spelled := a_spelled) (a_image := a_image) (p1 := p1) (c_thrown := c_thrown) (c_taped := c_taped) (c_at := c_at) (c_part := c_part) (c_partFrom := c_partFrom) (c_partNumber := c_partNumber) (c_wrong := c_wrong) (c_partWord := c_partWord) (c_readLaw := c_readLaw) (c_readBound := c_readBound) (c_readGoal := c_readGoal) (c_readSites := c_readSites) (c_scripts := c_scripts) (c_sites := c_sites) (c_asked := c_asked) (c_outcome := c_outcome) (c_took := c_took) (c_acts := c_acts) (c_drawn := c_drawn) (c_racer := c_racer) (c_raced := c_raced) (c_spelledMany := c_spelledMany) (c_hasImage := c_hasImage) (c_now := c_now) hc_6) (cwV 1 hts g_f_X8_whyFreeze_f_X8_isFrozen_257 rfl rfl rfl hd_X8_isFrozen ⟨Nat.le_of_ble_eq_true rfl, Nat.le_of_ble_eq_true rfl⟩) ⟨pP.blind, hrc, (pP.pre ⟨hK, hN⟩ hPc)⟩ rfl rfl hl.1 rfl (lv_room (Nat.le_of_ble_eq_true rfl)) dX8_whyFreeze_14 ⟨Nat.le_of_ble_eq_true rfl, Nat.le_of_ble_eq_true rfl⟩) (fun hb_7 => ?_)
    refine lv_if_ne (tgt := 40) hx hb dX8_whyFreeze_17 (by decide) (fun c_8 => ?_) (fun c_8 => ?_)
    ·
      replace hF := inn c_8 hF
      refine lv_iconst (v := -1) hx hb dX8_whyFreeze_40 (by decide) ?_
      rw [hQ]
      obtain e9_0 := inj1 hF
      exact W.iret (v := (-1 : Int32)) hx hb hr (fun tt ht hW => ⟨_, rfl, e9_0, ht⟩) (fun _ h => by cases h) dX8_whyFreeze_41
    ·
      replace hF := ip c_8 hF
      refine lv_aload_n hx hb dX8_whyFreeze_20 rfl (lv_at hl 0 rfl) ?_
      replace hF := bd1_s hF
      obtain ⟨r_9, hc_10, hF⟩ := hF
      have hPc : va_P E.1 vwCl (w_X8_frozenOnes E a_ a_tape a_readPlace a_script a_scriptLong a_now a_refused a_shareX a_shareY a_askedRow a_kept a_aside a_spelled a_image c_thrown c_taped c_at c_part c_partFrom c_partNumber c_wrong c_partWord c_readLaw c_readBound c_readGoal c_readSites c_scripts c_sites c_asked c_outcome c_took c_acts c_drawn c_racer c_raced c_spelledMany c_hasImage c_now) s.heap := hP.sub (ws' := [(a_, .inr (9, [.int c_thrown, .ref a_tape, .int c_taped, .int c_at, .int c_part, .int c_partFrom, .int c_partNumber, .int c_wrong, .long c_partWord, .int c_readLaw, .int c_readBound, .int c_readGoal, .int c_readSites, .ref a_readPlace, .ref a_script, .ref a_scriptLong, .int c_scripts, .ref a_now, .ref a_refused, .int c_sites, .ref a_shareX, .ref a_shareY, .int c_asked, .int c_outcome, .ref a_askedRow, .int c_took, .ref a_kept, .int c_acts, .long c_drawn, .ref a_aside, .int c_racer, .int c_raced, .ref a_spelled, .int c_spelledMany, .ref a_image, .int c_hasImage])), (a_now, .inl (E.2.1, 265, .inl c_now))]) [0, 1] rfl
      have hrc := va_recv hK hPc (ci := 9) (q0 := 0) rfl rfl
      refine pE_i (va_runV (As := []) (rest := [])  ⟨hx, hb, hml, hown, hts⟩ (f_X8_frozenOnes l E K (a_ := a_) (a_tape := a_tape) (a_readPlace := a_readPlace) (a_script := a_script) (a_scriptLong := a_scriptLong) (a_now := a_now) (a_refused := a_refused) (a_shareX := a_shareX) (a_shareY := a_shareY) (a_askedRow := a_askedRow) (a_kept := a_kept) (a_aside := a_aside) (a_spelled := a_spelled) (a_image := a_image) (c_thrown := c_thrown) (c_taped := c_taped) (c_at := c_at) (c_part := c_part) (c_partFrom := c_partFrom) (c_partNumber := c_partNumber) (c_wrong := c_wrong) (c_partWord := c_partWord) (c_readLaw := c_readLaw) (c_readBound := c_readBound) (c_readGoal := c_readGoal) (c_readSites := c_readSites) (c_scripts := c_scripts) (c_sites := c_sites) (c_asked := c_asked) (c_outcome := c_outcome) (c_took := c_took) (c_acts := c_acts) (c_drawn := c_drawn) (c_racer := c_racer) (c_raced := c_raced) (c_spelledMany := c_spelledMany) (c_hasImage := c_hasImage) (c_now := c_now) hc_10) (cwV 0 hts g_f_X8_whyFreeze_f_X8_frozenOnes_296 rfl rfl rfl hd_X8_frozenOnes ⟨Nat.le_of_ble_eq_true rfl, Nat.le_of_ble_eq_true rfl⟩) ⟨pP.blind, hrc, (pP.pre ⟨hK, hN⟩ hPc)⟩ rfl rfl hl.1 rfl (lv_room (Nat.le_of_ble_eq_true rfl)) dX8_whyFreeze_21 ⟨Nat.le_of_ble_eq_true rfl, Nat.le_of_ble_eq_true rfl⟩) ?_
      replace hF := bd1_s hF
      obtain ⟨r_11, hc_12, hF⟩ := hF
      have hPc : va_P E.1 vwCl [] s.heap := fun k q h => by simp at h
      refine pE_i (va_runS (As := [.int r_9]) (rest := [])  ⟨hx, hb, hml, hown, hts⟩ (f_X8_bits l E K (p0 := r_9) hc_12) (va_cwS 1 hts g_f_X8_whyFreeze_f_X8_bits_237 rfl rfl rfl hd_X8_bits.2 ⟨Nat.le_of_ble_eq_true rfl, Nat.le_of_ble_eq_true rfl⟩) ⟨pP.blind, (pP.pre ⟨hK, hN⟩ hPc)⟩ rfl rfl hl.1 rfl (lv_room (Nat.le_of_ble_eq_true rfl)) dX8_whyFreeze_24 ⟨Nat.le_of_ble_eq_true rfl, Nat.le_of_ble_eq_true rfl⟩) ?_
      refine lv_aload_n hx hb dX8_whyFreeze_27 rfl (lv_at hl 0 rfl) ?_
      refine gt_X8_19 (v := .int c_sites) hx hb hts i_f_X8_whyFreeze_X8 hown hK hP 0 rfl (hts (.fieldLink RX8 196 "HushWatchModel" "sites" "I") (List.mem_of_getElem? (i := 1) rfl)) rfl dX8_whyFreeze_28 ?_
      refine lv_iconst (v := 1) hx hb dX8_whyFreeze_31 (by decide) ?_
      refine lv_isub hx hb dX8_whyFreeze_32 ?_
      refine lv_icmp_ne (tgt := 40) hx hb dX8_whyFreeze_33 (by decide) (fun c_13 => ?_) (fun c_13 => ?_)
      ·
        replace hF := inn c_13 hF
        refine lv_iconst (v := -1) hx hb dX8_whyFreeze_40 (by decide) ?_
        rw [hQ]
        obtain e9_0 := inj1 hF
        exact W.iret (v := (-1 : Int32)) hx hb hr (fun tt ht hW => ⟨_, rfl, e9_0, ht⟩) (fun _ h => by cases h) dX8_whyFreeze_41
      ·
        replace hF := ip c_13 hF
        refine lv_iconst (v := 2) hx hb dX8_whyFreeze_36 (by decide) ?_
        refine lv_goto (tgt := 41) hx hb dX8_whyFreeze_37 (by decide) ?_
        rw [hQ]
        obtain e9_0 := inj1 hF
        exact W.iret (v := (2 : Int32)) hx hb hr (fun tt ht hW => ⟨_, rfl, e9_0, ht⟩) (fun _ h => by cases h) dX8_whyFreeze_41
  ·
    replace hF := ip c_4 hF
    refine lv_iconst (v := 0) hx hb dX8_whyFreeze_8 (by decide) ?_
    refine lv_goto (tgt := 41) hx hb dX8_whyFreeze_9 (by decide) ?_
    rw [hQ]
    obtain e9_0 := inj1 hF
    exact W.iret (v := (0 : Int32)) hx hb hr (fun tt ht hW => ⟨_, rfl, e9_0, ht⟩) (fun _ h => by cases h) dX8_whyFreeze_41

def F_X8_whyNot (K : Nat) (p1 : Int32) (p2 : Int32) (p3 : Int32) (p4 : Int32) (c_now : Nat → Int32) (c_sites : Int32) : Option (Int32) :=
  if p1 = (0 : Int32) then bd1 (F_X8_whyMove p2 p3 p4 c_now c_sites) (fun r_2 => some r_2) else if p1 = (1 : Int32) then bd1 (F_X8_isWatch c_sites) (fun r_4 => if r_4 = (0 : Int32) then some (0 : Int32) else some (-1 : Int32)) else if p1 = (2 : Int32) then bd1 (F_X8_whySet p2 (-9999999 : Int32) (9999999 : Int32) (c_now 65) c_sites) (fun r_8 => some r_8) else if p1 = (3 : Int32) then bd1 (F_X8_whySet p2 (0 : Int32) (3 : Int32) (c_now 64) c_sites) (fun r_10 => some r_10) else if p1 = (4 : Int32) then bd1 (F_X8_whyAdd p2 p3 c_now c_sites) (fun r_12 => some r_12) else if p1 = (5 : Int32) then bd1 (F_X8_whySet p2 (1 : Int32) (9999 : Int32) (-1 : Int32) c_sites) (fun r_14 => some r_14) else if p1 = (6 : Int32) then bd1 (F_X8_whyFreeze K p2 c_now c_sites) (fun r_16 => some r_16) else bd1 (F_X8_whySet p2 (1 : Int32) (9999 : Int32) (-1 : Int32) c_sites) (fun r_18 => some r_18)
abbrev w_X8_whyNot (E : EE) (a_ a_tape a_readPlace a_script a_scriptLong a_now a_refused a_shareX a_shareY a_askedRow a_kept a_aside a_spelled a_image : Nat) (c_thrown : Int32) (c_taped : Int32) (c_at : Int32) (c_part : Int32) (c_partFrom : Int32) (c_partNumber : Int32) (c_wrong : Int32) (c_partWord : Int64) (c_readLaw : Int32) (c_readBound : Int32) (c_readGoal : Int32) (c_readSites : Int32) (c_scripts : Int32) (c_sites : Int32) (c_asked : Int32) (c_outcome : Int32) (c_took : Int32) (c_acts : Int32) (c_drawn : Int64) (c_racer : Int32) (c_raced : Int32) (c_spelledMany : Int32) (c_hasImage : Int32) (c_now : Nat → Int32) : va_W := [(a_, .inr (9, [.int c_thrown, .ref a_tape, .int c_taped, .int c_at, .int c_part, .int c_partFrom, .int c_partNumber, .int c_wrong, .long c_partWord, .int c_readLaw, .int c_readBound, .int c_readGoal, .int c_readSites, .ref a_readPlace, .ref a_script, .ref a_scriptLong, .int c_scripts, .ref a_now, .ref a_refused, .int c_sites, .ref a_shareX, .ref a_shareY, .int c_asked, .int c_outcome, .ref a_askedRow, .int c_took, .ref a_kept, .int c_acts, .long c_drawn, .ref a_aside, .int c_racer, .int c_raced, .ref a_spelled, .int c_spelledMany, .ref a_image, .int c_hasImage])), (a_now, .inl (E.2.1, 265, .inl c_now))]
def v_f_X8_whyNot : List Cond := List.cons (.code yX8_whyNot cX8_whyNot 5 (some .int)) (HAppend.hAppend (α := List Cond) (β := List Cond) (γ := List Cond) [.constant RX8 152 (-9999999), .constant RX8 153 (9999999), .fieldLink RX8 22 "HushWatchModel" "now" "[I", .methodLink RX8 302 yX8_whyMove, .instanceMethod yX8_whyMove, .selects RX8 yX8_whyMove yX8_whyMove, .initialized RX8, .methodLink RX8 299 yX8_isWatch, .instanceMethod yX8_isWatch, .selects RX8 yX8_isWatch yX8_isWatch, .methodLink RX8 306 yX8_whySet, .instanceMethod yX8_whySet, .selects RX8 yX8_whySet yX8_whySet, .methodLink RX8 310 yX8_whyAdd, .instanceMethod yX8_whyAdd, .selects RX8 yX8_whyAdd yX8_whyAdd, .methodLink RX8 313 yX8_whyFreeze, .instanceMethod yX8_whyFreeze, .selects RX8 yX8_whyFreeze yX8_whyFreeze] (HAppend.hAppend (α := List Cond) (β := List Cond) (γ := List Cond) v_f_X8_whyMove (HAppend.hAppend (α := List Cond) (β := List Cond) (γ := List Cond) v_f_X8_isWatch (HAppend.hAppend (α := List Cond) (β := List Cond) (γ := List Cond) wsX80 (HAppend.hAppend (α := List Cond) (β := List Cond) (γ := List Cond) v_f_X8_whySet (HAppend.hAppend (α := List Cond) (β := List Cond) (γ := List Cond) v_f_X8_whyAdd (HAppend.hAppend (α := List Cond) (β := List Cond) (γ := List Cond) v_f_X8_whyFreeze [])))))))
theorem gw_f_X8_whyNot : v_f_X8_whyNot.all goodWord = true := by decide +kernel
theorem i_f_X8_whyNot_X8 : ∀ w ∈ wsX80, w ∈ v_f_X8_whyNot := fun _ h => List.mem_cons_of_mem _ (List.mem_append_right _ (List.mem_append_right _ (List.mem_append_right _ (List.mem_append_left _ h))))
theorem g_f_X8_whyNot_f_X8_whyMove_302 : GoodIn v_f_X8_whyNot (wsV RX8 302 RX8 yX8_whyMove v_f_X8_whyMove) := goodIn_app (goodIn_of _ (by decide +kernel)) (goodIn_sub (fun _ h => List.mem_cons_of_mem _ (List.mem_append_right _ (List.mem_append_left _ h))) gw_f_X8_whyMove)
theorem g_f_X8_whyNot_f_X8_isWatch_299 : GoodIn v_f_X8_whyNot (wsV RX8 299 RX8 yX8_isWatch v_f_X8_isWatch) := goodIn_app (goodIn_of _ (by decide +kernel)) (goodIn_sub (fun _ h => List.mem_cons_of_mem _ (List.mem_append_right _ (List.mem_append_right _ (List.mem_append_left _ h)))) gw_f_X8_isWatch)
theorem g_f_X8_whyNot_f_X8_whySet_306 : GoodIn v_f_X8_whyNot (wsV RX8 306 RX8 yX8_whySet v_f_X8_whySet) := goodIn_app (goodIn_of _ (by decide +kernel)) (goodIn_sub (fun _ h => List.mem_cons_of_mem _ (List.mem_append_right _ (List.mem_append_right _ (List.mem_append_right _ (List.mem_append_right _ (List.mem_append_left _ h)))))) gw_f_X8_whySet)
theorem g_f_X8_whyNot_f_X8_whyAdd_310 : GoodIn v_f_X8_whyNot (wsV RX8 310 RX8 yX8_whyAdd v_f_X8_whyAdd) := goodIn_app (goodIn_of _ (by decide +kernel)) (goodIn_sub (fun _ h => List.mem_cons_of_mem _ (List.mem_append_right _ (List.mem_append_right _ (List.mem_append_right _ (List.mem_append_right _ (List.mem_append_right _ (List.mem_append_left _ h))))))) gw_f_X8_whyAdd)
theorem g_f_X8_whyNot_f_X8_whyFreeze_313 : GoodIn v_f_X8_whyNot (wsV RX8 313 RX8 yX8_whyFreeze v_f_X8_whyFreeze) := goodIn_app (goodIn_of _ (by decide +kernel)) (goodIn_sub (fun _ h => List.mem_cons_of_mem _ (List.mem_append_right _ (List.mem_append_right _ (List.mem_append_right _ (List.mem_append_right _ (List.mem_append_right _ (List.mem_append_right _ (List.mem_append_left _ h)))))))) gw_f_X8_whyFreeze)
theorem hd_X8_whyNot : yX8_whyNot.cls = RX8 ∧ yX8_whyNot.cls ≠ "java/lang/invoke/MethodHandle" ∧ yX8_whyNot.cls ≠ "java/lang/invoke/VarHandle" ∧ (parseMethodDescriptor yX8_whyNot.desc).map (fun d => d.parameters.length) = some 4 := by decide +kernel
set_option maxHeartbeats 4000000 in
set_option maxRecDepth 100000 in
theorem f_X8_whyNot (l : Launch) (E : EE) (K : Nat) {a_ a_tape a_readPlace a_script a_scriptLong a_now a_refused a_shareX a_shareY a_askedRow a_kept a_aside a_spelled a_image : Nat} {p1 : Int32} {p2 : Int32} {p3 : Int32} {p4 : Int32} {c_thrown : Int32} {c_taped : Int32} {c_at : Int32} {c_part : Int32} {c_partFrom : Int32} {c_partNumber : Int32} {c_wrong : Int32} {c_partWord : Int64} {c_readLaw : Int32} {c_readBound : Int32} {c_readGoal : Int32} {c_readSites : Int32} {c_scripts : Int32} {c_sites : Int32} {c_asked : Int32} {c_outcome : Int32} {c_took : Int32} {c_acts : Int32} {c_drawn : Int64} {c_racer : Int32} {c_raced : Int32} {c_spelledMany : Int32} {c_hasImage : Int32} {c_now : Nat → Int32} {rr : Int32} (hF : F_X8_whyNot K p1 p2 p3 p4 c_now c_sites = some rr) : Met l yX8_whyNot v_f_X8_whyNot (({ frames := 3, cells := 0, slots := 0, locals := 70 } : Room)) (va_Pc [.ref a_, .int p1, .int p2, .int p3, .int p4] (pP E (w_X8_whyNot E a_ a_tape a_readPlace a_script a_scriptLong a_now a_refused a_shareX a_shareY a_askedRow a_kept a_aside a_spelled a_image c_thrown c_taped c_at c_part c_partFrom c_partNumber c_wrong c_partWord c_readLaw c_readBound c_readGoal c_readSites c_scripts c_sites c_asked c_outcome c_took c_acts c_drawn c_racer c_raced c_spelledMany c_hasImage c_now))) (vp_Si (fun q : Int32 => q = rr)) 0 0 (fun _ => False) := by
  refine Met.ofW (cc := cX8_whyNot) (maxL := 5) (ret := (some .int)) (by decide) rfl ?_
  intro p e s m args below meth c s₁ B hml hv
  obtain ⟨rfl, ⟨hK, hN⟩, hP⟩ := hv
  have hx := B.exec
  have hb := B.bytes
  have hr := B.returns
  have hts := atoms_spec (ws := v_f_X8_whyNot) B.pre
  have hown : s.vm.findClass RX8 = some m.cls := own_of hd_X8_whyNot.1 (findClass_of_methodNamed B.named)
  have hlocks : meth.locks = false := B.notSynchronized
  replace hP : va_P E.1 vwCl [(a_, .inr (9, [.int c_thrown, .ref a_tape, .int c_taped, .int c_at, .int c_part, .int c_partFrom, .int c_partNumber, .int c_wrong, .long c_partWord, .int c_readLaw, .int c_readBound, .int c_readGoal, .int c_readSites, .ref a_readPlace, .ref a_script, .ref a_scriptLong, .int c_scripts, .ref a_now, .ref a_refused, .int c_sites, .ref a_shareX, .ref a_shareY, .int c_asked, .int c_outcome, .ref a_askedRow, .int c_took, .ref a_kept, .int c_acts, .long c_drawn, .ref a_aside, .int c_racer, .int c_raced, .ref a_spelled, .int c_spelledMany, .ref a_image, .int c_hasImage])), (a_now, .inl (E.2.1, 265, .inl c_now))] s.heap := hP
  have hl := lv_entry ([.ref a_, .int p1, .int p2, .int p3, .int p4]) (n := 5) (Nat.le_of_ble_eq_true rfl)
  rw [lg_entry_eq]
  generalize (lg_sl ([.ref a_, .int p1, .int p2, .int p3, .int p4]) ++ List.replicate (5 - (lg_sl ([.ref a_, .int p1, .int p2, .int p3, .int p4])).length) Slot.unset).toArray = ls at hl ⊢
  have hl : lv_has ls 5 [(0, .ref a_), (1, .int p1), (2, .int p2), (3, .int p3), (4, .int p4)] := hl
  obtain ⟨Q, hQ⟩ : ∃ Q : State → Prop, Q = MQ below (vp_Si (fun q : Int32 => q = rr)) #[Value.ref a_, Value.int p1, Value.int p2, Value.int p3, Value.int p4] s 0 0 (fun _ => False) := ⟨_, rfl⟩
  rw [← hQ]
  change W p l e ({ frames := 3, cells := 0, slots := 0, locals := 70 } : Room) s m #[Value.ref a_, Value.int p1, Value.int p2, Value.int p3, Value.int p4] below meth c s.heap [] 0 0 Q (F0 m 0 ls [])
  unfold F_X8_whyNot at hF
  refine lv_iload_n hx hb dX8_whyNot_0 rfl (lv_at hl 1 rfl) ?_
  rcases Classical.em (p1 = (0 : Int32)) with c_1_0 | c_1_0
  ·
    replace hF := ip c_1_0 hF
    refine lv_tableIn (off := 43) (tgt := 44) hx hb dX8_whyNot_1 (by rw [c_1_0]; decide) (by rw [c_1_0]; decide) (by rw [c_1_0]; decide) (by decide) ?_
    refine lv_aload_n hx hb dX8_whyNot_44 rfl (lv_at hl 0 rfl) ?_
    refine lv_iload_n hx hb dX8_whyNot_45 rfl (lv_at hl 2 rfl) ?_
    refine lv_iload_n hx hb dX8_whyNot_46 rfl (lv_at hl 3 rfl) ?_
    refine lv_iload hx hb dX8_whyNot_47 (lv_at hl 4 rfl) ?_
    replace hF := bd1_s hF
    obtain ⟨r_2, hc_3, hF⟩ := hF
    have hPc : va_P E.1 vwCl (w_X8_whyMove E a_ a_tape a_readPlace a_script a_scriptLong a_now a_refused a_shareX a_shareY a_askedRow a_kept a_aside a_spelled a_image c_thrown c_taped c_at c_part c_partFrom c_partNumber c_wrong c_partWord c_readLaw c_readBound c_readGoal c_readSites c_scripts c_sites c_asked c_outcome c_took c_acts c_drawn c_racer c_raced c_spelledMany c_hasImage c_now) s.heap := hP.sub (ws' := [(a_, .inr (9, [.int c_thrown, .ref a_tape, .int c_taped, .int c_at, .int c_part, .int c_partFrom, .int c_partNumber, .int c_wrong, .long c_partWord, .int c_readLaw, .int c_readBound, .int c_readGoal, .int c_readSites, .ref a_readPlace, .ref a_script, .ref a_scriptLong, .int c_scripts, .ref a_now, .ref a_refused, .int c_sites, .ref a_shareX, .ref a_shareY, .int c_asked, .int c_outcome, .ref a_askedRow, .int c_took, .ref a_kept, .int c_acts, .long c_drawn, .ref a_aside, .int c_racer, .int c_raced, .ref a_spelled, .int c_spelledMany, .ref a_image, .int c_hasImage])), (a_now, .inl (E.2.1, 265, .inl c_now))]) [0, 1] rfl
    have hrc := va_recv hK hPc (ci := 9) (q0 := 0) rfl rfl
    refine pE_i (va_runV (As := [.int p2, .int p3, .int p4]) (rest := [])  ⟨hx, hb, hml, hown, hts⟩ (f_X8_whyMove l E (a_ := a_) (a_tape := a_tape) (a_readPlace := a_readPlace) (a_script := a_script) (a_scriptLong := a_scriptLong) (a_now := a_now) (a_refused := a_refused) (a_shareX := a_shareX) (a_shareY := a_shareY) (a_askedRow := a_askedRow) (a_kept := a_kept) (a_aside := a_aside) (a_spelled := a_spelled) (a_image := a_image) (p1 := p2) (p2 := p3) (p3 := p4) (c_thrown := c_thrown) (c_taped := c_taped) (c_at := c_at) (c_part := c_part) (c_partFrom := c_partFrom) (c_partNumber := c_partNumber) (c_wrong := c_wrong) (c_partWord := c_partWord) (c_readLaw := c_readLaw) (c_readBound := c_readBound) (c_readGoal := c_readGoal) (c_readSites := c_readSites) (c_scripts := c_scripts) (c_sites := c_sites) (c_asked := c_asked) (c_outcome := c_outcome) (c_took := c_took) (c_acts := c_acts) (c_drawn := c_drawn) (c_racer := c_racer) (c_raced := c_raced) (c_spelledMany := c_spelledMany) (c_hasImage := c_hasImage) (c_now := c_now) hc_3) (cwV 3 hts g_f_X8_whyNot_f_X8_whyMove_302 rfl rfl rfl hd_X8_whyMove ⟨Nat.le_of_ble_eq_true rfl, Nat.le_of_ble_eq_true rfl⟩) ⟨pP.blind, hrc, (pP.pre ⟨hK, hN⟩ hPc)⟩ rfl rfl hl.1 rfl (lv_room (Nat.le_of_ble_eq_true rfl)) dX8_whyNot_49 ⟨Nat.le_of_ble_eq_true rfl, Nat.le_of_ble_eq_true rfl⟩) ?_
    rw [hQ]
    obtain e9_0 := inj1 hF
    exact W.iret (v := r_2) hx hb hr (fun tt ht hW => ⟨_, rfl, e9_0, ht⟩) (fun _ h => by cases h) dX8_whyNot_52
  replace hF := inn c_1_0 hF
  rcases Classical.em (p1 = (1 : Int32)) with c_1_1 | c_1_1
  ·
    replace hF := ip c_1_1 hF
    refine lv_tableIn (off := 52) (tgt := 53) hx hb dX8_whyNot_1 (by rw [c_1_1]; decide) (by rw [c_1_1]; decide) (by rw [c_1_1]; decide) (by decide) ?_
    refine lv_aload_n hx hb dX8_whyNot_53 rfl (lv_at hl 0 rfl) ?_
    replace hF := bd1_s hF
    obtain ⟨r_4, hc_5, hF⟩ := hF
    have hPc : va_P E.1 vwCl (w_X8_isWatch E a_ a_tape a_readPlace a_script a_scriptLong a_now a_refused a_shareX a_shareY a_askedRow a_kept a_aside a_spelled a_image c_thrown c_taped c_at c_part c_partFrom c_partNumber c_wrong c_partWord c_readLaw c_readBound c_readGoal c_readSites c_scripts c_sites c_asked c_outcome c_took c_acts c_drawn c_racer c_raced c_spelledMany c_hasImage) s.heap := hP.sub (ws' := [(a_, .inr (9, [.int c_thrown, .ref a_tape, .int c_taped, .int c_at, .int c_part, .int c_partFrom, .int c_partNumber, .int c_wrong, .long c_partWord, .int c_readLaw, .int c_readBound, .int c_readGoal, .int c_readSites, .ref a_readPlace, .ref a_script, .ref a_scriptLong, .int c_scripts, .ref a_now, .ref a_refused, .int c_sites, .ref a_shareX, .ref a_shareY, .int c_asked, .int c_outcome, .ref a_askedRow, .int c_took, .ref a_kept, .int c_acts, .long c_drawn, .ref a_aside, .int c_racer, .int c_raced, .ref a_spelled, .int c_spelledMany, .ref a_image, .int c_hasImage]))]) [0] rfl
    have hrc := va_recv hK hPc (ci := 9) (q0 := 0) rfl rfl
    refine pE_z (va_runV (As := []) (rest := [])  ⟨hx, hb, hml, hown, hts⟩ (f_X8_isWatch l E (a_ := a_) (a_tape := a_tape) (a_readPlace := a_readPlace) (a_script := a_script) (a_scriptLong := a_scriptLong) (a_now := a_now) (a_refused := a_refused) (a_shareX := a_shareX) (a_shareY := a_shareY) (a_askedRow := a_askedRow) (a_kept := a_kept) (a_aside := a_aside) (a_spelled := a_spelled) (a_image := a_image) (c_thrown := c_thrown) (c_taped := c_taped) (c_at := c_at) (c_part := c_part) (c_partFrom := c_partFrom) (c_partNumber := c_partNumber) (c_wrong := c_wrong) (c_partWord := c_partWord) (c_readLaw := c_readLaw) (c_readBound := c_readBound) (c_readGoal := c_readGoal) (c_readSites := c_readSites) (c_scripts := c_scripts) (c_sites := c_sites) (c_asked := c_asked) (c_outcome := c_outcome) (c_took := c_took) (c_acts := c_acts) (c_drawn := c_drawn) (c_racer := c_racer) (c_raced := c_raced) (c_spelledMany := c_spelledMany) (c_hasImage := c_hasImage) hc_5) (cwV 0 hts g_f_X8_whyNot_f_X8_isWatch_299 rfl rfl rfl hd_X8_isWatch ⟨Nat.le_of_ble_eq_true rfl, Nat.le_of_ble_eq_true rfl⟩) ⟨pP.blind, hrc, (pP.pre ⟨hK, hN⟩ hPc)⟩ rfl rfl hl.1 rfl (lv_room (Nat.le_of_ble_eq_true rfl)) dX8_whyNot_54 ⟨Nat.le_of_ble_eq_true rfl, Nat.le_of_ble_eq_true rfl⟩) (fun hb_6 => ?_)
    refine lv_if_eq (tgt := 64) hx hb dX8_whyNot_57 (by decide) (fun c_7 => ?_) (fun c_7 => ?_)
    ·
      replace hF := ip c_7 hF
      refine lv_iconst (v := 0) hx hb dX8_whyNot_64 (by decide) ?_
      rw [hQ]
      obtain e9_0 := inj1 hF
      exact W.iret (v := (0 : Int32)) hx hb hr (fun tt ht hW => ⟨_, rfl, e9_0, ht⟩) (fun _ h => by cases h) dX8_whyNot_65
    ·
      replace hF := inn c_7 hF
      refine lv_iconst (v := -1) hx hb dX8_whyNot_60 (by decide) ?_
      refine lv_goto (tgt := 65) hx hb dX8_whyNot_61 (by decide) ?_
      rw [hQ]
      obtain e9_0 := inj1 hF
      exact W.iret (v := (-1 : Int32)) hx hb hr (fun tt ht hW => ⟨_, rfl, e9_0, ht⟩) (fun _ h => by cases h) dX8_whyNot_65
  replace hF := inn c_1_1 hF
  rcases Classical.em (p1 = (2 : Int32)) with c_1_2 | c_1_2
  ·
    replace hF := ip c_1_2 hF
    refine lv_tableIn (off := 65) (tgt := 66) hx hb dX8_whyNot_1 (by rw [c_1_2]; decide) (by rw [c_1_2]; decide) (by rw [c_1_2]; decide) (by decide) ?_
    refine lv_aload_n hx hb dX8_whyNot_66 rfl (lv_at hl 0 rfl) ?_
    refine lv_iload_n hx hb dX8_whyNot_67 rfl (lv_at hl 2 rfl) ?_
    refine lv_ldc (v := -9999999) hx hb hown (hts (.constant RX8 152 (-9999999)) (List.mem_of_getElem? (i := 1) rfl)) dX8_whyNot_68 ?_
    refine lv_ldc (v := 9999999) hx hb hown (hts (.constant RX8 153 (9999999)) (List.mem_of_getElem? (i := 2) rfl)) dX8_whyNot_70 ?_
    refine lv_aload_n hx hb dX8_whyNot_72 rfl (lv_at hl 0 rfl) ?_
    refine gt_X8_17 (v := .ref a_now) hx hb hts i_f_X8_whyNot_X8 hown hK hP 0 rfl (hts (.fieldLink RX8 22 "HushWatchModel" "now" "[I") (List.mem_of_getElem? (i := 3) rfl)) rfl dX8_whyNot_73 ?_
    refine lv_bipush (v := 65) hx hb dX8_whyNot_76 (by decide) ?_
    refine va_iald hx hb hK hP 1 0 rfl rfl (vin rfl) dX8_whyNot_78 ?_
    refine W.eq (g2 := F0 m 79 ls [.int (c_now 65), .int (9999999 : Int32), .int (-9999999 : Int32), .int p2, .ref a_]) rfl ?_
    replace hF := bd1_s hF
    obtain ⟨r_8, hc_9, hF⟩ := hF
    have hPc : va_P E.1 vwCl (w_X8_whySet E a_ a_tape a_readPlace a_script a_scriptLong a_now a_refused a_shareX a_shareY a_askedRow a_kept a_aside a_spelled a_image c_thrown c_taped c_at c_part c_partFrom c_partNumber c_wrong c_partWord c_readLaw c_readBound c_readGoal c_readSites c_scripts c_sites c_asked c_outcome c_took c_acts c_drawn c_racer c_raced c_spelledMany c_hasImage) s.heap := hP.sub (ws' := [(a_, .inr (9, [.int c_thrown, .ref a_tape, .int c_taped, .int c_at, .int c_part, .int c_partFrom, .int c_partNumber, .int c_wrong, .long c_partWord, .int c_readLaw, .int c_readBound, .int c_readGoal, .int c_readSites, .ref a_readPlace, .ref a_script, .ref a_scriptLong, .int c_scripts, .ref a_now, .ref a_refused, .int c_sites, .ref a_shareX, .ref a_shareY, .int c_asked, .int c_outcome, .ref a_askedRow, .int c_took, .ref a_kept, .int c_acts, .long c_drawn, .ref a_aside, .int c_racer, .int c_raced, .ref a_spelled, .int c_spelledMany, .ref a_image, .int c_hasImage]))]) [0] rfl
    have hrc := va_recv hK hPc (ci := 9) (q0 := 0) rfl rfl
    refine pE_i (va_runV (As := [.int p2, .int (-9999999 : Int32), .int (9999999 : Int32), .int (c_now 65)]) (rest := [])  ⟨hx, hb, hml, hown, hts⟩ (f_X8_whySet l E (a_ := a_) (a_tape := a_tape) (a_readPlace := a_readPlace) (a_script := a_script) (a_scriptLong := a_scriptLong) (a_now := a_now) (a_refused := a_refused) (a_shareX := a_shareX) (a_shareY := a_shareY) (a_askedRow := a_askedRow) (a_kept := a_kept) (a_aside := a_aside) (a_spelled := a_spelled) (a_image := a_image) (p1 := p2) (p2 := (-9999999 : Int32)) (p3 := (9999999 : Int32)) (p4 := c_now 65) (c_thrown := c_thrown) (c_taped := c_taped) (c_at := c_at) (c_part := c_part) (c_partFrom := c_partFrom) (c_partNumber := c_partNumber) (c_wrong := c_wrong) (c_partWord := c_partWord) (c_readLaw := c_readLaw) (c_readBound := c_readBound) (c_readGoal := c_readGoal) (c_readSites := c_readSites) (c_scripts := c_scripts) (c_sites := c_sites) (c_asked := c_asked) (c_outcome := c_outcome) (c_took := c_took) (c_acts := c_acts) (c_drawn := c_drawn) (c_racer := c_racer) (c_raced := c_raced) (c_spelledMany := c_spelledMany) (c_hasImage := c_hasImage) hc_9) (cwV 4 hts g_f_X8_whyNot_f_X8_whySet_306 rfl rfl rfl hd_X8_whySet ⟨Nat.le_of_ble_eq_true rfl, Nat.le_of_ble_eq_true rfl⟩) ⟨pP.blind, hrc, (pP.pre ⟨hK, hN⟩ hPc)⟩ rfl rfl hl.1 rfl (lv_room (Nat.le_of_ble_eq_true rfl)) dX8_whyNot_79 ⟨Nat.le_of_ble_eq_true rfl, Nat.le_of_ble_eq_true rfl⟩) ?_
    rw [hQ]
    obtain e9_0 := inj1 hF
    exact W.iret (v := r_8) hx hb hr (fun tt ht hW => ⟨_, rfl, e9_0, ht⟩) (fun _ h => by cases h) dX8_whyNot_82
  replace hF := inn c_1_2 hF
  rcases Classical.em (p1 = (3 : Int32)) with c_1_3 | c_1_3
  ·
    replace hF := ip c_1_3 hF
    refine lv_tableIn (off := 82) (tgt := 83) hx hb dX8_whyNot_1 (by rw [c_1_3]; decide) (by rw [c_1_3]; decide) (by rw [c_1_3]; decide) (by decide) ?_
    refine lv_aload_n hx hb dX8_whyNot_83 rfl (lv_at hl 0 rfl) ?_
    refine lv_iload_n hx hb dX8_whyNot_84 rfl (lv_at hl 2 rfl) ?_
    refine lv_iconst (v := 0) hx hb dX8_whyNot_85 (by decide) ?_
    refine lv_iconst (v := 3) hx hb dX8_whyNot_86 (by decide) ?_
    refine lv_aload_n hx hb dX8_whyNot_87 rfl (lv_at hl 0 rfl) ?_
    refine gt_X8_17 (v := .ref a_now) hx hb hts i_f_X8_whyNot_X8 hown hK hP 0 rfl (hts (.fieldLink RX8 22 "HushWatchModel" "now" "[I") (List.mem_of_getElem? (i := 3) rfl)) rfl dX8_whyNot_88 ?_
    refine lv_bipush (v := 64) hx hb dX8_whyNot_91 (by decide) ?_
    refine va_iald hx hb hK hP 1 0 rfl rfl (vin rfl) dX8_whyNot_93 ?_
    refine W.eq (g2 := F0 m 94 ls [.int (c_now 64), .int (3 : Int32), .int (0 : Int32), .int p2, .ref a_]) rfl ?_
    replace hF := bd1_s hF
    obtain ⟨r_10, hc_11, hF⟩ := hF
    have hPc : va_P E.1 vwCl (w_X8_whySet E a_ a_tape a_readPlace a_script a_scriptLong a_now a_refused a_shareX a_shareY a_askedRow a_kept a_aside a_spelled a_image c_thrown c_taped c_at c_part c_partFrom c_partNumber c_wrong c_partWord c_readLaw c_readBound c_readGoal c_readSites c_scripts c_sites c_asked c_outcome c_took c_acts c_drawn c_racer c_raced c_spelledMany c_hasImage) s.heap := hP.sub (ws' := [(a_, .inr (9, [.int c_thrown, .ref a_tape, .int c_taped, .int c_at, .int c_part, .int c_partFrom, .int c_partNumber, .int c_wrong, .long c_partWord, .int c_readLaw, .int c_readBound, .int c_readGoal, .int c_readSites, .ref a_readPlace, .ref a_script, .ref a_scriptLong, .int c_scripts, .ref a_now, .ref a_refused, .int c_sites, .ref a_shareX, .ref a_shareY, .int c_asked, .int c_outcome, .ref a_askedRow, .int c_took, .ref a_kept, .int c_acts, .long c_drawn, .ref a_aside, .int c_racer, .int c_raced, .ref a_spelled, .int c_spelledMany, .ref a_image, .int c_hasImage]))]) [0] rfl
    have hrc := va_recv hK hPc (ci := 9) (q0 := 0) rfl rfl
    refine pE_i (va_runV (As := [.int p2, .int (0 : Int32), .int (3 : Int32), .int (c_now 64)]) (rest := [])  ⟨hx, hb, hml, hown, hts⟩ (f_X8_whySet l E (a_ := a_) (a_tape := a_tape) (a_readPlace := a_readPlace) (a_script := a_script) (a_scriptLong := a_scriptLong) (a_now := a_now) (a_refused := a_refused) (a_shareX := a_shareX) (a_shareY := a_shareY) (a_askedRow := a_askedRow) (a_kept := a_kept) (a_aside := a_aside) (a_spelled := a_spelled) (a_image := a_image) (p1 := p2) (p2 := (0 : Int32)) (p3 := (3 : Int32)) (p4 := c_now 64) (c_thrown := c_thrown) (c_taped := c_taped) (c_at := c_at) (c_part := c_part) (c_partFrom := c_partFrom) (c_partNumber := c_partNumber) (c_wrong := c_wrong) (c_partWord := c_partWord) (c_readLaw := c_readLaw) (c_readBound := c_readBound) (c_readGoal := c_readGoal) (c_readSites := c_readSites) (c_scripts := c_scripts) (c_sites := c_sites) (c_asked := c_asked) (c_outcome := c_outcome) (c_took := c_took) (c_acts := c_acts) (c_drawn := c_drawn) (c_racer := c_racer) (c_raced := c_raced) (c_spelledMany := c_spelledMany) (c_hasImage := c_hasImage) hc_11) (cwV 4 hts g_f_X8_whyNot_f_X8_whySet_306 rfl rfl rfl hd_X8_whySet ⟨Nat.le_of_ble_eq_true rfl, Nat.le_of_ble_eq_true rfl⟩) ⟨pP.blind, hrc, (pP.pre ⟨hK, hN⟩ hPc)⟩ rfl rfl hl.1 rfl (lv_room (Nat.le_of_ble_eq_true rfl)) dX8_whyNot_94 ⟨Nat.le_of_ble_eq_true rfl, Nat.le_of_ble_eq_true rfl⟩) ?_
    rw [hQ]
    obtain e9_0 := inj1 hF
    exact W.iret (v := r_10) hx hb hr (fun tt ht hW => ⟨_, rfl, e9_0, ht⟩) (fun _ h => by cases h) dX8_whyNot_97
  replace hF := inn c_1_3 hF
  rcases Classical.em (p1 = (4 : Int32)) with c_1_4 | c_1_4
  ·
    replace hF := ip c_1_4 hF
    refine lv_tableIn (off := 97) (tgt := 98) hx hb dX8_whyNot_1 (by rw [c_1_4]; decide) (by rw [c_1_4]; decide) (by rw [c_1_4]; decide) (by decide) ?_
    refine lv_aload_n hx hb dX8_whyNot_98 rfl (lv_at hl 0 rfl) ?_
    refine lv_iload_n hx hb dX8_whyNot_99 rfl (lv_at hl 2 rfl) ?_
    refine lv_iload_n hx hb dX8_whyNot_100 rfl (lv_at hl 3 rfl) ?_
    replace hF := bd1_s hF
    obtain ⟨r_12, hc_13, hF⟩ := hF
    have hPc : va_P E.1 vwCl (w_X8_whyAdd E a_ a_tape a_readPlace a_script a_scriptLong a_now a_refused a_shareX a_shareY a_askedRow a_kept a_aside a_spelled a_image c_thrown c_taped c_at c_part c_partFrom c_partNumber c_wrong c_partWord c_readLaw c_readBound c_readGoal c_readSites c_scripts c_sites c_asked c_outcome c_took c_acts c_drawn c_racer c_raced c_spelledMany c_hasImage c_now) s.heap := hP.sub (ws' := [(a_, .inr (9, [.int c_thrown, .ref a_tape, .int c_taped, .int c_at, .int c_part, .int c_partFrom, .int c_partNumber, .int c_wrong, .long c_partWord, .int c_readLaw, .int c_readBound, .int c_readGoal, .int c_readSites, .ref a_readPlace, .ref a_script, .ref a_scriptLong, .int c_scripts, .ref a_now, .ref a_refused, .int c_sites, .ref a_shareX, .ref a_shareY, .int c_asked, .int c_outcome, .ref a_askedRow, .int c_took, .ref a_kept, .int c_acts, .long c_drawn, .ref a_aside, .int c_racer, .int c_raced, .ref a_spelled, .int c_spelledMany, .ref a_image, .int c_hasImage])), (a_now, .inl (E.2.1, 265, .inl c_now))]) [0, 1] rfl
    have hrc := va_recv hK hPc (ci := 9) (q0 := 0) rfl rfl
    refine pE_i (va_runV (As := [.int p2, .int p3]) (rest := [])  ⟨hx, hb, hml, hown, hts⟩ (f_X8_whyAdd l E (a_ := a_) (a_tape := a_tape) (a_readPlace := a_readPlace) (a_script := a_script) (a_scriptLong := a_scriptLong) (a_now := a_now) (a_refused := a_refused) (a_shareX := a_shareX) (a_shareY := a_shareY) (a_askedRow := a_askedRow) (a_kept := a_kept) (a_aside := a_aside) (a_spelled := a_spelled) (a_image := a_image) (p1 := p2) (p2 := p3) (c_thrown := c_thrown) (c_taped := c_taped) (c_at := c_at) (c_part := c_part) (c_partFrom := c_partFrom) (c_partNumber := c_partNumber) (c_wrong := c_wrong) (c_partWord := c_partWord) (c_readLaw := c_readLaw) (c_readBound := c_readBound) (c_readGoal := c_readGoal) (c_readSites := c_readSites) (c_scripts := c_scripts) (c_sites := c_sites) (c_asked := c_asked) (c_outcome := c_outcome) (c_took := c_took) (c_acts := c_acts) (c_drawn := c_drawn) (c_racer := c_racer) (c_raced := c_raced) (c_spelledMany := c_spelledMany) (c_hasImage := c_hasImage) (c_now := c_now) hc_13) (cwV 2 hts g_f_X8_whyNot_f_X8_whyAdd_310 rfl rfl rfl hd_X8_whyAdd ⟨Nat.le_of_ble_eq_true rfl, Nat.le_of_ble_eq_true rfl⟩) ⟨pP.blind, hrc, (pP.pre ⟨hK, hN⟩ hPc)⟩ rfl rfl hl.1 rfl (lv_room (Nat.le_of_ble_eq_true rfl)) dX8_whyNot_101 ⟨Nat.le_of_ble_eq_true rfl, Nat.le_of_ble_eq_true rfl⟩) ?_
    rw [hQ]
    obtain e9_0 := inj1 hF
    exact W.iret (v := r_12) hx hb hr (fun tt ht hW => ⟨_, rfl, e9_0, ht⟩) (fun _ h => by cases h) dX8_whyNot_104
  replace hF := inn c_1_4 hF
  rcases Classical.em (p1 = (5 : Int32)) with c_1_5 | c_1_5
  ·
    replace hF := ip c_1_5 hF
    refine lv_tableIn (off := 110) (tgt := 111) hx hb dX8_whyNot_1 (by rw [c_1_5]; decide) (by rw [c_1_5]; decide) (by rw [c_1_5]; decide) (by decide) ?_
    refine lv_aload_n hx hb dX8_whyNot_111 rfl (lv_at hl 0 rfl) ?_
    refine lv_iload_n hx hb dX8_whyNot_112 rfl (lv_at hl 2 rfl) ?_
    refine lv_iconst (v := 1) hx hb dX8_whyNot_113 (by decide) ?_
    refine lv_sipush (v := 9999) hx hb dX8_whyNot_114 (by decide) ?_
    refine lv_iconst (v := -1) hx hb dX8_whyNot_117 (by decide) ?_
    replace hF := bd1_s hF
    obtain ⟨r_14, hc_15, hF⟩ := hF
    have hPc : va_P E.1 vwCl (w_X8_whySet E a_ a_tape a_readPlace a_script a_scriptLong a_now a_refused a_shareX a_shareY a_askedRow a_kept a_aside a_spelled a_image c_thrown c_taped c_at c_part c_partFrom c_partNumber c_wrong c_partWord c_readLaw c_readBound c_readGoal c_readSites c_scripts c_sites c_asked c_outcome c_took c_acts c_drawn c_racer c_raced c_spelledMany c_hasImage) s.heap := hP.sub (ws' := [(a_, .inr (9, [.int c_thrown, .ref a_tape, .int c_taped, .int c_at, .int c_part, .int c_partFrom, .int c_partNumber, .int c_wrong, .long c_partWord, .int c_readLaw, .int c_readBound, .int c_readGoal, .int c_readSites, .ref a_readPlace, .ref a_script, .ref a_scriptLong, .int c_scripts, .ref a_now, .ref a_refused, .int c_sites, .ref a_shareX, .ref a_shareY, .int c_asked, .int c_outcome, .ref a_askedRow, .int c_took, .ref a_kept, .int c_acts, .long c_drawn, .ref a_aside, .int c_racer, .int c_raced, .ref a_spelled, .int c_spelledMany, .ref a_image, .int c_hasImage]))]) [0] rfl
    have hrc := va_recv hK hPc (ci := 9) (q0 := 0) rfl rfl
    refine pE_i (va_runV (As := [.int p2, .int (1 : Int32), .int (9999 : Int32), .int (-1 : Int32)]) (rest := [])  ⟨hx, hb, hml, hown, hts⟩ (f_X8_whySet l E (a_ := a_) (a_tape := a_tape) (a_readPlace := a_readPlace) (a_script := a_script) (a_scriptLong := a_scriptLong) (a_now := a_now) (a_refused := a_refused) (a_shareX := a_shareX) (a_shareY := a_shareY) (a_askedRow := a_askedRow) (a_kept := a_kept) (a_aside := a_aside) (a_spelled := a_spelled) (a_image := a_image) (p1 := p2) (p2 := (1 : Int32)) (p3 := (9999 : Int32)) (p4 := (-1 : Int32)) (c_thrown := c_thrown) (c_taped := c_taped) (c_at := c_at) (c_part := c_part) (c_partFrom := c_partFrom) (c_partNumber := c_partNumber) (c_wrong := c_wrong) (c_partWord := c_partWord) (c_readLaw := c_readLaw) (c_readBound := c_readBound) (c_readGoal := c_readGoal) (c_readSites := c_readSites) (c_scripts := c_scripts) (c_sites := c_sites) (c_asked := c_asked) (c_outcome := c_outcome) (c_took := c_took) (c_acts := c_acts) (c_drawn := c_drawn) (c_racer := c_racer) (c_raced := c_raced) (c_spelledMany := c_spelledMany) (c_hasImage := c_hasImage) hc_15) (cwV 4 hts g_f_X8_whyNot_f_X8_whySet_306 rfl rfl rfl hd_X8_whySet ⟨Nat.le_of_ble_eq_true rfl, Nat.le_of_ble_eq_true rfl⟩) ⟨pP.blind, hrc, (pP.pre ⟨hK, hN⟩ hPc)⟩ rfl rfl hl.1 rfl (lv_room (Nat.le_of_ble_eq_true rfl)) dX8_whyNot_118 ⟨Nat.le_of_ble_eq_true rfl, Nat.le_of_ble_eq_true rfl⟩) ?_
    rw [hQ]
    obtain e9_0 := inj1 hF
    exact W.iret (v := r_14) hx hb hr (fun tt ht hW => ⟨_, rfl, e9_0, ht⟩) (fun _ h => by cases h) dX8_whyNot_121
  replace hF := inn c_1_5 hF
  rcases Classical.em (p1 = (6 : Int32)) with c_1_6 | c_1_6
  ·
    replace hF := ip c_1_6 hF
    refine lv_tableIn (off := 104) (tgt := 105) hx hb dX8_whyNot_1 (by rw [c_1_6]; decide) (by rw [c_1_6]; decide) (by rw [c_1_6]; decide) (by decide) ?_
    refine lv_aload_n hx hb dX8_whyNot_105 rfl (lv_at hl 0 rfl) ?_
    refine lv_iload_n hx hb dX8_whyNot_106 rfl (lv_at hl 2 rfl) ?_
    replace hF := bd1_s hF
    obtain ⟨r_16, hc_17, hF⟩ := hF
    have hPc : va_P E.1 vwCl (w_X8_whyFreeze E a_ a_tape a_readPlace a_script a_scriptLong a_now a_refused a_shareX a_shareY a_askedRow a_kept a_aside a_spelled a_image c_thrown c_taped c_at c_part c_partFrom c_partNumber c_wrong c_partWord c_readLaw c_readBound c_readGoal c_readSites c_scripts c_sites c_asked c_outcome c_took c_acts c_drawn c_racer c_raced c_spelledMany c_hasImage c_now) s.heap := hP.sub (ws' := [(a_, .inr (9, [.int c_thrown, .ref a_tape, .int c_taped, .int c_at, .int c_part, .int c_partFrom, .int c_partNumber, .int c_wrong, .long c_partWord, .int c_readLaw, .int c_readBound, .int c_readGoal, .int c_readSites, .ref a_readPlace, .ref a_script, .ref a_scriptLong, .int c_scripts, .ref a_now, .ref a_refused, .int c_sites, .ref a_shareX, .ref a_shareY, .int c_asked, .int c_outcome, .ref a_askedRow, .int c_took, .ref a_kept, .int c_acts, .long c_drawn, .ref a_aside, .int c_racer, .int c_raced, .ref a_spelled, .int c_spelledMany, .ref a_image, .int c_hasImage])), (a_now, .inl (E.2.1, 265, .inl c_now))]) [0, 1] rfl
    have hrc := va_recv hK hPc (ci := 9) (q0 := 0) rfl rfl
    refine pE_i (va_runV (As := [.int p2]) (rest := [])  ⟨hx, hb, hml, hown, hts⟩ (f_X8_whyFreeze l E K (a_ := a_) (a_tape := a_tape) (a_readPlace := a_readPlace) (a_script := a_script) (a_scriptLong := a_scriptLong) (a_now := a_now) (a_refused := a_refused) (a_shareX := a_shareX) (a_shareY := a_shareY) (a_askedRow := a_askedRow) (a_kept := a_kept) (a_aside := a_aside) (a_spelled := a_spelled) (a_image := a_image) (p1 := p2) (c_thrown := c_thrown) (c_taped := c_taped) (c_at := c_at) (c_part := c_part) (c_partFrom := c_partFrom) (c_partNumber := c_partNumber) (c_wrong := c_wrong) (c_partWord := c_partWord) (c_readLaw := c_readLaw) (c_readBound := c_readBound) (c_readGoal := c_readGoal) (c_readSites := c_readSites) (c_scripts := c_scripts) (c_sites := c_sites) (c_asked := c_asked) (c_outcome := c_outcome) (c_took := c_took) (c_acts := c_acts) (c_drawn := c_drawn) (c_racer := c_racer) (c_raced := c_raced) (c_spelledMany := c_spelledMany) (c_hasImage := c_hasImage) (c_now := c_now) hc_17) (cwV 1 hts g_f_X8_whyNot_f_X8_whyFreeze_313 rfl rfl rfl hd_X8_whyFreeze ⟨Nat.le_of_ble_eq_true rfl, Nat.le_of_ble_eq_true rfl⟩) ⟨pP.blind, hrc, (pP.pre ⟨hK, hN⟩ hPc)⟩ rfl rfl hl.1 rfl (lv_room (Nat.le_of_ble_eq_true rfl)) dX8_whyNot_107 ⟨Nat.le_of_ble_eq_true rfl, Nat.le_of_ble_eq_true rfl⟩) ?_
    rw [hQ]
    obtain e9_0 := inj1 hF
    exact W.iret (v := r_16) hx hb hr (fun tt ht hW => ⟨_, rfl, e9_0, ht⟩) (fun _ h => by cases h) dX8_whyNot_110
  replace hF := inn c_1_6 hF
  refine lv_tableOut (tgt := 111) hx hb dX8_whyNot_1 (by have t0 : (0 : Int32).toInt = 0 := (by decide); have t1 : (1 : Int32).toInt = 1 := (by decide); have t2 : (2 : Int32).toInt = 2 := (by decide); have t3 : (3 : Int32).toInt = 3 := (by decide); have t4 : (4 : Int32).toInt = 4 := (by decide); have t5 : (5 : Int32).toInt = 5 := (by decide); have t6 : (6 : Int32).toInt = 6 := (by decide); simp only [← Int32.toInt_inj, t0, t1, t2, t3, t4, t5, t6] at c_1_0 c_1_1 c_1_2 c_1_3 c_1_4 c_1_5 c_1_6; omega) (by decide) ?_
  refine lv_aload_n hx hb dX8_whyNot_111 rfl (lv_at hl 0 rfl) ?_
  refine lv_iload_n hx hb dX8_whyNot_112 rfl (lv_at hl 2 rfl) ?_
  refine lv_iconst (v := 1) hx hb dX8_whyNot_113 (by decide) ?_
  refine lv_sipush (v := 9999) hx hb dX8_whyNot_114 (by decide) ?_
  refine lv_iconst (v := -1) hx hb dX8_whyNot_117 (by decide) ?_
  replace hF := bd1_s hF
  obtain ⟨r_18, hc_19, hF⟩ := hF
  have hPc : va_P E.1 vwCl (w_X8_whySet E a_ a_tape a_readPlace a_script a_scriptLong a_now a_refused a_shareX a_shareY a_askedRow a_kept a_aside a_spelled a_image c_thrown c_taped c_at c_part c_partFrom c_partNumber c_wrong c_partWord c_readLaw c_readBound c_readGoal c_readSites c_scripts c_sites c_asked c_outcome c_took c_acts c_drawn c_racer c_raced c_spelledMany c_hasImage) s.heap := hP.sub (ws' := [(a_, .inr (9, [.int c_thrown, .ref a_tape, .int c_taped, .int c_at, .int c_part, .int c_partFrom, .int c_partNumber, .int c_wrong, .long c_partWord, .int c_readLaw, .int c_readBound, .int c_readGoal, .int c_readSites, .ref a_readPlace, .ref a_script, .ref a_scriptLong, .int c_scripts, .ref a_now, .ref a_refused, .int c_sites, .ref a_shareX, .ref a_shareY, .int c_asked, .int c_outcome, .ref a_askedRow, .int c_took, .ref a_kept, .int c_acts, .long c_drawn, .ref a_aside, .int c_racer, .int c_raced, .ref a_spelled, .int c_spelledMany, .ref a_image, .int c_hasImage]))]) [0] rfl
  have hrc := va_recv hK hPc (ci := 9) (q0 := 0) rfl rfl
  refine pE_i (va_runV (As := [.int p2, .int (1 : Int32), .int (9999 : Int32), .int (-1 : Int32)]) (rest := [])  ⟨hx, hb, hml, hown, hts⟩ (f_X8_whySet l E (a_ := a_) (a_tape := a_tape) (a_readPlace := a_readPlace) (a_script := a_script) (a_scriptLong := a_scriptLong) (a_now := a_now) (a_refused := a_refused) (a_shareX := a_shareX) (a_shareY := a_shareY) (a_askedRow := a_askedRow) (a_kept := a_kept) (a_aside := a_aside) (a_spelled := a_spelled) (a_image := a_image) (p1 := p2) (p2 := (1 : Int32)) (p3 := (9999 : Int32)) (p4 := (-1 : Int32)) (c_thrown := c_thrown) (c_taped := c_taped) (c_at := c_at) (c_part := c_part) (c_partFrom := c_partFrom) (c_partNumber := c_partNumber) (c_wrong := c_wrong) (c_partWord := c_partWord) (c_readLaw := c_readLaw) (c_readBound := c_readBound) (c_readGoal := c_readGoal) (c_readSites := c_readSites) (c_scripts := c_scripts) (c_sites := c_sites) (c_asked := c_asked) (c_outcome := c_outcome) (c_took := c_took) (c_acts := c_acts) (c_drawn := c_drawn) (c_racer := c_racer) (c_raced := c_raced) (c_spelledMany := c_spelledMany) (c_hasImage := c_hasImage) hc_19) (cwV 4 hts g_f_X8_whyNot_f_X8_whySet_306 rfl rfl rfl hd_X8_whySet ⟨Nat.le_of_ble_eq_true rfl, Nat.le_of_ble_eq_true rfl⟩) ⟨pP.blind, hrc, (pP.pre ⟨hK, hN⟩ hPc)⟩ rfl rfl hl.1 rfl (lv_room (Nat.le_of_ble_eq_true rfl)) dX8_whyNot_118 ⟨Nat.le_of_ble_eq_true rfl, Nat.le_of_ble_eq_true rfl⟩) ?_
  rw [hQ]
  obtain e9_0 := inj1 hF
  exact W.iret (v := r_18) hx hb hr (fun tt ht hW => ⟨_, rfl, e9_0, ht⟩) (fun _ h => by cases h) dX8_whyNot_121
