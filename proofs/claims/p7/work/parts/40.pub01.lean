def dl_X7_asked_40_pub01_0 : List (Nat × Instr × Nat) := [(0, .aload_n 0, 1), (1, .getfield 35, 3), (4, .iconst 0, 1), (5, .iload_n 1, 1), (6, .iload_n 2, 1), (7, .iload_n 3, 1), (8, .invokevirtual 220, 3), (11, .iconst (-1), 1), (12, .if_icmp .eq 5, 3), (17, .aload_n 0, 1), (18, .iload_n 1, 1), (19, .iload_n 2, 1), (20, .iload_n 3, 1), (21, .invokevirtual 224, 3), (24, .pop, 1), (25, .iload 4, 2), (27, .ifCond .lt 35, 3), (62, .iconst (-1), 1), (63, .ireturn, 1), (30, .iload 4, 2), (32, .aload_n 0, 1), (33, .getfield 39, 3), (36, .getfield 228, 3), (39, .if_icmp .ge 23, 3), (42, .iload 4, 2), (44, .bipush 8, 2), (46, .if_icmp .ge 16, 3), (49, .aload_n 0, 1), (50, .getfield 39, 3), (53, .getfield 234, 3), (56, .iload 4, 2), (58, .iaload, 1), (59, .goto 4, 3), (15, .iconst (-1), 1), (16, .ireturn, 1)]
set_option maxRecDepth 100000 in
theorem dall_X7_asked_40_pub01_0 : dchk cX7_asked dl_X7_asked_40_pub01_0 = true := by decide +kernel
theorem dX7_asked_0 : decode cX7_asked 0 = .ok (.aload_n 0, 1) := dchk_at dall_X7_asked_40_pub01_0 (k := 0) rfl
theorem dX7_asked_1 : decode cX7_asked 1 = .ok (.getfield 35, 3) := dchk_at dall_X7_asked_40_pub01_0 (k := 1) rfl
theorem dX7_asked_4 : decode cX7_asked 4 = .ok (.iconst 0, 1) := dchk_at dall_X7_asked_40_pub01_0 (k := 2) rfl
theorem dX7_asked_5 : decode cX7_asked 5 = .ok (.iload_n 1, 1) := dchk_at dall_X7_asked_40_pub01_0 (k := 3) rfl
theorem dX7_asked_6 : decode cX7_asked 6 = .ok (.iload_n 2, 1) := dchk_at dall_X7_asked_40_pub01_0 (k := 4) rfl
theorem dX7_asked_7 : decode cX7_asked 7 = .ok (.iload_n 3, 1) := dchk_at dall_X7_asked_40_pub01_0 (k := 5) rfl
theorem dX7_asked_8 : decode cX7_asked 8 = .ok (.invokevirtual 220, 3) := dchk_at dall_X7_asked_40_pub01_0 (k := 6) rfl
theorem dX7_asked_11 : decode cX7_asked 11 = .ok (.iconst (-1), 1) := dchk_at dall_X7_asked_40_pub01_0 (k := 7) rfl
theorem dX7_asked_12 : decode cX7_asked 12 = .ok (.if_icmp .eq 5, 3) := dchk_at dall_X7_asked_40_pub01_0 (k := 8) rfl
theorem dX7_asked_17 : decode cX7_asked 17 = .ok (.aload_n 0, 1) := dchk_at dall_X7_asked_40_pub01_0 (k := 9) rfl
theorem dX7_asked_18 : decode cX7_asked 18 = .ok (.iload_n 1, 1) := dchk_at dall_X7_asked_40_pub01_0 (k := 10) rfl
theorem dX7_asked_19 : decode cX7_asked 19 = .ok (.iload_n 2, 1) := dchk_at dall_X7_asked_40_pub01_0 (k := 11) rfl
theorem dX7_asked_20 : decode cX7_asked 20 = .ok (.iload_n 3, 1) := dchk_at dall_X7_asked_40_pub01_0 (k := 12) rfl
theorem dX7_asked_21 : decode cX7_asked 21 = .ok (.invokevirtual 224, 3) := dchk_at dall_X7_asked_40_pub01_0 (k := 13) rfl
theorem dX7_asked_24 : decode cX7_asked 24 = .ok (.pop, 1) := dchk_at dall_X7_asked_40_pub01_0 (k := 14) rfl
theorem dX7_asked_25 : decode cX7_asked 25 = .ok (.iload 4, 2) := dchk_at dall_X7_asked_40_pub01_0 (k := 15) rfl
theorem dX7_asked_27 : decode cX7_asked 27 = .ok (.ifCond .lt 35, 3) := dchk_at dall_X7_asked_40_pub01_0 (k := 16) rfl
theorem dX7_asked_62 : decode cX7_asked 62 = .ok (.iconst (-1), 1) := dchk_at dall_X7_asked_40_pub01_0 (k := 17) rfl
theorem dX7_asked_63 : decode cX7_asked 63 = .ok (.ireturn, 1) := dchk_at dall_X7_asked_40_pub01_0 (k := 18) rfl
theorem dX7_asked_30 : decode cX7_asked 30 = .ok (.iload 4, 2) := dchk_at dall_X7_asked_40_pub01_0 (k := 19) rfl
theorem dX7_asked_32 : decode cX7_asked 32 = .ok (.aload_n 0, 1) := dchk_at dall_X7_asked_40_pub01_0 (k := 20) rfl
theorem dX7_asked_33 : decode cX7_asked 33 = .ok (.getfield 39, 3) := dchk_at dall_X7_asked_40_pub01_0 (k := 21) rfl
theorem dX7_asked_36 : decode cX7_asked 36 = .ok (.getfield 228, 3) := dchk_at dall_X7_asked_40_pub01_0 (k := 22) rfl
theorem dX7_asked_39 : decode cX7_asked 39 = .ok (.if_icmp .ge 23, 3) := dchk_at dall_X7_asked_40_pub01_0 (k := 23) rfl
theorem dX7_asked_42 : decode cX7_asked 42 = .ok (.iload 4, 2) := dchk_at dall_X7_asked_40_pub01_0 (k := 24) rfl
theorem dX7_asked_44 : decode cX7_asked 44 = .ok (.bipush 8, 2) := dchk_at dall_X7_asked_40_pub01_0 (k := 25) rfl
theorem dX7_asked_46 : decode cX7_asked 46 = .ok (.if_icmp .ge 16, 3) := dchk_at dall_X7_asked_40_pub01_0 (k := 26) rfl
theorem dX7_asked_49 : decode cX7_asked 49 = .ok (.aload_n 0, 1) := dchk_at dall_X7_asked_40_pub01_0 (k := 27) rfl
theorem dX7_asked_50 : decode cX7_asked 50 = .ok (.getfield 39, 3) := dchk_at dall_X7_asked_40_pub01_0 (k := 28) rfl
theorem dX7_asked_53 : decode cX7_asked 53 = .ok (.getfield 234, 3) := dchk_at dall_X7_asked_40_pub01_0 (k := 29) rfl
theorem dX7_asked_56 : decode cX7_asked 56 = .ok (.iload 4, 2) := dchk_at dall_X7_asked_40_pub01_0 (k := 30) rfl
theorem dX7_asked_58 : decode cX7_asked 58 = .ok (.iaload, 1) := dchk_at dall_X7_asked_40_pub01_0 (k := 31) rfl
theorem dX7_asked_59 : decode cX7_asked 59 = .ok (.goto 4, 3) := dchk_at dall_X7_asked_40_pub01_0 (k := 32) rfl
theorem dX7_asked_15 : decode cX7_asked 15 = .ok (.iconst (-1), 1) := dchk_at dall_X7_asked_40_pub01_0 (k := 33) rfl
theorem dX7_asked_16 : decode cX7_asked 16 = .ok (.ireturn, 1) := dchk_at dall_X7_asked_40_pub01_0 (k := 34) rfl
def dl_X7_back_40_pub01_0 : List (Nat × Instr × Nat) := [(0, .aload_n 0, 1), (1, .getfield 73, 3), (4, .ifCond .ne 5, 3), (9, .aload_n 0, 1), (10, .getfield 35, 3), (13, .aload_n 0, 1), (14, .getfield 42, 3), (17, .invokevirtual 237, 3), (20, .aload_n 0, 1), (21, .getfield 48, 3), (24, .aload_n 0, 1), (25, .getfield 52, 3), (28, .invokevirtual 311, 3), (31, .aload_n 0, 1), (32, .getfield 58, 3), (35, .invokevirtual 314, 3), (38, .aload_n 0, 1), (39, .getfield 35, 3), (42, .getfield 114, 3), (45, .bipush 11, 2), (47, .iaload, 1), (48, .ireturn, 1), (7, .iconst (-1), 1), (8, .ireturn, 1)]
set_option maxRecDepth 100000 in
theorem dall_X7_back_40_pub01_0 : dchk cX7_back dl_X7_back_40_pub01_0 = true := by decide +kernel
theorem dX7_back_0 : decode cX7_back 0 = .ok (.aload_n 0, 1) := dchk_at dall_X7_back_40_pub01_0 (k := 0) rfl
theorem dX7_back_1 : decode cX7_back 1 = .ok (.getfield 73, 3) := dchk_at dall_X7_back_40_pub01_0 (k := 1) rfl
theorem dX7_back_4 : decode cX7_back 4 = .ok (.ifCond .ne 5, 3) := dchk_at dall_X7_back_40_pub01_0 (k := 2) rfl
theorem dX7_back_9 : decode cX7_back 9 = .ok (.aload_n 0, 1) := dchk_at dall_X7_back_40_pub01_0 (k := 3) rfl
theorem dX7_back_10 : decode cX7_back 10 = .ok (.getfield 35, 3) := dchk_at dall_X7_back_40_pub01_0 (k := 4) rfl
theorem dX7_back_13 : decode cX7_back 13 = .ok (.aload_n 0, 1) := dchk_at dall_X7_back_40_pub01_0 (k := 5) rfl
theorem dX7_back_14 : decode cX7_back 14 = .ok (.getfield 42, 3) := dchk_at dall_X7_back_40_pub01_0 (k := 6) rfl
theorem dX7_back_17 : decode cX7_back 17 = .ok (.invokevirtual 237, 3) := dchk_at dall_X7_back_40_pub01_0 (k := 7) rfl
theorem dX7_back_20 : decode cX7_back 20 = .ok (.aload_n 0, 1) := dchk_at dall_X7_back_40_pub01_0 (k := 8) rfl
theorem dX7_back_21 : decode cX7_back 21 = .ok (.getfield 48, 3) := dchk_at dall_X7_back_40_pub01_0 (k := 9) rfl
theorem dX7_back_24 : decode cX7_back 24 = .ok (.aload_n 0, 1) := dchk_at dall_X7_back_40_pub01_0 (k := 10) rfl
theorem dX7_back_25 : decode cX7_back 25 = .ok (.getfield 52, 3) := dchk_at dall_X7_back_40_pub01_0 (k := 11) rfl
theorem dX7_back_28 : decode cX7_back 28 = .ok (.invokevirtual 311, 3) := dchk_at dall_X7_back_40_pub01_0 (k := 12) rfl
theorem dX7_back_31 : decode cX7_back 31 = .ok (.aload_n 0, 1) := dchk_at dall_X7_back_40_pub01_0 (k := 13) rfl
theorem dX7_back_32 : decode cX7_back 32 = .ok (.getfield 58, 3) := dchk_at dall_X7_back_40_pub01_0 (k := 14) rfl
theorem dX7_back_35 : decode cX7_back 35 = .ok (.invokevirtual 314, 3) := dchk_at dall_X7_back_40_pub01_0 (k := 15) rfl
theorem dX7_back_38 : decode cX7_back 38 = .ok (.aload_n 0, 1) := dchk_at dall_X7_back_40_pub01_0 (k := 16) rfl
theorem dX7_back_39 : decode cX7_back 39 = .ok (.getfield 35, 3) := dchk_at dall_X7_back_40_pub01_0 (k := 17) rfl
theorem dX7_back_42 : decode cX7_back 42 = .ok (.getfield 114, 3) := dchk_at dall_X7_back_40_pub01_0 (k := 18) rfl
theorem dX7_back_45 : decode cX7_back 45 = .ok (.bipush 11, 2) := dchk_at dall_X7_back_40_pub01_0 (k := 19) rfl
theorem dX7_back_47 : decode cX7_back 47 = .ok (.iaload, 1) := dchk_at dall_X7_back_40_pub01_0 (k := 20) rfl
theorem dX7_back_48 : decode cX7_back 48 = .ok (.ireturn, 1) := dchk_at dall_X7_back_40_pub01_0 (k := 21) rfl
theorem dX7_back_7 : decode cX7_back 7 = .ok (.iconst (-1), 1) := dchk_at dall_X7_back_40_pub01_0 (k := 22) rfl
theorem dX7_back_8 : decode cX7_back 8 = .ok (.ireturn, 1) := dchk_at dall_X7_back_40_pub01_0 (k := 23) rfl
def dl_X7_beginWatch_40_pub01_0 : List (Nat × Instr × Nat) := [(0, .aload_n 0, 1), (1, .getfield 35, 3), (4, .aload_n 0, 1), (5, .getfield 21, 3), (8, .invokevirtual 318, 3), (11, .aload_n 0, 1), (12, .getfield 58, 3), (15, .invokevirtual 314, 3), (18, .aload_n 0, 1), (19, .iconst 0, 1), (20, .putfield 73, 3), (23, .aload_n 0, 1), (24, .getfield 10, 3), (27, .iconst 0, 1), (28, .invokevirtual 89, 3), (31, .pop, 1), (32, .aload_n 0, 1), (33, .getfield 35, 3), (36, .invokevirtual 117, 3), (39, .ireturn, 1)]
set_option maxRecDepth 100000 in
theorem dall_X7_beginWatch_40_pub01_0 : dchk cX7_beginWatch dl_X7_beginWatch_40_pub01_0 = true := by decide +kernel
theorem dX7_beginWatch_0 : decode cX7_beginWatch 0 = .ok (.aload_n 0, 1) := dchk_at dall_X7_beginWatch_40_pub01_0 (k := 0) rfl
theorem dX7_beginWatch_1 : decode cX7_beginWatch 1 = .ok (.getfield 35, 3) := dchk_at dall_X7_beginWatch_40_pub01_0 (k := 1) rfl
theorem dX7_beginWatch_4 : decode cX7_beginWatch 4 = .ok (.aload_n 0, 1) := dchk_at dall_X7_beginWatch_40_pub01_0 (k := 2) rfl
theorem dX7_beginWatch_5 : decode cX7_beginWatch 5 = .ok (.getfield 21, 3) := dchk_at dall_X7_beginWatch_40_pub01_0 (k := 3) rfl
theorem dX7_beginWatch_8 : decode cX7_beginWatch 8 = .ok (.invokevirtual 318, 3) := dchk_at dall_X7_beginWatch_40_pub01_0 (k := 4) rfl
theorem dX7_beginWatch_11 : decode cX7_beginWatch 11 = .ok (.aload_n 0, 1) := dchk_at dall_X7_beginWatch_40_pub01_0 (k := 5) rfl
theorem dX7_beginWatch_12 : decode cX7_beginWatch 12 = .ok (.getfield 58, 3) := dchk_at dall_X7_beginWatch_40_pub01_0 (k := 6) rfl
theorem dX7_beginWatch_15 : decode cX7_beginWatch 15 = .ok (.invokevirtual 314, 3) := dchk_at dall_X7_beginWatch_40_pub01_0 (k := 7) rfl
theorem dX7_beginWatch_18 : decode cX7_beginWatch 18 = .ok (.aload_n 0, 1) := dchk_at dall_X7_beginWatch_40_pub01_0 (k := 8) rfl
theorem dX7_beginWatch_19 : decode cX7_beginWatch 19 = .ok (.iconst 0, 1) := dchk_at dall_X7_beginWatch_40_pub01_0 (k := 9) rfl
theorem dX7_beginWatch_20 : decode cX7_beginWatch 20 = .ok (.putfield 73, 3) := dchk_at dall_X7_beginWatch_40_pub01_0 (k := 10) rfl
theorem dX7_beginWatch_23 : decode cX7_beginWatch 23 = .ok (.aload_n 0, 1) := dchk_at dall_X7_beginWatch_40_pub01_0 (k := 11) rfl
theorem dX7_beginWatch_24 : decode cX7_beginWatch 24 = .ok (.getfield 10, 3) := dchk_at dall_X7_beginWatch_40_pub01_0 (k := 12) rfl
theorem dX7_beginWatch_27 : decode cX7_beginWatch 27 = .ok (.iconst 0, 1) := dchk_at dall_X7_beginWatch_40_pub01_0 (k := 13) rfl
theorem dX7_beginWatch_28 : decode cX7_beginWatch 28 = .ok (.invokevirtual 89, 3) := dchk_at dall_X7_beginWatch_40_pub01_0 (k := 14) rfl
theorem dX7_beginWatch_31 : decode cX7_beginWatch 31 = .ok (.pop, 1) := dchk_at dall_X7_beginWatch_40_pub01_0 (k := 15) rfl
theorem dX7_beginWatch_32 : decode cX7_beginWatch 32 = .ok (.aload_n 0, 1) := dchk_at dall_X7_beginWatch_40_pub01_0 (k := 16) rfl
theorem dX7_beginWatch_33 : decode cX7_beginWatch 33 = .ok (.getfield 35, 3) := dchk_at dall_X7_beginWatch_40_pub01_0 (k := 17) rfl
theorem dX7_beginWatch_36 : decode cX7_beginWatch 36 = .ok (.invokevirtual 117, 3) := dchk_at dall_X7_beginWatch_40_pub01_0 (k := 18) rfl
theorem dX7_beginWatch_39 : decode cX7_beginWatch 39 = .ok (.ireturn, 1) := dchk_at dall_X7_beginWatch_40_pub01_0 (k := 19) rfl
def dl_X7_bound_40_pub01_0 : List (Nat × Instr × Nat) := [(0, .aload_n 0, 1), (1, .getfield 35, 3), (4, .getfield 114, 3), (7, .iconst 1, 1), (8, .iaload, 1), (9, .istore_n 2, 1), (10, .aload_n 0, 1), (11, .iconst 2, 1), (12, .iload_n 1, 1), (13, .iconst 0, 1), (14, .iconst 0, 1), (15, .iconst 1, 1), (16, .invokevirtual 163, 3), (19, .ifCond .ge 8, 3), (27, .iload_n 2, 1), (28, .ireturn, 1), (22, .ldc 113, 2), (24, .goto 4, 3)]
set_option maxRecDepth 100000 in
theorem dall_X7_bound_40_pub01_0 : dchk cX7_bound dl_X7_bound_40_pub01_0 = true := by decide +kernel
theorem dX7_bound_0 : decode cX7_bound 0 = .ok (.aload_n 0, 1) := dchk_at dall_X7_bound_40_pub01_0 (k := 0) rfl
theorem dX7_bound_1 : decode cX7_bound 1 = .ok (.getfield 35, 3) := dchk_at dall_X7_bound_40_pub01_0 (k := 1) rfl
theorem dX7_bound_4 : decode cX7_bound 4 = .ok (.getfield 114, 3) := dchk_at dall_X7_bound_40_pub01_0 (k := 2) rfl
theorem dX7_bound_7 : decode cX7_bound 7 = .ok (.iconst 1, 1) := dchk_at dall_X7_bound_40_pub01_0 (k := 3) rfl
theorem dX7_bound_8 : decode cX7_bound 8 = .ok (.iaload, 1) := dchk_at dall_X7_bound_40_pub01_0 (k := 4) rfl
theorem dX7_bound_9 : decode cX7_bound 9 = .ok (.istore_n 2, 1) := dchk_at dall_X7_bound_40_pub01_0 (k := 5) rfl
theorem dX7_bound_10 : decode cX7_bound 10 = .ok (.aload_n 0, 1) := dchk_at dall_X7_bound_40_pub01_0 (k := 6) rfl
theorem dX7_bound_11 : decode cX7_bound 11 = .ok (.iconst 2, 1) := dchk_at dall_X7_bound_40_pub01_0 (k := 7) rfl
theorem dX7_bound_12 : decode cX7_bound 12 = .ok (.iload_n 1, 1) := dchk_at dall_X7_bound_40_pub01_0 (k := 8) rfl
theorem dX7_bound_13 : decode cX7_bound 13 = .ok (.iconst 0, 1) := dchk_at dall_X7_bound_40_pub01_0 (k := 9) rfl
theorem dX7_bound_14 : decode cX7_bound 14 = .ok (.iconst 0, 1) := dchk_at dall_X7_bound_40_pub01_0 (k := 10) rfl
theorem dX7_bound_15 : decode cX7_bound 15 = .ok (.iconst 1, 1) := dchk_at dall_X7_bound_40_pub01_0 (k := 11) rfl
theorem dX7_bound_16 : decode cX7_bound 16 = .ok (.invokevirtual 163, 3) := dchk_at dall_X7_bound_40_pub01_0 (k := 12) rfl
theorem dX7_bound_19 : decode cX7_bound 19 = .ok (.ifCond .ge 8, 3) := dchk_at dall_X7_bound_40_pub01_0 (k := 13) rfl
theorem dX7_bound_27 : decode cX7_bound 27 = .ok (.iload_n 2, 1) := dchk_at dall_X7_bound_40_pub01_0 (k := 14) rfl
theorem dX7_bound_28 : decode cX7_bound 28 = .ok (.ireturn, 1) := dchk_at dall_X7_bound_40_pub01_0 (k := 15) rfl
theorem dX7_bound_22 : decode cX7_bound 22 = .ok (.ldc 113, 2) := dchk_at dall_X7_bound_40_pub01_0 (k := 16) rfl
theorem dX7_bound_24 : decode cX7_bound 24 = .ok (.goto 4, 3) := dchk_at dall_X7_bound_40_pub01_0 (k := 17) rfl
def dl_X7_canBeAsked_40_pub01_0 : List (Nat × Instr × Nat) := [(0, .aload_n 0, 1), (1, .getfield 35, 3), (4, .invokevirtual 110, 3), (7, .ifCond .eq 35, 3), (42, .iconst 0, 1), (43, .ireturn, 1), (10, .iload_n 1, 1), (11, .ldc_w 325, 3), (14, .if_icmp .lt 28, 3), (17, .iload_n 1, 1), (18, .ldc_w 326, 3), (21, .if_icmp .gt 21, 3), (24, .iload_n 2, 1), (25, .ldc_w 325, 3), (28, .if_icmp .lt 14, 3), (31, .iload_n 2, 1), (32, .ldc_w 326, 3), (35, .if_icmp .gt 7, 3), (38, .iconst 1, 1), (39, .goto 4, 3)]
set_option maxRecDepth 100000 in
theorem dall_X7_canBeAsked_40_pub01_0 : dchk cX7_canBeAsked dl_X7_canBeAsked_40_pub01_0 = true := by decide +kernel
theorem dX7_canBeAsked_0 : decode cX7_canBeAsked 0 = .ok (.aload_n 0, 1) := dchk_at dall_X7_canBeAsked_40_pub01_0 (k := 0) rfl
theorem dX7_canBeAsked_1 : decode cX7_canBeAsked 1 = .ok (.getfield 35, 3) := dchk_at dall_X7_canBeAsked_40_pub01_0 (k := 1) rfl
theorem dX7_canBeAsked_4 : decode cX7_canBeAsked 4 = .ok (.invokevirtual 110, 3) := dchk_at dall_X7_canBeAsked_40_pub01_0 (k := 2) rfl
theorem dX7_canBeAsked_7 : decode cX7_canBeAsked 7 = .ok (.ifCond .eq 35, 3) := dchk_at dall_X7_canBeAsked_40_pub01_0 (k := 3) rfl
theorem dX7_canBeAsked_42 : decode cX7_canBeAsked 42 = .ok (.iconst 0, 1) := dchk_at dall_X7_canBeAsked_40_pub01_0 (k := 4) rfl
theorem dX7_canBeAsked_43 : decode cX7_canBeAsked 43 = .ok (.ireturn, 1) := dchk_at dall_X7_canBeAsked_40_pub01_0 (k := 5) rfl
theorem dX7_canBeAsked_10 : decode cX7_canBeAsked 10 = .ok (.iload_n 1, 1) := dchk_at dall_X7_canBeAsked_40_pub01_0 (k := 6) rfl
theorem dX7_canBeAsked_11 : decode cX7_canBeAsked 11 = .ok (.ldc_w 325, 3) := dchk_at dall_X7_canBeAsked_40_pub01_0 (k := 7) rfl
theorem dX7_canBeAsked_14 : decode cX7_canBeAsked 14 = .ok (.if_icmp .lt 28, 3) := dchk_at dall_X7_canBeAsked_40_pub01_0 (k := 8) rfl
theorem dX7_canBeAsked_17 : decode cX7_canBeAsked 17 = .ok (.iload_n 1, 1) := dchk_at dall_X7_canBeAsked_40_pub01_0 (k := 9) rfl
theorem dX7_canBeAsked_18 : decode cX7_canBeAsked 18 = .ok (.ldc_w 326, 3) := dchk_at dall_X7_canBeAsked_40_pub01_0 (k := 10) rfl
theorem dX7_canBeAsked_21 : decode cX7_canBeAsked 21 = .ok (.if_icmp .gt 21, 3) := dchk_at dall_X7_canBeAsked_40_pub01_0 (k := 11) rfl
theorem dX7_canBeAsked_24 : decode cX7_canBeAsked 24 = .ok (.iload_n 2, 1) := dchk_at dall_X7_canBeAsked_40_pub01_0 (k := 12) rfl
theorem dX7_canBeAsked_25 : decode cX7_canBeAsked 25 = .ok (.ldc_w 325, 3) := dchk_at dall_X7_canBeAsked_40_pub01_0 (k := 13) rfl
theorem dX7_canBeAsked_28 : decode cX7_canBeAsked 28 = .ok (.if_icmp .lt 14, 3) := dchk_at dall_X7_canBeAsked_40_pub01_0 (k := 14) rfl
theorem dX7_canBeAsked_31 : decode cX7_canBeAsked 31 = .ok (.iload_n 2, 1) := dchk_at dall_X7_canBeAsked_40_pub01_0 (k := 15) rfl
theorem dX7_canBeAsked_32 : decode cX7_canBeAsked 32 = .ok (.ldc_w 326, 3) := dchk_at dall_X7_canBeAsked_40_pub01_0 (k := 16) rfl
theorem dX7_canBeAsked_35 : decode cX7_canBeAsked 35 = .ok (.if_icmp .gt 7, 3) := dchk_at dall_X7_canBeAsked_40_pub01_0 (k := 17) rfl
theorem dX7_canBeAsked_38 : decode cX7_canBeAsked 38 = .ok (.iconst 1, 1) := dchk_at dall_X7_canBeAsked_40_pub01_0 (k := 18) rfl
theorem dX7_canBeAsked_39 : decode cX7_canBeAsked 39 = .ok (.goto 4, 3) := dchk_at dall_X7_canBeAsked_40_pub01_0 (k := 19) rfl
def dl_X7_count_40_pub01_0 : List (Nat × Instr × Nat) := [(0, .aload_n 0, 1), (1, .getfield 35, 3), (4, .invokevirtual 110, 3), (7, .ifCond .ne 5, 3), (12, .iload_n 1, 1), (13, .tableswitch 116 0 5 #[39, 50, 68, 79, 90, 106], 39), (52, .aload_n 0, 1), (53, .getfield 35, 3), (56, .getfield 114, 3), (59, .bipush 8, 2), (61, .iaload, 1), (62, .ireturn, 1), (63, .aload_n 0, 1), (64, .getfield 35, 3), (67, .aload_n 0, 1), (68, .getfield 35, 3), (71, .getfield 114, 3), (74, .bipush 8, 2), (76, .iaload, 1), (77, .invokevirtual 167, 3), (80, .ireturn, 1), (81, .aload_n 0, 1), (82, .getfield 35, 3), (85, .getfield 114, 3), (88, .bipush 9, 2), (90, .iaload, 1), (91, .ireturn, 1), (92, .aload_n 0, 1), (93, .getfield 35, 3), (96, .getfield 114, 3), (99, .bipush 10, 2), (101, .iaload, 1), (102, .ireturn, 1), (103, .aload_n 0, 1), (104, .getfield 35, 3), (107, .invokevirtual 170, 3), (110, .ifCond .eq 7, 3), (117, .iconst 0, 1), (118, .ireturn, 1), (113, .iconst 1, 1), (114, .goto 4, 3), (119, .aload_n 0, 1), (120, .getfield 35, 3), (123, .bipush 6, 2), (125, .invokevirtual 160, 3), (128, .ireturn, 1), (129, .iconst (-1), 1), (130, .ireturn, 1), (10, .iconst (-1), 1), (11, .ireturn, 1)]
set_option maxRecDepth 100000 in
theorem dall_X7_count_40_pub01_0 : dchk cX7_count dl_X7_count_40_pub01_0 = true := by decide +kernel
theorem dX7_count_0 : decode cX7_count 0 = .ok (.aload_n 0, 1) := dchk_at dall_X7_count_40_pub01_0 (k := 0) rfl
theorem dX7_count_1 : decode cX7_count 1 = .ok (.getfield 35, 3) := dchk_at dall_X7_count_40_pub01_0 (k := 1) rfl
theorem dX7_count_4 : decode cX7_count 4 = .ok (.invokevirtual 110, 3) := dchk_at dall_X7_count_40_pub01_0 (k := 2) rfl
theorem dX7_count_7 : decode cX7_count 7 = .ok (.ifCond .ne 5, 3) := dchk_at dall_X7_count_40_pub01_0 (k := 3) rfl
theorem dX7_count_12 : decode cX7_count 12 = .ok (.iload_n 1, 1) := dchk_at dall_X7_count_40_pub01_0 (k := 4) rfl
theorem dX7_count_13 : decode cX7_count 13 = .ok (.tableswitch 116 0 5 #[39, 50, 68, 79, 90, 106], 39) := dchk_at dall_X7_count_40_pub01_0 (k := 5) rfl
theorem dX7_count_52 : decode cX7_count 52 = .ok (.aload_n 0, 1) := dchk_at dall_X7_count_40_pub01_0 (k := 6) rfl
theorem dX7_count_53 : decode cX7_count 53 = .ok (.getfield 35, 3) := dchk_at dall_X7_count_40_pub01_0 (k := 7) rfl
theorem dX7_count_56 : decode cX7_count 56 = .ok (.getfield 114, 3) := dchk_at dall_X7_count_40_pub01_0 (k := 8) rfl
theorem dX7_count_59 : decode cX7_count 59 = .ok (.bipush 8, 2) := dchk_at dall_X7_count_40_pub01_0 (k := 9) rfl
theorem dX7_count_61 : decode cX7_count 61 = .ok (.iaload, 1) := dchk_at dall_X7_count_40_pub01_0 (k := 10) rfl
theorem dX7_count_62 : decode cX7_count 62 = .ok (.ireturn, 1) := dchk_at dall_X7_count_40_pub01_0 (k := 11) rfl
theorem dX7_count_63 : decode cX7_count 63 = .ok (.aload_n 0, 1) := dchk_at dall_X7_count_40_pub01_0 (k := 12) rfl
theorem dX7_count_64 : decode cX7_count 64 = .ok (.getfield 35, 3) := dchk_at dall_X7_count_40_pub01_0 (k := 13) rfl
theorem dX7_count_67 : decode cX7_count 67 = .ok (.aload_n 0, 1) := dchk_at dall_X7_count_40_pub01_0 (k := 14) rfl
theorem dX7_count_68 : decode cX7_count 68 = .ok (.getfield 35, 3) := dchk_at dall_X7_count_40_pub01_0 (k := 15) rfl
theorem dX7_count_71 : decode cX7_count 71 = .ok (.getfield 114, 3) := dchk_at dall_X7_count_40_pub01_0 (k := 16) rfl
theorem dX7_count_74 : decode cX7_count 74 = .ok (.bipush 8, 2) := dchk_at dall_X7_count_40_pub01_0 (k := 17) rfl
theorem dX7_count_76 : decode cX7_count 76 = .ok (.iaload, 1) := dchk_at dall_X7_count_40_pub01_0 (k := 18) rfl
theorem dX7_count_77 : decode cX7_count 77 = .ok (.invokevirtual 167, 3) := dchk_at dall_X7_count_40_pub01_0 (k := 19) rfl
theorem dX7_count_80 : decode cX7_count 80 = .ok (.ireturn, 1) := dchk_at dall_X7_count_40_pub01_0 (k := 20) rfl
theorem dX7_count_81 : decode cX7_count 81 = .ok (.aload_n 0, 1) := dchk_at dall_X7_count_40_pub01_0 (k := 21) rfl
theorem dX7_count_82 : decode cX7_count 82 = .ok (.getfield 35, 3) := dchk_at dall_X7_count_40_pub01_0 (k := 22) rfl
theorem dX7_count_85 : decode cX7_count 85 = .ok (.getfield 114, 3) := dchk_at dall_X7_count_40_pub01_0 (k := 23) rfl
theorem dX7_count_88 : decode cX7_count 88 = .ok (.bipush 9, 2) := dchk_at dall_X7_count_40_pub01_0 (k := 24) rfl
theorem dX7_count_90 : decode cX7_count 90 = .ok (.iaload, 1) := dchk_at dall_X7_count_40_pub01_0 (k := 25) rfl
theorem dX7_count_91 : decode cX7_count 91 = .ok (.ireturn, 1) := dchk_at dall_X7_count_40_pub01_0 (k := 26) rfl
theorem dX7_count_92 : decode cX7_count 92 = .ok (.aload_n 0, 1) := dchk_at dall_X7_count_40_pub01_0 (k := 27) rfl
theorem dX7_count_93 : decode cX7_count 93 = .ok (.getfield 35, 3) := dchk_at dall_X7_count_40_pub01_0 (k := 28) rfl
theorem dX7_count_96 : decode cX7_count 96 = .ok (.getfield 114, 3) := dchk_at dall_X7_count_40_pub01_0 (k := 29) rfl
theorem dX7_count_99 : decode cX7_count 99 = .ok (.bipush 10, 2) := dchk_at dall_X7_count_40_pub01_0 (k := 30) rfl
theorem dX7_count_101 : decode cX7_count 101 = .ok (.iaload, 1) := dchk_at dall_X7_count_40_pub01_0 (k := 31) rfl
theorem dX7_count_102 : decode cX7_count 102 = .ok (.ireturn, 1) := dchk_at dall_X7_count_40_pub01_0 (k := 32) rfl
theorem dX7_count_103 : decode cX7_count 103 = .ok (.aload_n 0, 1) := dchk_at dall_X7_count_40_pub01_0 (k := 33) rfl
theorem dX7_count_104 : decode cX7_count 104 = .ok (.getfield 35, 3) := dchk_at dall_X7_count_40_pub01_0 (k := 34) rfl
theorem dX7_count_107 : decode cX7_count 107 = .ok (.invokevirtual 170, 3) := dchk_at dall_X7_count_40_pub01_0 (k := 35) rfl
theorem dX7_count_110 : decode cX7_count 110 = .ok (.ifCond .eq 7, 3) := dchk_at dall_X7_count_40_pub01_0 (k := 36) rfl
theorem dX7_count_117 : decode cX7_count 117 = .ok (.iconst 0, 1) := dchk_at dall_X7_count_40_pub01_0 (k := 37) rfl
theorem dX7_count_118 : decode cX7_count 118 = .ok (.ireturn, 1) := dchk_at dall_X7_count_40_pub01_0 (k := 38) rfl
theorem dX7_count_113 : decode cX7_count 113 = .ok (.iconst 1, 1) := dchk_at dall_X7_count_40_pub01_0 (k := 39) rfl
theorem dX7_count_114 : decode cX7_count 114 = .ok (.goto 4, 3) := dchk_at dall_X7_count_40_pub01_0 (k := 40) rfl
theorem dX7_count_119 : decode cX7_count 119 = .ok (.aload_n 0, 1) := dchk_at dall_X7_count_40_pub01_0 (k := 41) rfl
theorem dX7_count_120 : decode cX7_count 120 = .ok (.getfield 35, 3) := dchk_at dall_X7_count_40_pub01_0 (k := 42) rfl
theorem dX7_count_123 : decode cX7_count 123 = .ok (.bipush 6, 2) := dchk_at dall_X7_count_40_pub01_0 (k := 43) rfl
theorem dX7_count_125 : decode cX7_count 125 = .ok (.invokevirtual 160, 3) := dchk_at dall_X7_count_40_pub01_0 (k := 44) rfl
theorem dX7_count_128 : decode cX7_count 128 = .ok (.ireturn, 1) := dchk_at dall_X7_count_40_pub01_0 (k := 45) rfl
theorem dX7_count_129 : decode cX7_count 129 = .ok (.iconst (-1), 1) := dchk_at dall_X7_count_40_pub01_0 (k := 46) rfl
theorem dX7_count_130 : decode cX7_count 130 = .ok (.ireturn, 1) := dchk_at dall_X7_count_40_pub01_0 (k := 47) rfl
theorem dX7_count_10 : decode cX7_count 10 = .ok (.iconst (-1), 1) := dchk_at dall_X7_count_40_pub01_0 (k := 48) rfl
theorem dX7_count_11 : decode cX7_count 11 = .ok (.ireturn, 1) := dchk_at dall_X7_count_40_pub01_0 (k := 49) rfl
def F_X7_asked (K : Nat) (p1 : Int32) (p2 : Int32) (p3 : Int32) (p4 : Int32) (c_now_row : Nat → Int32) (c_trial_row : Nat → Int32) (c_trial_partners : Nat → Int32) (c_trial_askedCount : Int32) (c_trial_outcome : Int32) (c_trial_share : Nat → Int32) (c_trial_leftOver : Nat → Int32) : Option (Int32 × (Nat → Int32) × (Nat → Int32) × Int32 × Int32 × (Nat → Int32) × (Nat → Int32)) :=
  bd1 (F_X5_refusal (0 : Int32) p1 p2 p3 c_now_row) (fun r_1 => if r_1 = (-1 : Int32) then bd7 (F_X7_tryMove K p1 p2 p3 c_now_row c_trial_row c_trial_partners c_trial_askedCount c_trial_outcome c_trial_share c_trial_leftOver) (fun r_4 w_5 w_6 w_7 w_8 w_9 w_10 => if p4 < (0 : Int32) then some ((-1 : Int32), w_5, w_6, w_7, w_8, w_9, w_10) else if w_7 ≤ p4 then some ((-1 : Int32), w_5, w_6, w_7, w_8, w_9, w_10) else if (8 : Int32) ≤ p4 then some ((-1 : Int32), w_5, w_6, w_7, w_8, w_9, w_10) else ixF p4 8 (some (w_6 p4.toNatClampNeg, w_5, w_6, w_7, w_8, w_9, w_10))) else some ((-1 : Int32), c_trial_row, c_trial_partners, c_trial_askedCount, c_trial_outcome, c_trial_share, c_trial_leftOver))
abbrev w_X7_asked (E : EE) (a_ a_tape a_reader a_scripts a_now a_trial a_kept a_book a_keptBook a_history a_draws a_refused a_now_row a_now_partners a_now_share a_now_leftOver a_trial_row a_trial_partners a_trial_share a_trial_leftOver : Nat) (c_hasImage : Int32) (c_now_askedCount : Int32) (c_now_outcome : Int32) (c_now_row : Nat → Int32) (c_trial_askedCount : Int32) (c_trial_outcome : Int32) (c_trial_row : Nat → Int32) (c_trial_partners : Nat → Int32) (c_trial_share : Nat → Int32) (c_trial_leftOver : Nat → Int32) : va_W := [(a_, .inr (8, [.ref a_tape, .ref a_reader, .ref a_scripts, .ref a_now, .ref a_trial, .ref a_kept, .ref a_book, .ref a_keptBook, .ref a_history, .ref a_draws, .ref a_refused, .int c_hasImage])), (a_now, .inr (6, [.ref a_now_row, .ref a_now_partners, .int c_now_askedCount, .int c_now_outcome, .ref a_now_share, .ref a_now_leftOver])), (a_now_row, .inl (E.2.1, 81, .inl c_now_row)), (a_trial, .inr (6, [.ref a_trial_row, .ref a_trial_partners, .int c_trial_askedCount, .int c_trial_outcome, .ref a_trial_share, .ref a_trial_leftOver])), (a_trial_row, .inl (E.2.1, 81, .inl c_trial_row)), (a_trial_partners, .inl (E.2.1, 8, .inl c_trial_partners)), (a_trial_share, .inl (E.2.1, 2, .inl c_trial_share)), (a_trial_leftOver, .inl (E.2.1, 2, .inl c_trial_leftOver))]
def v_f_X7_asked : List Cond := .code yX7_asked cX7_asked 5 (some .int) :: ([.fieldLink RX7 35 "HushWatch" "now" "LHushWatch$State;", .fieldLink RX7 39 "HushWatch" "trial" "LHushWatch$State;", .methodLink RX7 220 yX5_refusal, .instanceMethod yX5_refusal, .selects RX5 yX5_refusal yX5_refusal, .initialized RX5, .methodLink RX7 224 yX7_tryMove, .instanceMethod yX7_tryMove, .selects RX7 yX7_tryMove yX7_tryMove, .initialized RX7] ++ (wsX70 ++ (v_f_X5_refusal ++ (v_f_X7_tryMove ++ (wsX50 ++ ([]))))))
theorem gw_f_X7_asked : v_f_X7_asked.all goodWord = true := by decide +kernel
theorem i_f_X7_asked_X7 : ∀ w ∈ wsX70, w ∈ v_f_X7_asked := fun _ h => List.mem_cons_of_mem _ (List.mem_append_right _ (List.mem_append_left _ h))
theorem i_f_X7_asked_X5 : ∀ w ∈ wsX50, w ∈ v_f_X7_asked := fun _ h => List.mem_cons_of_mem _ (List.mem_append_right _ (List.mem_append_right _ (List.mem_append_right _ (List.mem_append_right _ (List.mem_append_left _ h)))))
theorem g_f_X7_asked_f_X5_refusal_220 : GoodIn v_f_X7_asked (wsV RX7 220 RX5 yX5_refusal v_f_X5_refusal) := goodIn_app (goodIn_of _ (by decide +kernel)) (goodIn_sub (fun _ h => List.mem_cons_of_mem _ (List.mem_append_right _ (List.mem_append_right _ (List.mem_append_left _ h)))) gw_f_X5_refusal)
theorem g_f_X7_asked_f_X7_tryMove_224 : GoodIn v_f_X7_asked (wsV RX7 224 RX7 yX7_tryMove v_f_X7_tryMove) := goodIn_app (goodIn_of _ (by decide +kernel)) (goodIn_sub (fun _ h => List.mem_cons_of_mem _ (List.mem_append_right _ (List.mem_append_right _ (List.mem_append_right _ (List.mem_append_left _ h))))) gw_f_X7_tryMove)
theorem hd_X7_asked : yX7_asked.cls = RX7 ∧ yX7_asked.cls ≠ "java/lang/invoke/MethodHandle" ∧ yX7_asked.cls ≠ "java/lang/invoke/VarHandle" ∧ (parseMethodDescriptor yX7_asked.desc).map (fun d => d.parameters.length) = some 4 := by decide +kernel
set_option maxHeartbeats 4000000 in
set_option maxRecDepth 100000 in
theorem f_X7_asked (l : Launch) (E : EE) (sz : Nat) (K : Nat) {a_ a_tape a_reader a_scripts a_now a_trial a_kept a_book a_keptBook a_history a_draws a_refused a_now_row a_now_partners a_now_share a_now_leftOver a_trial_row a_trial_partners a_trial_share a_trial_leftOver : Nat} {p1 : Int32} {p2 : Int32} {p3 : Int32} {p4 : Int32} {c_hasImage : Int32} {c_now_askedCount : Int32} {c_now_outcome : Int32} {c_now_row : Nat → Int32} {c_trial_askedCount : Int32} {c_trial_outcome : Int32} {c_trial_row : Nat → Int32} {c_trial_partners : Nat → Int32} {c_trial_share : Nat → Int32} {c_trial_leftOver : Nat → Int32} {rr : Int32} {n_trial_row : Nat → Int32} {n_trial_partners : Nat → Int32} {n_trial_askedCount : Int32} {n_trial_outcome : Int32} {n_trial_share : Nat → Int32} {n_trial_leftOver : Nat → Int32} (hF : F_X7_asked K p1 p2 p3 p4 c_now_row c_trial_row c_trial_partners c_trial_askedCount c_trial_outcome c_trial_share c_trial_leftOver = some (rr, n_trial_row, n_trial_partners, n_trial_askedCount, n_trial_outcome, n_trial_share, n_trial_leftOver)) : Met l yX7_asked v_f_X7_asked (({ frames := 6, cells := 0, slots := 0, locals := 147 } : Room)) (va_Pc [.ref a_, .int p1, .int p2, .int p3, .int p4] (pW E sz (w_X7_asked E a_ a_tape a_reader a_scripts a_now a_trial a_kept a_book a_keptBook a_history a_draws a_refused a_now_row a_now_partners a_now_share a_now_leftOver a_trial_row a_trial_partners a_trial_share a_trial_leftOver c_hasImage c_now_askedCount c_now_outcome c_now_row c_trial_askedCount c_trial_outcome c_trial_row c_trial_partners c_trial_share c_trial_leftOver))) (va_Qi (fun (q : Int32) (_u : Unit) => q = rr) (fun (_u : Unit) tt => va_P E.1 vwCl (w_X7_asked E a_ a_tape a_reader a_scripts a_now a_trial a_kept a_book a_keptBook a_history a_draws a_refused a_now_row a_now_partners a_now_share a_now_leftOver a_trial_row a_trial_partners a_trial_share a_trial_leftOver c_hasImage c_now_askedCount c_now_outcome c_now_row n_trial_askedCount n_trial_outcome n_trial_row n_trial_partners n_trial_share n_trial_leftOver) tt.heap ∧ va_D (va_A (w_X7_asked E a_ a_tape a_reader a_scripts a_now a_trial a_kept a_book a_keptBook a_history a_draws a_refused a_now_row a_now_partners a_now_share a_now_leftOver a_trial_row a_trial_partners a_trial_share a_trial_leftOver c_hasImage c_now_askedCount c_now_outcome c_now_row c_trial_askedCount c_trial_outcome c_trial_row c_trial_partners c_trial_share c_trial_leftOver) sz) (w_X7_asked E a_ a_tape a_reader a_scripts a_now a_trial a_kept a_book a_keptBook a_history a_draws a_refused a_now_row a_now_partners a_now_share a_now_leftOver a_trial_row a_trial_partners a_trial_share a_trial_leftOver c_hasImage c_now_askedCount c_now_outcome c_now_row n_trial_askedCount n_trial_outcome n_trial_row n_trial_partners n_trial_share n_trial_leftOver)) (va_A (w_X7_asked E a_ a_tape a_reader a_scripts a_now a_trial a_kept a_book a_keptBook a_history a_draws a_refused a_now_row a_now_partners a_now_share a_now_leftOver a_trial_row a_trial_partners a_trial_share a_trial_leftOver c_hasImage c_now_askedCount c_now_outcome c_now_row c_trial_askedCount c_trial_outcome c_trial_row c_trial_partners c_trial_share c_trial_leftOver) sz)) 0 0 (va_A (w_X7_asked E a_ a_tape a_reader a_scripts a_now a_trial a_kept a_book a_keptBook a_history a_draws a_refused a_now_row a_now_partners a_now_share a_now_leftOver a_trial_row a_trial_partners a_trial_share a_trial_leftOver c_hasImage c_now_askedCount c_now_outcome c_now_row c_trial_askedCount c_trial_outcome c_trial_row c_trial_partners c_trial_share c_trial_leftOver) sz) := by
  refine Met.ofW (cc := cX7_asked) (maxL := 5) (ret := (some .int)) (by decide) rfl ?_
  intro p e s m args below meth c s₁ B hml hv
  obtain ⟨rfl, hsz, ⟨hK, hN⟩, hP, hD0⟩ := hv
  have hx := B.exec
  have hb := B.bytes
  have hr := B.returns
  have hts := atoms_spec (ws := v_f_X7_asked) B.pre
  have hown : s.vm.findClass RX7 = some m.cls := own_of hd_X7_asked.1 (findClass_of_methodNamed B.named)
  have hlocks : meth.locks = false := B.notSynchronized
  subst hsz
  have hD := hD0.self (sz := s.heap.size)
  generalize hAe : va_A (w_X7_asked E a_ a_tape a_reader a_scripts a_now a_trial a_kept a_book a_keptBook a_history a_draws a_refused a_now_row a_now_partners a_now_share a_now_leftOver a_trial_row a_trial_partners a_trial_share a_trial_leftOver c_hasImage c_now_askedCount c_now_outcome c_now_row c_trial_askedCount c_trial_outcome c_trial_row c_trial_partners c_trial_share c_trial_leftOver) s.heap.size = A at hD ⊢
  have hA : ∀ q : Nat, s.heap.size ≤ q → A q := fun q h => by rw [← hAe]; exact Or.inr h
  have hS : va_S A s.heap s.heap [] := va_S.rf
  have hl := lv_entry ([.ref a_, .int p1, .int p2, .int p3, .int p4]) (n := 5) (Nat.le_of_ble_eq_true rfl)
  rw [lg_entry_eq]
  generalize (lg_sl ([.ref a_, .int p1, .int p2, .int p3, .int p4]) ++ List.replicate (5 - (lg_sl ([.ref a_, .int p1, .int p2, .int p3, .int p4])).length) Slot.unset).toArray = ls at hl ⊢
  have hl : lv_has ls 5 [(0, .ref a_), (1, .int p1), (2, .int p2), (3, .int p3), (4, .int p4)] := hl
  obtain ⟨Q, hQ⟩ : ∃ Q : State → Prop, Q = MQ below (va_Qi (fun (q : Int32) (_u : Unit) => q = rr) (fun (_u : Unit) tt => va_P E.1 vwCl (w_X7_asked E a_ a_tape a_reader a_scripts a_now a_trial a_kept a_book a_keptBook a_history a_draws a_refused a_now_row a_now_partners a_now_share a_now_leftOver a_trial_row a_trial_partners a_trial_share a_trial_leftOver c_hasImage c_now_askedCount c_now_outcome c_now_row n_trial_askedCount n_trial_outcome n_trial_row n_trial_partners n_trial_share n_trial_leftOver) tt.heap ∧ va_D A (w_X7_asked E a_ a_tape a_reader a_scripts a_now a_trial a_kept a_book a_keptBook a_history a_draws a_refused a_now_row a_now_partners a_now_share a_now_leftOver a_trial_row a_trial_partners a_trial_share a_trial_leftOver c_hasImage c_now_askedCount c_now_outcome c_now_row n_trial_askedCount n_trial_outcome n_trial_row n_trial_partners n_trial_share n_trial_leftOver)) A) #[Value.ref a_, Value.int p1, Value.int p2, Value.int p3, Value.int p4] s 0 0 A := ⟨_, rfl⟩
  rw [← hQ]
  change W p l e ({ frames := 6, cells := 0, slots := 0, locals := 147 } : Room) s m #[Value.ref a_, Value.int p1, Value.int p2, Value.int p3, Value.int p4] below meth c s.heap [] 0 0 Q (F0 m 0 ls [])
  suffices hh9 : ∀ (H : Heap) (locs : List Loc), va_P E.1 vwCl (w_X7_asked E a_ a_tape a_reader a_scripts a_now a_trial a_kept a_book a_keptBook a_history a_draws a_refused a_now_row a_now_partners a_now_share a_now_leftOver a_trial_row a_trial_partners a_trial_share a_trial_leftOver c_hasImage c_now_askedCount c_now_outcome c_now_row c_trial_askedCount c_trial_outcome c_trial_row c_trial_partners c_trial_share c_trial_leftOver) H → va_D A (w_X7_asked E a_ a_tape a_reader a_scripts a_now a_trial a_kept a_book a_keptBook a_history a_draws a_refused a_now_row a_now_partners a_now_share a_now_leftOver a_trial_row a_trial_partners a_trial_share a_trial_leftOver c_hasImage c_now_askedCount c_now_outcome c_now_row c_trial_askedCount c_trial_outcome c_trial_row c_trial_partners c_trial_share c_trial_leftOver) → va_S A s.heap H locs → W p l e ({ frames := 6, cells := 0, slots := 0, locals := 147 } : Room) s m #[Value.ref a_, Value.int p1, Value.int p2, Value.int p3, Value.int p4] below meth c H locs 0 0 Q (F0 m 0 ls []) from hh9 s.heap [] hP hD hS
  clear hP hD hS
  intro H locs hP hD hS
  replace hP : va_P E.1 vwCl [(a_, .inr (8, [.ref a_tape, .ref a_reader, .ref a_scripts, .ref a_now, .ref a_trial, .ref a_kept, .ref a_book, .ref a_keptBook, .ref a_history, .ref a_draws, .ref a_refused, .int c_hasImage])), (a_now, .inr (6, [.ref a_now_row, .ref a_now_partners, .int c_now_askedCount, .int c_now_outcome, .ref a_now_share, .ref a_now_leftOver])), (a_now_row, .inl (E.2.1, 81, .inl c_now_row)), (a_trial, .inr (6, [.ref a_trial_row, .ref a_trial_partners, .int c_trial_askedCount, .int c_trial_outcome, .ref a_trial_share, .ref a_trial_leftOver])), (a_trial_row, .inl (E.2.1, 81, .inl c_trial_row)), (a_trial_partners, .inl (E.2.1, 8, .inl c_trial_partners)), (a_trial_share, .inl (E.2.1, 2, .inl c_trial_share)), (a_trial_leftOver, .inl (E.2.1, 2, .inl c_trial_leftOver))] H := hP
  replace hD : va_D A [(a_, .inr (8, [.ref a_tape, .ref a_reader, .ref a_scripts, .ref a_now, .ref a_trial, .ref a_kept, .ref a_book, .ref a_keptBook, .ref a_history, .ref a_draws, .ref a_refused, .int c_hasImage])), (a_now, .inr (6, [.ref a_now_row, .ref a_now_partners, .int c_now_askedCount, .int c_now_outcome, .ref a_now_share, .ref a_now_leftOver])), (a_now_row, .inl (E.2.1, 81, .inl c_now_row)), (a_trial, .inr (6, [.ref a_trial_row, .ref a_trial_partners, .int c_trial_askedCount, .int c_trial_outcome, .ref a_trial_share, .ref a_trial_leftOver])), (a_trial_row, .inl (E.2.1, 81, .inl c_trial_row)), (a_trial_partners, .inl (E.2.1, 8, .inl c_trial_partners)), (a_trial_share, .inl (E.2.1, 2, .inl c_trial_share)), (a_trial_leftOver, .inl (E.2.1, 2, .inl c_trial_leftOver))] := hD
  unfold F_X7_asked at hF
  refine lv_aload_n hx hb dX7_asked_0 rfl (lv_at hl 0 rfl) ?_
  refine gt_X7_3 (v := .ref a_now) hx hb hts i_f_X7_asked_X7 hown hK hP 0 rfl (hts (.fieldLink RX7 35 "HushWatch" "now" "LHushWatch$State;") (List.mem_of_getElem? (i := 1) rfl)) rfl dX7_asked_1 ?_
  refine lv_iconst (v := 0) hx hb dX7_asked_4 (by decide) ?_
  refine lv_iload_n hx hb dX7_asked_5 rfl (lv_at hl 1 rfl) ?_
  refine lv_iload_n hx hb dX7_asked_6 rfl (lv_at hl 2 rfl) ?_
  refine lv_iload_n hx hb dX7_asked_7 rfl (lv_at hl 3 rfl) ?_
  replace hF := bd1_s hF
  obtain ⟨r_1, hc_2, hF⟩ := hF
  have hPc : va_P E.1 vwCl (w_X5_refusal E a_now a_now_row a_now_partners a_now_share a_now_leftOver c_now_askedCount c_now_outcome c_now_row) H := hP.sub (ws' := [(a_now, .inr (6, [.ref a_now_row, .ref a_now_partners, .int c_now_askedCount, .int c_now_outcome, .ref a_now_share, .ref a_now_leftOver])), (a_now_row, .inl (E.2.1, 81, .inl c_now_row))]) [1, 2] rfl
  have hrc := va_recv hK hPc (ci := 6) (q0 := 0) rfl rfl
  refine pE_i (va_runV (As := [.int (0 : Int32), .int p1, .int p2, .int p3]) (rest := [])  ⟨hx, hb, hml, hown, hts⟩ (f_X5_refusal l E (a_ := a_now) (a_row := a_now_row) (a_partners := a_now_partners) (a_share := a_now_share) (a_leftOver := a_now_leftOver) (p1 := (0 : Int32)) (p2 := p1) (p3 := p2) (p4 := p3) (c_askedCount := c_now_askedCount) (c_outcome := c_now_outcome) (c_row := c_now_row) hc_2) (cwV 4 hts g_f_X7_asked_f_X5_refusal_220 rfl rfl rfl hd_X5_refusal ⟨Nat.le_of_ble_eq_true rfl, Nat.le_of_ble_eq_true rfl⟩) ⟨pP.blind, hrc, (pP.pre ⟨hK, hN⟩ hPc)⟩ rfl rfl hl.1 rfl (lv_room (Nat.le_of_ble_eq_true rfl)) dX7_asked_8 ⟨Nat.le_of_ble_eq_true rfl, Nat.le_of_ble_eq_true rfl⟩) ?_
  refine lv_iconst (v := -1) hx hb dX7_asked_11 (by decide) ?_
  refine lv_icmp_eq (tgt := 17) hx hb dX7_asked_12 (by decide) (fun c_3 => ?_) (fun c_3 => ?_)
  ·
    replace hF := ip c_3 hF
    refine lv_aload_n hx hb dX7_asked_17 rfl (lv_at hl 0 rfl) ?_
    refine lv_iload_n hx hb dX7_asked_18 rfl (lv_at hl 1 rfl) ?_
    refine lv_iload_n hx hb dX7_asked_19 rfl (lv_at hl 2 rfl) ?_
    refine lv_iload_n hx hb dX7_asked_20 rfl (lv_at hl 3 rfl) ?_
    replace hF := bd7_s hF
    obtain ⟨r_4, w_5, w_6, w_7, w_8, w_9, w_10, hc_11, hF⟩ := hF
    obtain ⟨hPc, hDc, hFc⟩ := wcut (wc := (w_X7_tryMove E a_ a_tape a_reader a_scripts a_now a_trial a_kept a_book a_keptBook a_history a_draws a_refused a_now_row a_now_partners a_now_share a_now_leftOver a_trial_row a_trial_partners a_trial_share a_trial_leftOver c_hasImage c_now_askedCount c_now_outcome c_now_row c_trial_askedCount c_trial_outcome c_trial_row c_trial_partners c_trial_share c_trial_leftOver)) hP hD hS hA [0, 1, 2, 3, 4, 5, 6, 7] (by decide) rfl
    have hrc := va_recv hK hPc (ci := 8) (q0 := 0) rfl rfl
    refine cE_i (wc := (w_X7_tryMove E a_ a_tape a_reader a_scripts a_now a_trial a_kept a_book a_keptBook a_history a_draws a_refused a_now_row a_now_partners a_now_share a_now_leftOver a_trial_row a_trial_partners a_trial_share a_trial_leftOver c_hasImage c_now_askedCount c_now_outcome c_now_row c_trial_askedCount c_trial_outcome c_trial_row c_trial_partners c_trial_share c_trial_leftOver)) (wr := []) (w1 := (w_X7_tryMove E a_ a_tape a_reader a_scripts a_now a_trial a_kept a_book a_keptBook a_history a_draws a_refused a_now_row a_now_partners a_now_share a_now_leftOver a_trial_row a_trial_partners a_trial_share a_trial_leftOver c_hasImage c_now_askedCount c_now_outcome c_now_row w_7 w_8 w_5 w_6 w_9 w_10)) (va_runV (As := [.int p1, .int p2, .int p3]) (rest := [])  ⟨hx, hb, hml, hown, hts⟩ (f_X7_tryMove l E H.size K (a_ := a_) (a_tape := a_tape) (a_reader := a_reader) (a_scripts := a_scripts) (a_now := a_now) (a_trial := a_trial) (a_kept := a_kept) (a_book := a_book) (a_keptBook := a_keptBook) (a_history := a_history) (a_draws := a_draws) (a_refused := a_refused) (a_now_row := a_now_row) (a_now_partners := a_now_partners) (a_now_share := a_now_share) (a_now_leftOver := a_now_leftOver) (a_trial_row := a_trial_row) (a_trial_partners := a_trial_partners) (a_trial_share := a_trial_share) (a_trial_leftOver := a_trial_leftOver) (p1 := p1) (p2 := p2) (p3 := p3) (c_hasImage := c_hasImage) (c_now_askedCount := c_now_askedCount) (c_now_outcome := c_now_outcome) (c_now_row := c_now_row) (c_trial_askedCount := c_trial_askedCount) (c_trial_outcome := c_trial_outcome) (c_trial_row := c_trial_row) (c_trial_partners := c_trial_partners) (c_trial_share := c_trial_share) (c_trial_leftOver := c_trial_leftOver) hc_11) (cwV 3 hts g_f_X7_asked_f_X7_tryMove_224 rfl rfl rfl hd_X7_tryMove ⟨Nat.le_of_ble_eq_true rfl, Nat.le_of_ble_eq_true rfl⟩) ⟨pW.blind, hrc, (pW.pre ⟨hK, hN⟩ hPc hDc)⟩ rfl rfl hl.1 rfl (lv_room (Nat.le_of_ble_eq_true rfl)) dX7_asked_21 ⟨Nat.le_of_ble_eq_true rfl, Nat.le_of_ble_eq_true rfl⟩) hS hFc hP hD [0, 1, 2, 3, 4, 5, 6, 7] [] rfl rfl (by decide) (by decide) (fun H locs hP hD hS => ?_)
    replace hP : va_P E.1 vwCl [(a_, .inr (8, [.ref a_tape, .ref a_reader, .ref a_scripts, .ref a_now, .ref a_trial, .ref a_kept, .ref a_book, .ref a_keptBook, .ref a_history, .ref a_draws, .ref a_refused, .int c_hasImage])), (a_now, .inr (6, [.ref a_now_row, .ref a_now_partners, .int c_now_askedCount, .int c_now_outcome, .ref a_now_share, .ref a_now_leftOver])), (a_now_row, .inl (E.2.1, 81, .inl c_now_row)), (a_trial, .inr (6, [.ref a_trial_row, .ref a_trial_partners, .int w_7, .int w_8, .ref a_trial_share, .ref a_trial_leftOver])), (a_trial_row, .inl (E.2.1, 81, .inl w_5)), (a_trial_partners, .inl (E.2.1, 8, .inl w_6)), (a_trial_share, .inl (E.2.1, 2, .inl w_9)), (a_trial_leftOver, .inl (E.2.1, 2, .inl w_10))] H := hP
    replace hD : va_D A [(a_, .inr (8, [.ref a_tape, .ref a_reader, .ref a_scripts, .ref a_now, .ref a_trial, .ref a_kept, .ref a_book, .ref a_keptBook, .ref a_history, .ref a_draws, .ref a_refused, .int c_hasImage])), (a_now, .inr (6, [.ref a_now_row, .ref a_now_partners, .int c_now_askedCount, .int c_now_outcome, .ref a_now_share, .ref a_now_leftOver])), (a_now_row, .inl (E.2.1, 81, .inl c_now_row)), (a_trial, .inr (6, [.ref a_trial_row, .ref a_trial_partners, .int w_7, .int w_8, .ref a_trial_share, .ref a_trial_leftOver])), (a_trial_row, .inl (E.2.1, 81, .inl w_5)), (a_trial_partners, .inl (E.2.1, 8, .inl w_6)), (a_trial_share, .inl (E.2.1, 2, .inl w_9)), (a_trial_leftOver, .inl (E.2.1, 2, .inl w_10))] := hD
    refine lv_pop hx hb dX7_asked_24 rfl ?_
    refine lv_iload hx hb dX7_asked_25 (lv_at hl 4 rfl) ?_
    refine lv_if_lt (tgt := 62) hx hb dX7_asked_27 (by decide) (fun c_12 => ?_) (fun c_12 => ?_)
    ·
      replace hF := ip c_12 hF
      refine lv_iconst (v := -1) hx hb dX7_asked_62 (by decide) ?_
      rw [hQ]
      have h9 := fin9 (P := fun u9 : Int32 × (Nat → Int32) × (Nat → Int32) × Int32 × Int32 × (Nat → Int32) × (Nat → Int32) => (-1 : Int32) = u9.1 ∧ va_P E.1 vwCl (w_X7_asked E a_ a_tape a_reader a_scripts a_now a_trial a_kept a_book a_keptBook a_history a_draws a_refused a_now_row a_now_partners a_now_share a_now_leftOver a_trial_row a_trial_partners a_trial_share a_trial_leftOver c_hasImage c_now_askedCount c_now_outcome c_now_row u9.2.2.2.1 u9.2.2.2.2.1 u9.2.1 u9.2.2.1 u9.2.2.2.2.2.1 u9.2.2.2.2.2.2) H ∧ va_D A (w_X7_asked E a_ a_tape a_reader a_scripts a_now a_trial a_kept a_book a_keptBook a_history a_draws a_refused a_now_row a_now_partners a_now_share a_now_leftOver a_trial_row a_trial_partners a_trial_share a_trial_leftOver c_hasImage c_now_askedCount c_now_outcome c_now_row u9.2.2.2.1 u9.2.2.2.2.1 u9.2.1 u9.2.2.1 u9.2.2.2.2.2.1 u9.2.2.2.2.2.2)) hF ⟨rfl, hP, hD⟩
      obtain ⟨e9_0, hP9, hD9⟩ := h9
      exact W.iret (v := (-1 : Int32)) hx hb hr (fun tt ht hW => ⟨⟨_, (), rfl, e9_0, ht ▸ hP9, hD9⟩, hS.F ht⟩) hS.2.2 dX7_asked_63
    ·
      replace hF := inn c_12 hF
      refine lv_iload hx hb dX7_asked_30 (lv_at hl 4 rfl) ?_
      refine lv_aload_n hx hb dX7_asked_32 rfl (lv_at hl 0 rfl) ?_
      refine gt_X7_4 (v := .ref a_trial) hx hb hts i_f_X7_asked_X7 hown hK hP 0 rfl (hts (.fieldLink RX7 39 "HushWatch" "trial" "LHushWatch$State;") (List.mem_of_getElem? (i := 2) rfl)) rfl dX7_asked_33 ?_
      refine va_getN (D := E.1) (ci := 6) (v := .int w_7) (C := RX5) (T := TX5) (N := 6) hx hb hts i_f_X7_asked_X5 hown hK hP 3 rfl rfl 2 (by decide) (nx hN 14 rfl) (fun _ h9 => h9) rfl dX7_asked_36 ?_
      refine lv_icmp_ge (tgt := 62) hx hb dX7_asked_39 (by decide) (fun c_13 => ?_) (fun c_13 => ?_)
      ·
        replace hF := ip c_13 hF
        refine lv_iconst (v := -1) hx hb dX7_asked_62 (by decide) ?_
        rw [hQ]
        have h9 := fin9 (P := fun u9 : Int32 × (Nat → Int32) × (Nat → Int32) × Int32 × Int32 × (Nat → Int32) × (Nat → Int32) => (-1 : Int32) = u9.1 ∧ va_P E.1 vwCl (w_X7_asked E a_ a_tape a_reader a_scripts a_now a_trial a_kept a_book a_keptBook a_history a_draws a_refused a_now_row a_now_partners a_now_share a_now_leftOver a_trial_row a_trial_partners a_trial_share a_trial_leftOver c_hasImage c_now_askedCount c_now_outcome c_now_row u9.2.2.2.1 u9.2.2.2.2.1 u9.2.1 u9.2.2.1 u9.2.2.2.2.2.1 u9.2.2.2.2.2.2) H ∧ va_D A (w_X7_asked E a_ a_tape a_reader a_scripts a_now a_trial a_kept a_book a_keptBook a_history a_draws a_refused a_now_row a_now_partners a_now_share a_now_leftOver a_trial_row a_trial_partners a_trial_share a_trial_leftOver c_hasImage c_now_askedCount c_now_outcome c_now_row u9.2.2.2.1 u9.2.2.2.2.1 u9.2.1 u9.2.2.1 u9.2.2.2.2.2.1 u9.2.2.2.2.2.2)) hF ⟨rfl, hP, hD⟩
        obtain ⟨e9_0, hP9, hD9⟩ := h9
        exact W.iret (v := (-1 : Int32)) hx hb hr (fun tt ht hW => ⟨⟨_, (), rfl, e9_0, ht ▸ hP9, hD9⟩, hS.F ht⟩) hS.2.2 dX7_asked_63
      ·
        replace hF := inn c_13 hF
        refine lv_iload hx hb dX7_asked_42 (lv_at hl 4 rfl) ?_
        refine lv_bipush (v := 8) hx hb dX7_asked_44 (by decide) ?_
        refine lv_icmp_ge (tgt := 62) hx hb dX7_asked_46 (by decide) (fun c_14 => ?_) (fun c_14 => ?_)
        ·
          replace hF := ip c_14 hF
          refine lv_iconst (v := -1) hx hb dX7_asked_62 (by decide) ?_
          rw [hQ]
          have h9 := fin9 (P := fun u9 : Int32 × (Nat → Int32) × (Nat → Int32) × Int32 × Int32 × (Nat → Int32) × (Nat → Int32) => (-1 : Int32) = u9.1 ∧ va_P E.1 vwCl (w_X7_asked E a_ a_tape a_reader a_scripts a_now a_trial a_kept a_book a_keptBook a_history a_draws a_refused a_now_row a_now_partners a_now_share a_now_leftOver a_trial_row a_trial_partners a_trial_share a_trial_leftOver c_hasImage c_now_askedCount c_now_outcome c_now_row u9.2.2.2.1 u9.2.2.2.2.1 u9.2.1 u9.2.2.1 u9.2.2.2.2.2.1 u9.2.2.2.2.2.2) H ∧ va_D A (w_X7_asked E a_ a_tape a_reader a_scripts a_now a_trial a_kept a_book a_keptBook a_history a_draws a_refused a_now_row a_now_partners a_now_share a_now_leftOver a_trial_row a_trial_partners a_trial_share a_trial_leftOver c_hasImage c_now_askedCount c_now_outcome c_now_row u9.2.2.2.1 u9.2.2.2.2.1 u9.2.1 u9.2.2.1 u9.2.2.2.2.2.1 u9.2.2.2.2.2.2)) hF ⟨rfl, hP, hD⟩
          obtain ⟨e9_0, hP9, hD9⟩ := h9
          exact W.iret (v := (-1 : Int32)) hx hb hr (fun tt ht hW => ⟨⟨_, (), rfl, e9_0, ht ▸ hP9, hD9⟩, hS.F ht⟩) hS.2.2 dX7_asked_63
        ·
          replace hF := inn c_14 hF
          refine lv_aload_n hx hb dX7_asked_49 rfl (lv_at hl 0 rfl) ?_
          refine gt_X7_4 (v := .ref a_trial) hx hb hts i_f_X7_asked_X7 hown hK hP 0 rfl (hts (.fieldLink RX7 39 "HushWatch" "trial" "LHushWatch$State;") (List.mem_of_getElem? (i := 2) rfl)) rfl dX7_asked_50 ?_
          refine va_getN (D := E.1) (ci := 6) (v := .ref a_trial_partners) (C := RX5) (T := TX5) (N := 6) hx hb hts i_f_X7_asked_X5 hown hK hP 3 rfl rfl 1 (by decide) (nx hN 13 rfl) (fun _ h9 => h9) rfl dX7_asked_53 ?_
          refine lv_iload hx hb dX7_asked_56 (lv_at hl 4 rfl) ?_
          replace hF := ix_s hF
          obtain ⟨hi_15, hF⟩ := hF
          refine va_iald hx hb hK hP 5 0 rfl rfl hi_15 dX7_asked_58 ?_
          refine lv_goto (tgt := 63) hx hb dX7_asked_59 (by decide) ?_
          rw [hQ]
          have h9 := fin9 (P := fun u9 : Int32 × (Nat → Int32) × (Nat → Int32) × Int32 × Int32 × (Nat → Int32) × (Nat → Int32) => (w_6 p4.toNatClampNeg) = u9.1 ∧ va_P E.1 vwCl (w_X7_asked E a_ a_tape a_reader a_scripts a_now a_trial a_kept a_book a_keptBook a_history a_draws a_refused a_now_row a_now_partners a_now_share a_now_leftOver a_trial_row a_trial_partners a_trial_share a_trial_leftOver c_hasImage c_now_askedCount c_now_outcome c_now_row u9.2.2.2.1 u9.2.2.2.2.1 u9.2.1 u9.2.2.1 u9.2.2.2.2.2.1 u9.2.2.2.2.2.2) H ∧ va_D A (w_X7_asked E a_ a_tape a_reader a_scripts a_now a_trial a_kept a_book a_keptBook a_history a_draws a_refused a_now_row a_now_partners a_now_share a_now_leftOver a_trial_row a_trial_partners a_trial_share a_trial_leftOver c_hasImage c_now_askedCount c_now_outcome c_now_row u9.2.2.2.1 u9.2.2.2.2.1 u9.2.1 u9.2.2.1 u9.2.2.2.2.2.1 u9.2.2.2.2.2.2)) hF ⟨rfl, hP, hD⟩
          obtain ⟨e9_0, hP9, hD9⟩ := h9
          exact W.iret (v := w_6 p4.toNatClampNeg) hx hb hr (fun tt ht hW => ⟨⟨_, (), rfl, e9_0, ht ▸ hP9, hD9⟩, hS.F ht⟩) hS.2.2 dX7_asked_63
  ·
    replace hF := inn c_3 hF
    refine lv_iconst (v := -1) hx hb dX7_asked_15 (by decide) ?_
    rw [hQ]
    have h9 := fin9 (P := fun u9 : Int32 × (Nat → Int32) × (Nat → Int32) × Int32 × Int32 × (Nat → Int32) × (Nat → Int32) => (-1 : Int32) = u9.1 ∧ va_P E.1 vwCl (w_X7_asked E a_ a_tape a_reader a_scripts a_now a_trial a_kept a_book a_keptBook a_history a_draws a_refused a_now_row a_now_partners a_now_share a_now_leftOver a_trial_row a_trial_partners a_trial_share a_trial_leftOver c_hasImage c_now_askedCount c_now_outcome c_now_row u9.2.2.2.1 u9.2.2.2.2.1 u9.2.1 u9.2.2.1 u9.2.2.2.2.2.1 u9.2.2.2.2.2.2) H ∧ va_D A (w_X7_asked E a_ a_tape a_reader a_scripts a_now a_trial a_kept a_book a_keptBook a_history a_draws a_refused a_now_row a_now_partners a_now_share a_now_leftOver a_trial_row a_trial_partners a_trial_share a_trial_leftOver c_hasImage c_now_askedCount c_now_outcome c_now_row u9.2.2.2.1 u9.2.2.2.2.1 u9.2.1 u9.2.2.1 u9.2.2.2.2.2.1 u9.2.2.2.2.2.2)) hF ⟨rfl, hP, hD⟩
    obtain ⟨e9_0, hP9, hD9⟩ := h9
    exact W.iret (v := (-1 : Int32)) hx hb hr (fun tt ht hW => ⟨⟨_, (), rfl, e9_0, ht ▸ hP9, hD9⟩, hS.F ht⟩) hS.2.2 dX7_asked_16

def F_X7_back (c_now_row : Nat → Int32) (c_kept_row : Nat → Int32) (c_book_lines : Nat → Int32) (c_keptBook_lines : Nat → Int32) (c_history_held : Int32) (c_hasImage : Int32) : Option (Int32 × (Nat → Int32) × (Nat → Int32) × Int32) :=
  if c_hasImage = (0 : Int32) then some ((-1 : Int32), c_now_row, c_book_lines, c_history_held) else bd1 (F_X5_copyFrom c_now_row c_kept_row) (fun w_2 => bd1 (F_X0_copyFrom c_book_lines c_keptBook_lines) (fun w_4 => bd1 (F_X2_forget c_history_held) (fun w_6 => some (w_2 11, w_2, w_4, w_6))))
abbrev w_X7_back (E : EE) (a_ a_tape a_reader a_scripts a_now a_trial a_kept a_book a_keptBook a_history a_draws a_refused a_now_row a_now_partners a_now_share a_now_leftOver a_kept_row a_kept_partners a_kept_share a_kept_leftOver a_book_lines a_keptBook_lines a_history_rows : Nat) (c_hasImage : Int32) (c_now_askedCount : Int32) (c_now_outcome : Int32) (c_now_row : Nat → Int32) (c_kept_askedCount : Int32) (c_kept_outcome : Int32) (c_kept_row : Nat → Int32) (c_book_lines : Nat → Int32) (c_keptBook_lines : Nat → Int32) (c_history_next : Int32) (c_history_held : Int32) : va_W := [(a_, .inr (8, [.ref a_tape, .ref a_reader, .ref a_scripts, .ref a_now, .ref a_trial, .ref a_kept, .ref a_book, .ref a_keptBook, .ref a_history, .ref a_draws, .ref a_refused, .int c_hasImage])), (a_now, .inr (6, [.ref a_now_row, .ref a_now_partners, .int c_now_askedCount, .int c_now_outcome, .ref a_now_share, .ref a_now_leftOver])), (a_now_row, .inl (E.2.1, 81, .inl c_now_row)), (a_kept, .inr (6, [.ref a_kept_row, .ref a_kept_partners, .int c_kept_askedCount, .int c_kept_outcome, .ref a_kept_share, .ref a_kept_leftOver])), (a_kept_row, .inl (E.2.1, 81, .inl c_kept_row)), (a_book, .inr (1, [.ref a_book_lines])), (a_book_lines, .inl (E.2.1, 300, .inl c_book_lines)), (a_keptBook, .inr (1, [.ref a_keptBook_lines])), (a_keptBook_lines, .inl (E.2.1, 300, .inl c_keptBook_lines)), (a_history, .inr (3, [.ref a_history_rows, .int c_history_next, .int c_history_held]))]
def v_f_X7_back : List Cond := .code yX7_back cX7_back 1 (some .int) :: ([.fieldLink RX7 73 "HushWatch" "hasImage" "Z", .fieldLink RX7 35 "HushWatch" "now" "LHushWatch$State;", .fieldLink RX7 42 "HushWatch" "kept" "LHushWatch$State;", .fieldLink RX7 48 "HushWatch" "book" "LHushWatch$Book;", .fieldLink RX7 52 "HushWatch" "keptBook" "LHushWatch$Book;", .fieldLink RX7 58 "HushWatch" "history" "LHushWatch$History;", .methodLink RX7 237 yX5_copyFrom, .instanceMethod yX5_copyFrom, .selects RX5 yX5_copyFrom yX5_copyFrom, .initialized RX5, .methodLink RX7 311 yX0_copyFrom, .instanceMethod yX0_copyFrom, .selects RX0 yX0_copyFrom yX0_copyFrom, .initialized RX0, .methodLink RX7 314 yX2_forget, .instanceMethod yX2_forget, .selects RX2 yX2_forget yX2_forget, .initialized RX2] ++ (wsX70 ++ (v_f_X5_copyFrom ++ (v_f_X0_copyFrom ++ (v_f_X2_forget ++ (wsX50 ++ ([])))))))
theorem gw_f_X7_back : v_f_X7_back.all goodWord = true := by decide +kernel
theorem i_f_X7_back_X7 : ∀ w ∈ wsX70, w ∈ v_f_X7_back := fun _ h => List.mem_cons_of_mem _ (List.mem_append_right _ (List.mem_append_left _ h))
theorem i_f_X7_back_X5 : ∀ w ∈ wsX50, w ∈ v_f_X7_back := fun _ h => List.mem_cons_of_mem _ (List.mem_append_right _ (List.mem_append_right _ (List.mem_append_right _ (List.mem_append_right _ (List.mem_append_right _ (List.mem_append_left _ h))))))
theorem g_f_X7_back_f_X5_copyFrom_237 : GoodIn v_f_X7_back (wsV RX7 237 RX5 yX5_copyFrom v_f_X5_copyFrom) := goodIn_app (goodIn_of _ (by decide +kernel)) (goodIn_sub (fun _ h => List.mem_cons_of_mem _ (List.mem_append_right _ (List.mem_append_right _ (List.mem_append_left _ h)))) gw_f_X5_copyFrom)
theorem g_f_X7_back_f_X0_copyFrom_311 : GoodIn v_f_X7_back (wsV RX7 311 RX0 yX0_copyFrom v_f_X0_copyFrom) := goodIn_app (goodIn_of _ (by decide +kernel)) (goodIn_sub (fun _ h => List.mem_cons_of_mem _ (List.mem_append_right _ (List.mem_append_right _ (List.mem_append_right _ (List.mem_append_left _ h))))) gw_f_X0_copyFrom)
theorem g_f_X7_back_f_X2_forget_314 : GoodIn v_f_X7_back (wsV RX7 314 RX2 yX2_forget v_f_X2_forget) := goodIn_app (goodIn_of _ (by decide +kernel)) (goodIn_sub (fun _ h => List.mem_cons_of_mem _ (List.mem_append_right _ (List.mem_append_right _ (List.mem_append_right _ (List.mem_append_right _ (List.mem_append_left _ h)))))) gw_f_X2_forget)
theorem hd_X7_back : yX7_back.cls = RX7 ∧ yX7_back.cls ≠ "java/lang/invoke/MethodHandle" ∧ yX7_back.cls ≠ "java/lang/invoke/VarHandle" ∧ (parseMethodDescriptor yX7_back.desc).map (fun d => d.parameters.length) = some 0 := by decide +kernel
set_option maxHeartbeats 4000000 in
set_option maxRecDepth 100000 in
theorem f_X7_back (l : Launch) (E : EE) (sz : Nat) {a_ a_tape a_reader a_scripts a_now a_trial a_kept a_book a_keptBook a_history a_draws a_refused a_now_row a_now_partners a_now_share a_now_leftOver a_kept_row a_kept_partners a_kept_share a_kept_leftOver a_book_lines a_keptBook_lines a_history_rows : Nat} {c_hasImage : Int32} {c_now_askedCount : Int32} {c_now_outcome : Int32} {c_now_row : Nat → Int32} {c_kept_askedCount : Int32} {c_kept_outcome : Int32} {c_kept_row : Nat → Int32} {c_book_lines : Nat → Int32} {c_keptBook_lines : Nat → Int32} {c_history_next : Int32} {c_history_held : Int32} {rr : Int32} {n_now_row : Nat → Int32} {n_book_lines : Nat → Int32} {n_history_held : Int32} (hF : F_X7_back c_now_row c_kept_row c_book_lines c_keptBook_lines c_history_held c_hasImage = some (rr, n_now_row, n_book_lines, n_history_held)) : Met l yX7_back v_f_X7_back (({ frames := 2, cells := 0, slots := 0, locals := 81 } : Room)) (va_Pc [.ref a_] (pW E sz (w_X7_back E a_ a_tape a_reader a_scripts a_now a_trial a_kept a_book a_keptBook a_history a_draws a_refused a_now_row a_now_partners a_now_share a_now_leftOver a_kept_row a_kept_partners a_kept_share a_kept_leftOver a_book_lines a_keptBook_lines a_history_rows c_hasImage c_now_askedCount c_now_outcome c_now_row c_kept_askedCount c_kept_outcome c_kept_row c_book_lines c_keptBook_lines c_history_next c_history_held))) (va_Qi (fun (q : Int32) (_u : Unit) => q = rr) (fun (_u : Unit) tt => va_P E.1 vwCl (w_X7_back E a_ a_tape a_reader a_scripts a_now a_trial a_kept a_book a_keptBook a_history a_draws a_refused a_now_row a_now_partners a_now_share a_now_leftOver a_kept_row a_kept_partners a_kept_share a_kept_leftOver a_book_lines a_keptBook_lines a_history_rows c_hasImage c_now_askedCount c_now_outcome n_now_row c_kept_askedCount c_kept_outcome c_kept_row n_book_lines c_keptBook_lines c_history_next n_history_held) tt.heap ∧ va_D (va_A (w_X7_back E a_ a_tape a_reader a_scripts a_now a_trial a_kept a_book a_keptBook a_history a_draws a_refused a_now_row a_now_partners a_now_share a_now_leftOver a_kept_row a_kept_partners a_kept_share a_kept_leftOver a_book_lines a_keptBook_lines a_history_rows c_hasImage c_now_askedCount c_now_outcome c_now_row c_kept_askedCount c_kept_outcome c_kept_row c_book_lines c_keptBook_lines c_history_next c_history_held) sz) (w_X7_back E a_ a_tape a_reader a_scripts a_now a_trial a_kept a_book a_keptBook a_history a_draws a_refused a_now_row a_now_partners a_now_share a_now_leftOver a_kept_row a_kept_partners a_kept_share a_kept_leftOver a_book_lines a_keptBook_lines a_history_rows c_hasImage c_now_askedCount c_now_outcome n_now_row c_kept_askedCount c_kept_outcome c_kept_row n_book_lines c_keptBook_lines c_history_next n_history_held)) (va_A (w_X7_back E a_ a_tape a_reader a_scripts a_now a_trial a_kept a_book a_keptBook a_history a_draws a_refused a_now_row a_now_partners a_now_share a_now_leftOver a_kept_row a_kept_partners a_kept_share a_kept_leftOver a_book_lines a_keptBook_lines a_history_rows c_hasImage c_now_askedCount c_now_outcome c_now_row c_kept_askedCount c_kept_outcome c_kept_row c_book_lines c_keptBook_lines c_history_next c_history_held) sz)) 0 0 (va_A (w_X7_back E a_ a_tape a_reader a_scripts a_now a_trial a_kept a_book a_keptBook a_history a_draws a_refused a_now_row a_now_partners a_now_share a_now_leftOver a_kept_row a_kept_partners a_kept_share a_kept_leftOver a_book_lines a_keptBook_lines a_history_rows c_hasImage c_now_askedCount c_now_outcome c_now_row c_kept_askedCount c_kept_outcome c_kept_row c_book_lines c_keptBook_lines c_history_next c_history_held) sz) := by
  refine Met.ofW (cc := cX7_back) (maxL := 1) (ret := (some .int)) (by decide) rfl ?_
  intro p e s m args below meth c s₁ B hml hv
  obtain ⟨rfl, hsz, ⟨hK, hN⟩, hP, hD0⟩ := hv
  have hx := B.exec
  have hb := B.bytes
  have hr := B.returns
  have hts := atoms_spec (ws := v_f_X7_back) B.pre
  have hown : s.vm.findClass RX7 = some m.cls := own_of hd_X7_back.1 (findClass_of_methodNamed B.named)
  have hlocks : meth.locks = false := B.notSynchronized
  subst hsz
  have hD := hD0.self (sz := s.heap.size)
  generalize hAe : va_A (w_X7_back E a_ a_tape a_reader a_scripts a_now a_trial a_kept a_book a_keptBook a_history a_draws a_refused a_now_row a_now_partners a_now_share a_now_leftOver a_kept_row a_kept_partners a_kept_share a_kept_leftOver a_book_lines a_keptBook_lines a_history_rows c_hasImage c_now_askedCount c_now_outcome c_now_row c_kept_askedCount c_kept_outcome c_kept_row c_book_lines c_keptBook_lines c_history_next c_history_held) s.heap.size = A at hD ⊢
  have hA : ∀ q : Nat, s.heap.size ≤ q → A q := fun q h => by rw [← hAe]; exact Or.inr h
  have hS : va_S A s.heap s.heap [] := va_S.rf
  have hl := lv_entry ([.ref a_]) (n := 1) (Nat.le_of_ble_eq_true rfl)
  rw [lg_entry_eq]
  generalize (lg_sl ([.ref a_]) ++ List.replicate (1 - (lg_sl ([.ref a_])).length) Slot.unset).toArray = ls at hl ⊢
  have hl : lv_has ls 1 [(0, .ref a_)] := hl
  obtain ⟨Q, hQ⟩ : ∃ Q : State → Prop, Q = MQ below (va_Qi (fun (q : Int32) (_u : Unit) => q = rr) (fun (_u : Unit) tt => va_P E.1 vwCl (w_X7_back E a_ a_tape a_reader a_scripts a_now a_trial a_kept a_book a_keptBook a_history a_draws a_refused a_now_row a_now_partners a_now_share a_now_leftOver a_kept_row a_kept_partners a_kept_share a_kept_leftOver a_book_lines a_keptBook_lines a_history_rows c_hasImage c_now_askedCount c_now_outcome n_now_row c_kept_askedCount c_kept_outcome c_kept_row n_book_lines c_keptBook_lines c_history_next n_history_held) tt.heap ∧ va_D A (w_X7_back E a_ a_tape a_reader a_scripts a_now a_trial a_kept a_book a_keptBook a_history a_draws a_refused a_now_row a_now_partners a_now_share a_now_leftOver a_kept_row a_kept_partners a_kept_share a_kept_leftOver a_book_lines a_keptBook_lines a_history_rows c_hasImage c_now_askedCount c_now_outcome n_now_row c_kept_askedCount c_kept_outcome c_kept_row n_book_lines c_keptBook_lines c_history_next n_history_held)) A) #[Value.ref a_] s 0 0 A := ⟨_, rfl⟩
  rw [← hQ]
  change W p l e ({ frames := 2, cells := 0, slots := 0, locals := 81 } : Room) s m #[Value.ref a_] below meth c s.heap [] 0 0 Q (F0 m 0 ls [])
  suffices hh9 : ∀ (H : Heap) (locs : List Loc), va_P E.1 vwCl (w_X7_back E a_ a_tape a_reader a_scripts a_now a_trial a_kept a_book a_keptBook a_history a_draws a_refused a_now_row a_now_partners a_now_share a_now_leftOver a_kept_row a_kept_partners a_kept_share a_kept_leftOver a_book_lines a_keptBook_lines a_history_rows c_hasImage c_now_askedCount c_now_outcome c_now_row c_kept_askedCount c_kept_outcome c_kept_row c_book_lines c_keptBook_lines c_history_next c_history_held) H → va_D A (w_X7_back E a_ a_tape a_reader a_scripts a_now a_trial a_kept a_book a_keptBook a_history a_draws a_refused a_now_row a_now_partners a_now_share a_now_leftOver a_kept_row a_kept_partners a_kept_share a_kept_leftOver a_book_lines a_keptBook_lines a_history_rows c_hasImage c_now_askedCount c_now_outcome c_now_row c_kept_askedCount c_kept_outcome c_kept_row c_book_lines c_keptBook_lines c_history_next c_history_held) → va_S A s.heap H locs → W p l e ({ frames := 2, cells := 0, slots := 0, locals := 81 } : Room) s m #[Value.ref a_] below meth c H locs 0 0 Q (F0 m 0 ls []) from hh9 s.heap [] hP hD hS
  clear hP hD hS
  intro H locs hP hD hS
  replace hP : va_P E.1 vwCl [(a_, .inr (8, [.ref a_tape, .ref a_reader, .ref a_scripts, .ref a_now, .ref a_trial, .ref a_kept, .ref a_book, .ref a_keptBook, .ref a_history, .ref a_draws, .ref a_refused, .int c_hasImage])), (a_now, .inr (6, [.ref a_now_row, .ref a_now_partners, .int c_now_askedCount, .int c_now_outcome, .ref a_now_share, .ref a_now_leftOver])), (a_now_row, .inl (E.2.1, 81, .inl c_now_row)), (a_kept, .inr (6, [.ref a_kept_row, .ref a_kept_partners, .int c_kept_askedCount, .int c_kept_outcome, .ref a_kept_share, .ref a_kept_leftOver])), (a_kept_row, .inl (E.2.1, 81, .inl c_kept_row)), (a_book, .inr (1, [.ref a_book_lines])), (a_book_lines, .inl (E.2.1, 300, .inl c_book_lines)), (a_keptBook, .inr (1, [.ref a_keptBook_lines])), (a_keptBook_lines, .inl (E.2.1, 300, .inl c_keptBook_lines)), (a_history, .inr (3, [.ref a_history_rows, .int c_history_next, .int c_history_held]))] H := hP
  replace hD : va_D A [(a_, .inr (8, [.ref a_tape, .ref a_reader, .ref a_scripts, .ref a_now, .ref a_trial, .ref a_kept, .ref a_book, .ref a_keptBook, .ref a_history, .ref a_draws, .ref a_refused, .int c_hasImage])), (a_now, .inr (6, [.ref a_now_row, .ref a_now_partners, .int c_now_askedCount, .int c_now_outcome, .ref a_now_share, .ref a_now_leftOver])), (a_now_row, .inl (E.2.1, 81, .inl c_now_row)), (a_kept, .inr (6, [.ref a_kept_row, .ref a_kept_partners, .int c_kept_askedCount, .int c_kept_outcome, .ref a_kept_share, .ref a_kept_leftOver])), (a_kept_row, .inl (E.2.1, 81, .inl c_kept_row)), (a_book, .inr (1, [.ref a_book_lines])), (a_book_lines, .inl (E.2.1, 300, .inl c_book_lines)), (a_keptBook, .inr (1, [.ref a_keptBook_lines])), (a_keptBook_lines, .inl (E.2.1, 300, .inl c_keptBook_lines)), (a_history, .inr (3, [.ref a_history_rows, .int c_history_next, .int c_history_held]))] := hD
  unfold F_X7_back at hF
  refine lv_aload_n hx hb dX7_back_0 rfl (lv_at hl 0 rfl) ?_
  refine gt_X7_11 (v := .int c_hasImage) hx hb hts i_f_X7_back_X7 hown hK hP 0 rfl (hts (.fieldLink RX7 73 "HushWatch" "hasImage" "Z") (List.mem_of_getElem? (i := 1) rfl)) rfl dX7_back_1 ?_
  refine lv_if_ne (tgt := 9) hx hb dX7_back_4 (by decide) (fun c_1 => ?_) (fun c_1 => ?_)
  ·
    replace hF := inn c_1 hF
    refine lv_aload_n hx hb dX7_back_9 rfl (lv_at hl 0 rfl) ?_
    refine gt_X7_3 (v := .ref a_now) hx hb hts i_f_X7_back_X7 hown hK hP 0 rfl (hts (.fieldLink RX7 35 "HushWatch" "now" "LHushWatch$State;") (List.mem_of_getElem? (i := 2) rfl)) rfl dX7_back_10 ?_
    refine lv_aload_n hx hb dX7_back_13 rfl (lv_at hl 0 rfl) ?_
    refine gt_X7_5 (v := .ref a_kept) hx hb hts i_f_X7_back_X7 hown hK hP 0 rfl (hts (.fieldLink RX7 42 "HushWatch" "kept" "LHushWatch$State;") (List.mem_of_getElem? (i := 3) rfl)) rfl dX7_back_14 ?_
    replace hF := bd1_s hF
    obtain ⟨w_2, hc_3, hF⟩ := hF
    obtain ⟨hPc, hDc, hFc⟩ := wcut (wc := (w_X5_copyFrom E a_now a_now_row a_now_partners a_now_share a_now_leftOver a_kept a_kept_row a_kept_partners a_kept_share a_kept_leftOver c_now_askedCount c_now_outcome c_now_row c_kept_askedCount c_kept_outcome c_kept_row)) hP hD hS hA [1, 2, 3, 4] (by decide) rfl
    have hrc := va_recv hK hPc (ci := 6) (q0 := 0) rfl rfl
    refine cE_v (wc := (w_X5_copyFrom E a_now a_now_row a_now_partners a_now_share a_now_leftOver a_kept a_kept_row a_kept_partners a_kept_share a_kept_leftOver c_now_askedCount c_now_outcome c_now_row c_kept_askedCount c_kept_outcome c_kept_row)) (wr := [(a_, .inr (8, [.ref a_tape, .ref a_reader, .ref a_scripts, .ref a_now, .ref a_trial, .ref a_kept, .ref a_book, .ref a_keptBook, .ref a_history, .ref a_draws, .ref a_refused, .int c_hasImage])), (a_book, .inr (1, [.ref a_book_lines])), (a_book_lines, .inl (E.2.1, 300, .inl c_book_lines)), (a_keptBook, .inr (1, [.ref a_keptBook_lines])), (a_keptBook_lines, .inl (E.2.1, 300, .inl c_keptBook_lines)), (a_history, .inr (3, [.ref a_history_rows, .int c_history_next, .int c_history_held]))]) (w1 := (w_X5_copyFrom E a_now a_now_row a_now_partners a_now_share a_now_leftOver a_kept a_kept_row a_kept_partners a_kept_share a_kept_leftOver c_now_askedCount c_now_outcome w_2 c_kept_askedCount c_kept_outcome c_kept_row)) (va_runV (As := [.ref a_kept]) (rest := [])  ⟨hx, hb, hml, hown, hts⟩ (f_X5_copyFrom l E H.size (a_ := a_now) (a_row := a_now_row) (a_partners := a_now_partners) (a_share := a_now_share) (a_leftOver := a_now_leftOver) (a_o1 := a_kept) (a_o1_row := a_kept_row) (a_o1_partners := a_kept_partners) (a_o1_share := a_kept_share) (a_o1_leftOver := a_kept_leftOver) (c_askedCount := c_now_askedCount) (c_outcome := c_now_outcome) (c_row := c_now_row) (c_o1_askedCount := c_kept_askedCount) (c_o1_outcome := c_kept_outcome) (c_o1_row := c_kept_row) hc_3) (cwV 1 hts g_f_X7_back_f_X5_copyFrom_237 rfl rfl rfl hd_X5_copyFrom ⟨Nat.le_of_ble_eq_true rfl, Nat.le_of_ble_eq_true rfl⟩) ⟨pW.blind, hrc, (pW.pre ⟨hK, hN⟩ hPc hDc)⟩ rfl rfl hl.1 rfl (lv_room (Nat.le_of_ble_eq_true rfl)) dX7_back_17 ⟨Nat.le_of_ble_eq_true rfl, Nat.le_of_ble_eq_true rfl⟩) hS hFc hP hD [1, 2, 3, 4] [0, 5, 6, 7, 8, 9] rfl rfl (by decide) (by decide) (fun H locs hP hD hS => ?_)
    replace hP : va_P E.1 vwCl [(a_, .inr (8, [.ref a_tape, .ref a_reader, .ref a_scripts, .ref a_now, .ref a_trial, .ref a_kept, .ref a_book, .ref a_keptBook, .ref a_history, .ref a_draws, .ref a_refused, .int c_hasImage])), (a_book, .inr (1, [.ref a_book_lines])), (a_book_lines, .inl (E.2.1, 300, .inl c_book_lines)), (a_keptBook, .inr (1, [.ref a_keptBook_lines])), (a_keptBook_lines, .inl (E.2.1, 300, .inl c_keptBook_lines)), (a_history, .inr (3, [.ref a_history_rows, .int c_history_next, .int c_history_held])), (a_now, .inr (6, [.ref a_now_row, .ref a_now_partners, .int c_now_askedCount, .int c_now_outcome, .ref a_now_share, .ref a_now_leftOver])), (a_now_row, .inl (E.2.1, 81, .inl w_2)), (a_kept, .inr (6, [.ref a_kept_row, .ref a_kept_partners, .int c_kept_askedCount, .int c_kept_outcome, .ref a_kept_share, .ref a_kept_leftOver])), (a_kept_row, .inl (E.2.1, 81, .inl c_kept_row))] H := hP
    replace hD : va_D A [(a_, .inr (8, [.ref a_tape, .ref a_reader, .ref a_scripts, .ref a_now, .ref a_trial, .ref a_kept, .ref a_book, .ref a_keptBook, .ref a_history, .ref a_draws, .ref a_refused, .int c_hasImage])), (a_book, .inr (1, [.ref a_book_lines])), (a_book_lines, .inl (E.2.1, 300, .inl c_book_lines)), (a_keptBook, .inr (1, [.ref a_keptBook_lines])), (a_keptBook_lines, .inl (E.2.1, 300, .inl c_keptBook_lines)), (a_history, .inr (3, [.ref a_history_rows, .int c_history_next, .int c_history_held])), (a_now, .inr (6, [.ref a_now_row, .ref a_now_partners, .int c_now_askedCount, .int c_now_outcome, .ref a_now_share, .ref a_now_leftOver])), (a_now_row, .inl (E.2.1, 81, .inl w_2)), (a_kept, .inr (6, [.ref a_kept_row, .ref a_kept_partners, .int c_kept_askedCount, .int c_kept_outcome, .ref a_kept_share, .ref a_kept_leftOver])), (a_kept_row, .inl (E.2.1, 81, .inl c_kept_row))] := hD
    refine lv_aload_n hx hb dX7_back_20 rfl (lv_at hl 0 rfl) ?_
    refine gt_X7_6 (v := .ref a_book) hx hb hts i_f_X7_back_X7 hown hK hP 0 rfl (hts (.fieldLink RX7 48 "HushWatch" "book" "LHushWatch$Book;") (List.mem_of_getElem? (i := 4) rfl)) rfl dX7_back_21 ?_
    refine lv_aload_n hx hb dX7_back_24 rfl (lv_at hl 0 rfl) ?_
    refine gt_X7_7 (v := .ref a_keptBook) hx hb hts i_f_X7_back_X7 hown hK hP 0 rfl (hts (.fieldLink RX7 52 "HushWatch" "keptBook" "LHushWatch$Book;") (List.mem_of_getElem? (i := 5) rfl)) rfl dX7_back_25 ?_
    replace hF := bd1_s hF
    obtain ⟨w_4, hc_5, hF⟩ := hF
    obtain ⟨hPc, hDc, hFc⟩ := wcut (wc := (w_X0_copyFrom E a_book a_book_lines a_keptBook a_keptBook_lines c_book_lines c_keptBook_lines)) hP hD hS hA [1, 2, 3, 4] (by decide) rfl
    have hrc := va_recv hK hPc (ci := 1) (q0 := 0) rfl rfl
    refine cE_v (wc := (w_X0_copyFrom E a_book a_book_lines a_keptBook a_keptBook_lines c_book_lines c_keptBook_lines)) (wr := [(a_, .inr (8, [.ref a_tape, .ref a_reader, .ref a_scripts, .ref a_now, .ref a_trial, .ref a_kept, .ref a_book, .ref a_keptBook, .ref a_history, .ref a_draws, .ref a_refused, .int c_hasImage])), (a_history, .inr (3, [.ref a_history_rows, .int c_history_next, .int c_history_held])), (a_now, .inr (6, [.ref a_now_row, .ref a_now_partners, .int c_now_askedCount, .int c_now_outcome, .ref a_now_share, .ref a_now_leftOver])), (a_now_row, .inl (E.2.1, 81, .inl w_2)), (a_kept, .inr (6, [.ref a_kept_row, .ref a_kept_partners, .int c_kept_askedCount, .int c_kept_outcome, .ref a_kept_share, .ref a_kept_leftOver])), (a_kept_row, .inl (E.2.1, 81, .inl c_kept_row))]) (w1 := (w_X0_copyFrom E a_book a_book_lines a_keptBook a_keptBook_lines w_4 c_keptBook_lines)) (va_runV (As := [.ref a_keptBook]) (rest := [])  ⟨hx, hb, hml, hown, hts⟩ (f_X0_copyFrom l E H.size (a_ := a_book) (a_lines := a_book_lines) (a_o1 := a_keptBook) (a_o1_lines := a_keptBook_lines) (c_lines := c_book_lines) (c_o1_lines := c_keptBook_lines) hc_5) (cwV 1 hts g_f_X7_back_f_X0_copyFrom_311 rfl rfl rfl hd_X0_copyFrom ⟨Nat.le_of_ble_eq_true rfl, Nat.le_of_ble_eq_true rfl⟩) ⟨pW.blind, hrc, (pW.pre ⟨hK, hN⟩ hPc hDc)⟩ rfl rfl hl.1 rfl (lv_room (Nat.le_of_ble_eq_true rfl)) dX7_back_28 ⟨Nat.le_of_ble_eq_true rfl, Nat.le_of_ble_eq_true rfl⟩) hS hFc hP hD [1, 2, 3, 4] [0, 5, 6, 7, 8, 9] rfl rfl (by decide) (by decide) (fun H locs hP hD hS => ?_)
    replace hP : va_P E.1 vwCl [(a_, .inr (8, [.ref a_tape, .ref a_reader, .ref a_scripts, .ref a_now, .ref a_trial, .ref a_kept, .ref a_book, .ref a_keptBook, .ref a_history, .ref a_draws, .ref a_refused, .int c_hasImage])), (a_history, .inr (3, [.ref a_history_rows, .int c_history_next, .int c_history_held])), (a_now, .inr (6, [.ref a_now_row, .ref a_now_partners, .int c_now_askedCount, .int c_now_outcome, .ref a_now_share, .ref a_now_leftOver])), (a_now_row, .inl (E.2.1, 81, .inl w_2)), (a_kept, .inr (6, [.ref a_kept_row, .ref a_kept_partners, .int c_kept_askedCount, .int c_kept_outcome, .ref a_kept_share, .ref a_kept_leftOver])), (a_kept_row, .inl (E.2.1, 81, .inl c_kept_row)), (a_book, .inr (1, [.ref a_book_lines])), (a_book_lines, .inl (E.2.1, 300, .inl w_4)), (a_keptBook, .inr (1, [.ref a_keptBook_lines])), (a_keptBook_lines, .inl (E.2.1, 300, .inl c_keptBook_lines))] H := hP
    replace hD : va_D A [(a_, .inr (8, [.ref a_tape, .ref a_reader, .ref a_scripts, .ref a_now, .ref a_trial, .ref a_kept, .ref a_book, .ref a_keptBook, .ref a_history, .ref a_draws, .ref a_refused, .int c_hasImage])), (a_history, .inr (3, [.ref a_history_rows, .int c_history_next, .int c_history_held])), (a_now, .inr (6, [.ref a_now_row, .ref a_now_partners, .int c_now_askedCount, .int c_now_outcome, .ref a_now_share, .ref a_now_leftOver])), (a_now_row, .inl (E.2.1, 81, .inl w_2)), (a_kept, .inr (6, [.ref a_kept_row, .ref a_kept_partners, .int c_kept_askedCount, .int c_kept_outcome, .ref a_kept_share, .ref a_kept_leftOver])), (a_kept_row, .inl (E.2.1, 81, .inl c_kept_row)), (a_book, .inr (1, [.ref a_book_lines])), (a_book_lines, .inl (E.2.1, 300, .inl w_4)), (a_keptBook, .inr (1, [.ref a_keptBook_lines])), (a_keptBook_lines, .inl (E.2.1, 300, .inl c_keptBook_lines))] := hD
    refine lv_aload_n hx hb dX7_back_31 rfl (lv_at hl 0 rfl) ?_
    refine gt_X7_8 (v := .ref a_history) hx hb hts i_f_X7_back_X7 hown hK hP 0 rfl (hts (.fieldLink RX7 58 "HushWatch" "history" "LHushWatch$History;") (List.mem_of_getElem? (i := 6) rfl)) rfl dX7_back_32 ?_
    replace hF := bd1_s hF
    obtain ⟨w_6, hc_7, hF⟩ := hF
    obtain ⟨hPc, hDc, hFc⟩ := wcut (wc := (w_X2_forget E a_history a_history_rows c_history_next c_history_held)) hP hD hS hA [1] (by decide) rfl
    have hrc := va_recv hK hPc (ci := 3) (q0 := 0) rfl rfl
    refine cE_v (wc := (w_X2_forget E a_history a_history_rows c_history_next c_history_held)) (wr := [(a_, .inr (8, [.ref a_tape, .ref a_reader, .ref a_scripts, .ref a_now, .ref a_trial, .ref a_kept, .ref a_book, .ref a_keptBook, .ref a_history, .ref a_draws, .ref a_refused, .int c_hasImage])), (a_now, .inr (6, [.ref a_now_row, .ref a_now_partners, .int c_now_askedCount, .int c_now_outcome, .ref a_now_share, .ref a_now_leftOver])), (a_now_row, .inl (E.2.1, 81, .inl w_2)), (a_kept, .inr (6, [.ref a_kept_row, .ref a_kept_partners, .int c_kept_askedCount, .int c_kept_outcome, .ref a_kept_share, .ref a_kept_leftOver])), (a_kept_row, .inl (E.2.1, 81, .inl c_kept_row)), (a_book, .inr (1, [.ref a_book_lines])), (a_book_lines, .inl (E.2.1, 300, .inl w_4)), (a_keptBook, .inr (1, [.ref a_keptBook_lines])), (a_keptBook_lines, .inl (E.2.1, 300, .inl c_keptBook_lines))]) (w1 := (w_X2_forget E a_history a_history_rows c_history_next w_6)) (va_runV (As := []) (rest := [])  ⟨hx, hb, hml, hown, hts⟩ (f_X2_forget l E H.size (a_ := a_history) (a_rows := a_history_rows) (c_next := c_history_next) (c_held := c_history_held) hc_7) (cwV 0 hts g_f_X7_back_f_X2_forget_314 rfl rfl rfl hd_X2_forget ⟨Nat.le_of_ble_eq_true rfl, Nat.le_of_ble_eq_true rfl⟩) ⟨pW.blind, hrc, (pW.pre ⟨hK, hN⟩ hPc hDc)⟩ rfl rfl hl.1 rfl (lv_room (Nat.le_of_ble_eq_true rfl)) dX7_back_35 ⟨Nat.le_of_ble_eq_true rfl, Nat.le_of_ble_eq_true rfl⟩) hS hFc hP hD [1] [0, 2, 3, 4, 5, 6, 7, 8, 9] rfl rfl (by decide) (by decide) (fun H locs hP hD hS => ?_)
    replace hP : va_P E.1 vwCl [(a_, .inr (8, [.ref a_tape, .ref a_reader, .ref a_scripts, .ref a_now, .ref a_trial, .ref a_kept, .ref a_book, .ref a_keptBook, .ref a_history, .ref a_draws, .ref a_refused, .int c_hasImage])), (a_now, .inr (6, [.ref a_now_row, .ref a_now_partners, .int c_now_askedCount, .int c_now_outcome, .ref a_now_share, .ref a_now_leftOver])), (a_now_row, .inl (E.2.1, 81, .inl w_2)), (a_kept, .inr (6, [.ref a_kept_row, .ref a_kept_partners, .int c_kept_askedCount, .int c_kept_outcome, .ref a_kept_share, .ref a_kept_leftOver])), (a_kept_row, .inl (E.2.1, 81, .inl c_kept_row)), (a_book, .inr (1, [.ref a_book_lines])), (a_book_lines, .inl (E.2.1, 300, .inl w_4)), (a_keptBook, .inr (1, [.ref a_keptBook_lines])), (a_keptBook_lines, .inl (E.2.1, 300, .inl c_keptBook_lines)), (a_history, .inr (3, [.ref a_history_rows, .int c_history_next, .int w_6]))] H := hP
    replace hD : va_D A [(a_, .inr (8, [.ref a_tape, .ref a_reader, .ref a_scripts, .ref a_now, .ref a_trial, .ref a_kept, .ref a_book, .ref a_keptBook, .ref a_history, .ref a_draws, .ref a_refused, .int c_hasImage])), (a_now, .inr (6, [.ref a_now_row, .ref a_now_partners, .int c_now_askedCount, .int c_now_outcome, .ref a_now_share, .ref a_now_leftOver])), (a_now_row, .inl (E.2.1, 81, .inl w_2)), (a_kept, .inr (6, [.ref a_kept_row, .ref a_kept_partners, .int c_kept_askedCount, .int c_kept_outcome, .ref a_kept_share, .ref a_kept_leftOver])), (a_kept_row, .inl (E.2.1, 81, .inl c_kept_row)), (a_book, .inr (1, [.ref a_book_lines])), (a_book_lines, .inl (E.2.1, 300, .inl w_4)), (a_keptBook, .inr (1, [.ref a_keptBook_lines])), (a_keptBook_lines, .inl (E.2.1, 300, .inl c_keptBook_lines)), (a_history, .inr (3, [.ref a_history_rows, .int c_history_next, .int w_6]))] := hD
    refine lv_aload_n hx hb dX7_back_38 rfl (lv_at hl 0 rfl) ?_
    refine gt_X7_3 (v := .ref a_now) hx hb hts i_f_X7_back_X7 hown hK hP 0 rfl (hts (.fieldLink RX7 35 "HushWatch" "now" "LHushWatch$State;") (List.mem_of_getElem? (i := 2) rfl)) rfl dX7_back_39 ?_
    refine va_getN (D := E.1) (ci := 6) (v := .ref a_now_row) (C := RX5) (T := TX5) (N := 6) hx hb hts i_f_X7_back_X5 hown hK hP 1 rfl rfl 0 (by decide) (nx hN 12 rfl) (fun _ h9 => h9) rfl dX7_back_42 ?_
    refine lv_bipush (v := 11) hx hb dX7_back_45 (by decide) ?_
    refine va_iald hx hb hK hP 2 0 rfl rfl (vin rfl) dX7_back_47 ?_
    refine W.eq (g2 := F0 m 48 ls [.int (w_2 11)]) rfl ?_
    rw [hQ]
    have h9 := fin9 (P := fun u9 : Int32 × (Nat → Int32) × (Nat → Int32) × Int32 => (w_2 11) = u9.1 ∧ va_P E.1 vwCl (w_X7_back E a_ a_tape a_reader a_scripts a_now a_trial a_kept a_book a_keptBook a_history a_draws a_refused a_now_row a_now_partners a_now_share a_now_leftOver a_kept_row a_kept_partners a_kept_share a_kept_leftOver a_book_lines a_keptBook_lines a_history_rows c_hasImage c_now_askedCount c_now_outcome u9.2.1 c_kept_askedCount c_kept_outcome c_kept_row u9.2.2.1 c_keptBook_lines c_history_next u9.2.2.2) H ∧ va_D A (w_X7_back E a_ a_tape a_reader a_scripts a_now a_trial a_kept a_book a_keptBook a_history a_draws a_refused a_now_row a_now_partners a_now_share a_now_leftOver a_kept_row a_kept_partners a_kept_share a_kept_leftOver a_book_lines a_keptBook_lines a_history_rows c_hasImage c_now_askedCount c_now_outcome u9.2.1 c_kept_askedCount c_kept_outcome c_kept_row u9.2.2.1 c_keptBook_lines c_history_next u9.2.2.2)) hF ⟨rfl, hP, hD⟩
    obtain ⟨e9_0, hP9, hD9⟩ := h9
    exact W.iret (v := w_2 11) hx hb hr (fun tt ht hW => ⟨⟨_, (), rfl, e9_0, ht ▸ hP9, hD9⟩, hS.F ht⟩) hS.2.2 dX7_back_48
  ·
    replace hF := ip c_1 hF
    refine lv_iconst (v := -1) hx hb dX7_back_7 (by decide) ?_
    rw [hQ]
    have h9 := fin9 (P := fun u9 : Int32 × (Nat → Int32) × (Nat → Int32) × Int32 => (-1 : Int32) = u9.1 ∧ va_P E.1 vwCl (w_X7_back E a_ a_tape a_reader a_scripts a_now a_trial a_kept a_book a_keptBook a_history a_draws a_refused a_now_row a_now_partners a_now_share a_now_leftOver a_kept_row a_kept_partners a_kept_share a_kept_leftOver a_book_lines a_keptBook_lines a_history_rows c_hasImage c_now_askedCount c_now_outcome u9.2.1 c_kept_askedCount c_kept_outcome c_kept_row u9.2.2.1 c_keptBook_lines c_history_next u9.2.2.2) H ∧ va_D A (w_X7_back E a_ a_tape a_reader a_scripts a_now a_trial a_kept a_book a_keptBook a_history a_draws a_refused a_now_row a_now_partners a_now_share a_now_leftOver a_kept_row a_kept_partners a_kept_share a_kept_leftOver a_book_lines a_keptBook_lines a_history_rows c_hasImage c_now_askedCount c_now_outcome u9.2.1 c_kept_askedCount c_kept_outcome c_kept_row u9.2.2.1 c_keptBook_lines c_history_next u9.2.2.2)) hF ⟨rfl, hP, hD⟩
    obtain ⟨e9_0, hP9, hD9⟩ := h9
    exact W.iret (v := (-1 : Int32)) hx hb hr (fun tt ht hW => ⟨⟨_, (), rfl, e9_0, ht ▸ hP9, hD9⟩, hS.F ht⟩) hS.2.2 dX7_back_8

def F_X7_beginWatch (K : Nat) (c_tape_length : Int32) (c_reader_rules : Nat → Int32) (c_reader_places : Nat → Int32) (c_reader_siteCount : Int32) (c_now_row : Nat → Int32) (c_history_held : Int32) (c_hasImage : Int32) : Option (Int32 × Int32 × (Nat → Int32) × Int32 × Int32) :=
  bd1 (F_X5_begin K c_now_row c_reader_rules c_reader_places c_reader_siteCount) (fun w_1 => bd1 (F_X2_forget c_history_held) (fun w_3 => bd2 (F_X6_cutTo (0 : Int32) c_tape_length) (fun r_5 w_6 => bd1 (F_X5_sites w_1) (fun r_9 => some (r_9, w_6, w_1, w_3, (0 : Int32))))))
abbrev w_X7_beginWatch (E : EE) (a_ a_tape a_reader a_scripts a_now a_trial a_kept a_book a_keptBook a_history a_draws a_refused a_tape_bytes a_reader_rules a_reader_places a_reader_steps a_now_row a_now_partners a_now_share a_now_leftOver a_history_rows : Nat) (c_hasImage : Int32) (c_tape_length : Int32) (c_reader_siteCount : Int32) (c_reader_stepCount : Int32) (c_reader_seenRules : Int32) (c_reader_at : Int32) (c_reader_wordStart : Int32) (c_reader_number : Int32) (c_reader_failed : Int32) (c_reader_rules : Nat → Int32) (c_reader_places : Nat → Int32) (c_now_askedCount : Int32) (c_now_outcome : Int32) (c_now_row : Nat → Int32) (c_history_next : Int32) (c_history_held : Int32) : va_W := [(a_, .inr (8, [.ref a_tape, .ref a_reader, .ref a_scripts, .ref a_now, .ref a_trial, .ref a_kept, .ref a_book, .ref a_keptBook, .ref a_history, .ref a_draws, .ref a_refused, .int c_hasImage])), (a_tape, .inr (7, [.ref a_tape_bytes, .int c_tape_length])), (a_reader, .inr (4, [.ref a_tape, .ref a_reader_rules, .ref a_reader_places, .ref a_reader_steps, .int c_reader_siteCount, .int c_reader_stepCount, .int c_reader_seenRules, .int c_reader_at, .int c_reader_wordStart, .int c_reader_number, .int c_reader_failed])), (a_reader_rules, .inl (E.2.1, 3, .inl c_reader_rules)), (a_reader_places, .inl (E.2.1, 16, .inl c_reader_places)), (a_now, .inr (6, [.ref a_now_row, .ref a_now_partners, .int c_now_askedCount, .int c_now_outcome, .ref a_now_share, .ref a_now_leftOver])), (a_now_row, .inl (E.2.1, 81, .inl c_now_row)), (a_history, .inr (3, [.ref a_history_rows, .int c_history_next, .int c_history_held]))]
def v_f_X7_beginWatch : List Cond := .code yX7_beginWatch cX7_beginWatch 1 (some .int) :: ([.fieldLink RX7 35 "HushWatch" "now" "LHushWatch$State;", .fieldLink RX7 21 "HushWatch" "reader" "LHushWatch$Reader;", .fieldLink RX7 58 "HushWatch" "history" "LHushWatch$History;", .fieldLink RX7 73 "HushWatch" "hasImage" "Z", .fieldLink RX7 10 "HushWatch" "tape" "LHushWatch$Tape;", .methodLink RX7 318 yX5_begin, .instanceMethod yX5_begin, .selects RX5 yX5_begin yX5_begin, .initialized RX5, .methodLink RX7 314 yX2_forget, .instanceMethod yX2_forget, .selects RX2 yX2_forget yX2_forget, .initialized RX2, .methodLink RX7 89 yX6_cutTo, .instanceMethod yX6_cutTo, .selects RX6 yX6_cutTo yX6_cutTo, .initialized RX6, .methodLink RX7 117 yX5_sites, .instanceMethod yX5_sites, .selects RX5 yX5_sites yX5_sites] ++ (wsX70 ++ (v_f_X5_begin ++ (v_f_X2_forget ++ (v_f_X6_cutTo ++ (v_f_X5_sites ++ ([])))))))
theorem gw_f_X7_beginWatch : v_f_X7_beginWatch.all goodWord = true := by decide +kernel
theorem i_f_X7_beginWatch_X7 : ∀ w ∈ wsX70, w ∈ v_f_X7_beginWatch := fun _ h => List.mem_cons_of_mem _ (List.mem_append_right _ (List.mem_append_left _ h))
theorem g_f_X7_beginWatch_f_X5_begin_318 : GoodIn v_f_X7_beginWatch (wsV RX7 318 RX5 yX5_begin v_f_X5_begin) := goodIn_app (goodIn_of _ (by decide +kernel)) (goodIn_sub (fun _ h => List.mem_cons_of_mem _ (List.mem_append_right _ (List.mem_append_right _ (List.mem_append_left _ h)))) gw_f_X5_begin)
theorem g_f_X7_beginWatch_f_X2_forget_314 : GoodIn v_f_X7_beginWatch (wsV RX7 314 RX2 yX2_forget v_f_X2_forget) := goodIn_app (goodIn_of _ (by decide +kernel)) (goodIn_sub (fun _ h => List.mem_cons_of_mem _ (List.mem_append_right _ (List.mem_append_right _ (List.mem_append_right _ (List.mem_append_left _ h))))) gw_f_X2_forget)
theorem g_f_X7_beginWatch_f_X6_cutTo_89 : GoodIn v_f_X7_beginWatch (wsV RX7 89 RX6 yX6_cutTo v_f_X6_cutTo) := goodIn_app (goodIn_of _ (by decide +kernel)) (goodIn_sub (fun _ h => List.mem_cons_of_mem _ (List.mem_append_right _ (List.mem_append_right _ (List.mem_append_right _ (List.mem_append_right _ (List.mem_append_left _ h)))))) gw_f_X6_cutTo)
theorem g_f_X7_beginWatch_f_X5_sites_117 : GoodIn v_f_X7_beginWatch (wsV RX7 117 RX5 yX5_sites v_f_X5_sites) := goodIn_app (goodIn_of _ (by decide +kernel)) (goodIn_sub (fun _ h => List.mem_cons_of_mem _ (List.mem_append_right _ (List.mem_append_right _ (List.mem_append_right _ (List.mem_append_right _ (List.mem_append_right _ (List.mem_append_left _ h))))))) gw_f_X5_sites)
theorem hd_X7_beginWatch : yX7_beginWatch.cls = RX7 ∧ yX7_beginWatch.cls ≠ "java/lang/invoke/MethodHandle" ∧ yX7_beginWatch.cls ≠ "java/lang/invoke/VarHandle" ∧ (parseMethodDescriptor yX7_beginWatch.desc).map (fun d => d.parameters.length) = some 0 := by decide +kernel
set_option maxHeartbeats 4000000 in
set_option maxRecDepth 100000 in
theorem f_X7_beginWatch (l : Launch) (E : EE) (sz : Nat) (K : Nat) {a_ a_tape a_reader a_scripts a_now a_trial a_kept a_book a_keptBook a_history a_draws a_refused a_tape_bytes a_reader_rules a_reader_places a_reader_steps a_now_row a_now_partners a_now_share a_now_leftOver a_history_rows : Nat} {c_hasImage : Int32} {c_tape_length : Int32} {c_reader_siteCount : Int32} {c_reader_stepCount : Int32} {c_reader_seenRules : Int32} {c_reader_at : Int32} {c_reader_wordStart : Int32} {c_reader_number : Int32} {c_reader_failed : Int32} {c_reader_rules : Nat → Int32} {c_reader_places : Nat → Int32} {c_now_askedCount : Int32} {c_now_outcome : Int32} {c_now_row : Nat → Int32} {c_history_next : Int32} {c_history_held : Int32} {rr : Int32} {n_tape_length : Int32} {n_now_row : Nat → Int32} {n_history_held : Int32} {n_hasImage : Int32} (hF : F_X7_beginWatch K c_tape_length c_reader_rules c_reader_places c_reader_siteCount c_now_row c_history_held c_hasImage = some (rr, n_tape_length, n_now_row, n_history_held, n_hasImage)) : Met l yX7_beginWatch v_f_X7_beginWatch (({ frames := 3, cells := 0, slots := 0, locals := 74 } : Room)) (va_Pc [.ref a_] (pW E sz (w_X7_beginWatch E a_ a_tape a_reader a_scripts a_now a_trial a_kept a_book a_keptBook a_history a_draws a_refused a_tape_bytes a_reader_rules a_reader_places a_reader_steps a_now_row a_now_partners a_now_share a_now_leftOver a_history_rows c_hasImage c_tape_length c_reader_siteCount c_reader_stepCount c_reader_seenRules c_reader_at c_reader_wordStart c_reader_number c_reader_failed c_reader_rules c_reader_places c_now_askedCount c_now_outcome c_now_row c_history_next c_history_held))) (va_Qi (fun (q : Int32) (_u : Unit) => q = rr) (fun (_u : Unit) tt => va_P E.1 vwCl (w_X7_beginWatch E a_ a_tape a_reader a_scripts a_now a_trial a_kept a_book a_keptBook a_history a_draws a_refused a_tape_bytes a_reader_rules a_reader_places a_reader_steps a_now_row a_now_partners a_now_share a_now_leftOver a_history_rows n_hasImage n_tape_length c_reader_siteCount c_reader_stepCount c_reader_seenRules c_reader_at c_reader_wordStart c_reader_number c_reader_failed c_reader_rules c_reader_places c_now_askedCount c_now_outcome n_now_row c_history_next n_history_held) tt.heap ∧ va_D (va_A (w_X7_beginWatch E a_ a_tape a_reader a_scripts a_now a_trial a_kept a_book a_keptBook a_history a_draws a_refused a_tape_bytes a_reader_rules a_reader_places a_reader_steps a_now_row a_now_partners a_now_share a_now_leftOver a_history_rows c_hasImage c_tape_length c_reader_siteCount c_reader_stepCount c_reader_seenRules c_reader_at c_reader_wordStart c_reader_number c_reader_failed c_reader_rules c_reader_places c_now_askedCount c_now_outcome c_now_row c_history_next c_history_held) sz) (w_X7_beginWatch E a_ a_tape a_reader a_scripts a_now a_trial a_kept a_book a_keptBook a_history a_draws a_refused a_tape_bytes a_reader_rules a_reader_places a_reader_steps a_now_row a_now_partners a_now_share a_now_leftOver a_history_rows n_hasImage n_tape_length c_reader_siteCount c_reader_stepCount c_reader_seenRules c_reader_at c_reader_wordStart c_reader_number c_reader_failed c_reader_rules c_reader_places c_now_askedCount c_now_outcome n_now_row c_history_next n_history_held)) (va_A (w_X7_beginWatch E a_ a_tape a_reader a_scripts a_now a_trial a_kept a_book a_keptBook a_history a_draws a_refused a_tape_bytes a_reader_rules a_reader_places a_reader_steps a_now_row a_now_partners a_now_share a_now_leftOver a_history_rows c_hasImage c_tape_length c_reader_siteCount c_reader_stepCount c_reader_seenRules c_reader_at c_reader_wordStart c_reader_number c_reader_failed c_reader_rules c_reader_places c_now_askedCount c_now_outcome c_now_row c_history_next c_history_held) sz)) 0 0 (va_A (w_X7_beginWatch E a_ a_tape a_reader a_scripts a_now a_trial a_kept a_book a_keptBook a_history a_draws a_refused a_tape_bytes a_reader_rules a_reader_places a_reader_steps a_now_row a_now_partners a_now_share a_now_leftOver a_history_rows c_hasImage c_tape_length c_reader_siteCount c_reader_stepCount c_reader_seenRules c_reader_at c_reader_wordStart c_reader_number c_reader_failed c_reader_rules c_reader_places c_now_askedCount c_now_outcome c_now_row c_history_next c_history_held) sz) := by
  refine Met.ofW (cc := cX7_beginWatch) (maxL := 1) (ret := (some .int)) (by decide) rfl ?_
  intro p e s m args below meth c s₁ B hml hv
  obtain ⟨rfl, hsz, ⟨hK, hN⟩, hP, hD0⟩ := hv
  have hx := B.exec
  have hb := B.bytes
  have hr := B.returns
  have hts := atoms_spec (ws := v_f_X7_beginWatch) B.pre
  have hown : s.vm.findClass RX7 = some m.cls := own_of hd_X7_beginWatch.1 (findClass_of_methodNamed B.named)
  have hlocks : meth.locks = false := B.notSynchronized
  subst hsz
  have hD := hD0.self (sz := s.heap.size)
  generalize hAe : va_A (w_X7_beginWatch E a_ a_tape a_reader a_scripts a_now a_trial a_kept a_book a_keptBook a_history a_draws a_refused a_tape_bytes a_reader_rules a_reader_places a_reader_steps a_now_row a_now_partners a_now_share a_now_leftOver a_history_rows c_hasImage c_tape_length c_reader_siteCount c_reader_stepCount c_reader_seenRules c_reader_at c_reader_wordStart c_reader_number c_reader_failed c_reader_rules c_reader_places c_now_askedCount c_now_outcome c_now_row c_history_next c_history_held) s.heap.size = A at hD ⊢
  have hA : ∀ q : Nat, s.heap.size ≤ q → A q := fun q h => by rw [← hAe]; exact Or.inr h
  have hS : va_S A s.heap s.heap [] := va_S.rf
  have hl := lv_entry ([.ref a_]) (n := 1) (Nat.le_of_ble_eq_true rfl)
  rw [lg_entry_eq]
  generalize (lg_sl ([.ref a_]) ++ List.replicate (1 - (lg_sl ([.ref a_])).length) Slot.unset).toArray = ls at hl ⊢
  have hl : lv_has ls 1 [(0, .ref a_)] := hl
  obtain ⟨Q, hQ⟩ : ∃ Q : State → Prop, Q = MQ below (va_Qi (fun (q : Int32) (_u : Unit) => q = rr) (fun (_u : Unit) tt => va_P E.1 vwCl (w_X7_beginWatch E a_ a_tape a_reader a_scripts a_now a_trial a_kept a_book a_keptBook a_history a_draws a_refused a_tape_bytes a_reader_rules a_reader_places a_reader_steps a_now_row a_now_partners a_now_share a_now_leftOver a_history_rows n_hasImage n_tape_length c_reader_siteCount c_reader_stepCount c_reader_seenRules c_reader_at c_reader_wordStart c_reader_number c_reader_failed c_reader_rules c_reader_places c_now_askedCount c_now_outcome n_now_row c_history_next n_history_held) tt.heap ∧ va_D A (w_X7_beginWatch E a_ a_tape a_reader a_scripts a_now a_trial a_kept a_book a_keptBook a_history a_draws a_refused a_tape_bytes a_reader_rules a_reader_places a_reader_steps a_now_row a_now_partners a_now_share a_now_leftOver a_history_rows n_hasImage n_tape_length c_reader_siteCount c_reader_stepCount c_reader_seenRules c_reader_at c_reader_wordStart c_reader_number c_reader_failed c_reader_rules c_reader_places c_now_askedCount c_now_outcome n_now_row c_history_next n_history_held)) A) #[Value.ref a_] s 0 0 A := ⟨_, rfl⟩
  rw [← hQ]
  change W p l e ({ frames := 3, cells := 0, slots := 0, locals := 74 } : Room) s m #[Value.ref a_] below meth c s.heap [] 0 0 Q (F0 m 0 ls [])
  suffices hh9 : ∀ (H : Heap) (locs : List Loc), va_P E.1 vwCl (w_X7_beginWatch E a_ a_tape a_reader a_scripts a_now a_trial a_kept a_book a_keptBook a_history a_draws a_refused a_tape_bytes a_reader_rules a_reader_places a_reader_steps a_now_row a_now_partners a_now_share a_now_leftOver a_history_rows c_hasImage c_tape_length c_reader_siteCount c_reader_stepCount c_reader_seenRules c_reader_at c_reader_wordStart c_reader_number c_reader_failed c_reader_rules c_reader_places c_now_askedCount c_now_outcome c_now_row c_history_next c_history_held) H → va_D A (w_X7_beginWatch E a_ a_tape a_reader a_scripts a_now a_trial a_kept a_book a_keptBook a_history a_draws a_refused a_tape_bytes a_reader_rules a_reader_places a_reader_steps a_now_row a_now_partners a_now_share a_now_leftOver a_history_rows c_hasImage c_tape_length c_reader_siteCount c_reader_stepCount c_reader_seenRules c_reader_at c_reader_wordStart c_reader_number c_reader_failed c_reader_rules c_reader_places c_now_askedCount c_now_outcome c_now_row c_history_next c_history_held) → va_S A s.heap H locs → W p l e ({ frames := 3, cells := 0, slots := 0, locals := 74 } : Room) s m #[Value.ref a_] below meth c H locs 0 0 Q (F0 m 0 ls []) from hh9 s.heap [] hP hD hS
  clear hP hD hS
  intro H locs hP hD hS
  replace hP : va_P E.1 vwCl [(a_, .inr (8, [.ref a_tape, .ref a_reader, .ref a_scripts, .ref a_now, .ref a_trial, .ref a_kept, .ref a_book, .ref a_keptBook, .ref a_history, .ref a_draws, .ref a_refused, .int c_hasImage])), (a_tape, .inr (7, [.ref a_tape_bytes, .int c_tape_length])), (a_reader, .inr (4, [.ref a_tape, .ref a_reader_rules, .ref a_reader_places, .ref a_reader_steps, .int c_reader_siteCount, .int c_reader_stepCount, .int c_reader_seenRules, .int c_reader_at, .int c_reader_wordStart, .int c_reader_number, .int c_reader_failed])), (a_reader_rules, .inl (E.2.1, 3, .inl c_reader_rules)), (a_reader_places, .inl (E.2.1, 16, .inl c_reader_places)), (a_now, .inr (6, [.ref a_now_row, .ref a_now_partners, .int c_now_askedCount, .int c_now_outcome, .ref a_now_share, .ref a_now_leftOver])), (a_now_row, .inl (E.2.1, 81, .inl c_now_row)), (a_history, .inr (3, [.ref a_history_rows, .int c_history_next, .int c_history_held]))] H := hP
  replace hD : va_D A [(a_, .inr (8, [.ref a_tape, .ref a_reader, .ref a_scripts, .ref a_now, .ref a_trial, .ref a_kept, .ref a_book, .ref a_keptBook, .ref a_history, .ref a_draws, .ref a_refused, .int c_hasImage])), (a_tape, .inr (7, [.ref a_tape_bytes, .int c_tape_length])), (a_reader, .inr (4, [.ref a_tape, .ref a_reader_rules, .ref a_reader_places, .ref a_reader_steps, .int c_reader_siteCount, .int c_reader_stepCount, .int c_reader_seenRules, .int c_reader_at, .int c_reader_wordStart, .int c_reader_number, .int c_reader_failed])), (a_reader_rules, .inl (E.2.1, 3, .inl c_reader_rules)), (a_reader_places, .inl (E.2.1, 16, .inl c_reader_places)), (a_now, .inr (6, [.ref a_now_row, .ref a_now_partners, .int c_now_askedCount, .int c_now_outcome, .ref a_now_share, .ref a_now_leftOver])), (a_now_row, .inl (E.2.1, 81, .inl c_now_row)), (a_history, .inr (3, [.ref a_history_rows, .int c_history_next, .int c_history_held]))] := hD
  unfold F_X7_beginWatch at hF
  refine lv_aload_n hx hb dX7_beginWatch_0 rfl (lv_at hl 0 rfl) ?_
  refine gt_X7_3 (v := .ref a_now) hx hb hts i_f_X7_beginWatch_X7 hown hK hP 0 rfl (hts (.fieldLink RX7 35 "HushWatch" "now" "LHushWatch$State;") (List.mem_of_getElem? (i := 1) rfl)) rfl dX7_beginWatch_1 ?_
  refine lv_aload_n hx hb dX7_beginWatch_4 rfl (lv_at hl 0 rfl) ?_
  refine gt_X7_1 (v := .ref a_reader) hx hb hts i_f_X7_beginWatch_X7 hown hK hP 0 rfl (hts (.fieldLink RX7 21 "HushWatch" "reader" "LHushWatch$Reader;") (List.mem_of_getElem? (i := 2) rfl)) rfl dX7_beginWatch_5 ?_
  replace hF := bd1_s hF
  obtain ⟨w_1, hc_2, hF⟩ := hF
  obtain ⟨hPc, hDc, hFc⟩ := wcut (wc := (w_X5_begin E a_now a_now_row a_now_partners a_now_share a_now_leftOver a_reader a_tape a_reader_rules a_reader_places a_reader_steps c_now_askedCount c_now_outcome c_now_row c_reader_siteCount c_reader_stepCount c_reader_seenRules c_reader_at c_reader_wordStart c_reader_number c_reader_failed c_reader_rules c_reader_places)) hP hD hS hA [5, 6, 2, 3, 4] (by decide) rfl
  have hrc := va_recv hK hPc (ci := 6) (q0 := 0) rfl rfl
  refine cE_v (wc := (w_X5_begin E a_now a_now_row a_now_partners a_now_share a_now_leftOver a_reader a_tape a_reader_rules a_reader_places a_reader_steps c_now_askedCount c_now_outcome c_now_row c_reader_siteCount c_reader_stepCount c_reader_seenRules c_reader_at c_reader_wordStart c_reader_number c_reader_failed c_reader_rules c_reader_places)) (wr := [(a_, .inr (8, [.ref a_tape, .ref a_reader, .ref a_scripts, .ref a_now, .ref a_trial, .ref a_kept, .ref a_book, .ref a_keptBook, .ref a_history, .ref a_draws, .ref a_refused, .int c_hasImage])), (a_tape, .inr (7, [.ref a_tape_bytes, .int c_tape_length])), (a_history, .inr (3, [.ref a_history_rows, .int c_history_next, .int c_history_held]))]) (w1 := (w_X5_begin E a_now a_now_row a_now_partners a_now_share a_now_leftOver a_reader a_tape a_reader_rules a_reader_places a_reader_steps c_now_askedCount c_now_outcome w_1 c_reader_siteCount c_reader_stepCount c_reader_seenRules c_reader_at c_reader_wordStart c_reader_number c_reader_failed c_reader_rules c_reader_places)) (va_runV (As := [.ref a_reader]) (rest := [])  ⟨hx, hb, hml, hown, hts⟩ (f_X5_begin l E H.size K (a_ := a_now) (a_row := a_now_row) (a_partners := a_now_partners) (a_share := a_now_share) (a_leftOver := a_now_leftOver) (a_o1 := a_reader) (a_o1_tape := a_tape) (a_o1_rules := a_reader_rules) (a_o1_places := a_reader_places) (a_o1_steps := a_reader_steps) (c_askedCount := c_now_askedCount) (c_outcome := c_now_outcome) (c_row := c_now_row) (c_o1_siteCount := c_reader_siteCount) (c_o1_stepCount := c_reader_stepCount) (c_o1_seenRules := c_reader_seenRules) (c_o1_at := c_reader_at) (c_o1_wordStart := c_reader_wordStart) (c_o1_number := c_reader_number) (c_o1_failed := c_reader_failed) (c_o1_rules := c_reader_rules) (c_o1_places := c_reader_places) hc_2) (cwV 1 hts g_f_X7_beginWatch_f_X5_begin_318 rfl rfl rfl hd_X5_begin ⟨Nat.le_of_ble_eq_true rfl, Nat.le_of_ble_eq_true rfl⟩) ⟨pW.blind, hrc, (pW.pre ⟨hK, hN⟩ hPc hDc)⟩ rfl rfl hl.1 rfl (lv_room (Nat.le_of_ble_eq_true rfl)) dX7_beginWatch_8 ⟨Nat.le_of_ble_eq_true rfl, Nat.le_of_ble_eq_true rfl⟩) hS hFc hP hD [5, 6, 2, 3, 4] [0, 1, 7] rfl rfl (by decide) (by decide) (fun H locs hP hD hS => ?_)
  replace hP : va_P E.1 vwCl [(a_, .inr (8, [.ref a_tape, .ref a_reader, .ref a_scripts, .ref a_now, .ref a_trial, .ref a_kept, .ref a_book, .ref a_keptBook, .ref a_history, .ref a_draws, .ref a_refused, .int c_hasImage])), (a_tape, .inr (7, [.ref a_tape_bytes, .int c_tape_length])), (a_history, .inr (3, [.ref a_history_rows, .int c_history_next, .int c_history_held])), (a_now, .inr (6, [.ref a_now_row, .ref a_now_partners, .int c_now_askedCount, .int c_now_outcome, .ref a_now_share, .ref a_now_leftOver])), (a_now_row, .inl (E.2.1, 81, .inl w_1)), (a_reader, .inr (4, [.ref a_tape, .ref a_reader_rules, .ref a_reader_places, .ref a_reader_steps, .int c_reader_siteCount, .int c_reader_stepCount, .int c_reader_seenRules, .int c_reader_at, .int c_reader_wordStart, .int c_reader_number, .int c_reader_failed])), (a_reader_rules, .inl (E.2.1, 3, .inl c_reader_rules)), (a_reader_places, .inl (E.2.1, 16, .inl c_reader_places))] H := hP
  replace hD : va_D A [(a_, .inr (8, [.ref a_tape, .ref a_reader, .ref a_scripts, .ref a_now, .ref a_trial, .ref a_kept, .ref a_book, .ref a_keptBook, .ref a_history, .ref a_draws, .ref a_refused, .int c_hasImage])), (a_tape, .inr (7, [.ref a_tape_bytes, .int c_tape_length])), (a_history, .inr (3, [.ref a_history_rows, .int c_history_next, .int c_history_held])), (a_now, .inr (6, [.ref a_now_row, .ref a_now_partners, .int c_now_askedCount, .int c_now_outcome, .ref a_now_share, .ref a_now_leftOver])), (a_now_row, .inl (E.2.1, 81, .inl w_1)), (a_reader, .inr (4, [.ref a_tape, .ref a_reader_rules, .ref a_reader_places, .ref a_reader_steps, .int c_reader_siteCount, .int c_reader_stepCount, .int c_reader_seenRules, .int c_reader_at, .int c_reader_wordStart, .int c_reader_number, .int c_reader_failed])), (a_reader_rules, .inl (E.2.1, 3, .inl c_reader_rules)), (a_reader_places, .inl (E.2.1, 16, .inl c_reader_places))] := hD
  refine lv_aload_n hx hb dX7_beginWatch_11 rfl (lv_at hl 0 rfl) ?_
  refine gt_X7_8 (v := .ref a_history) hx hb hts i_f_X7_beginWatch_X7 hown hK hP 0 rfl (hts (.fieldLink RX7 58 "HushWatch" "history" "LHushWatch$History;") (List.mem_of_getElem? (i := 3) rfl)) rfl dX7_beginWatch_12 ?_
  replace hF := bd1_s hF
  obtain ⟨w_3, hc_4, hF⟩ := hF
  obtain ⟨hPc, hDc, hFc⟩ := wcut (wc := (w_X2_forget E a_history a_history_rows c_history_next c_history_held)) hP hD hS hA [2] (by decide) rfl
  have hrc := va_recv hK hPc (ci := 3) (q0 := 0) rfl rfl
  refine cE_v (wc := (w_X2_forget E a_history a_history_rows c_history_next c_history_held)) (wr := [(a_, .inr (8, [.ref a_tape, .ref a_reader, .ref a_scripts, .ref a_now, .ref a_trial, .ref a_kept, .ref a_book, .ref a_keptBook, .ref a_history, .ref a_draws, .ref a_refused, .int c_hasImage])), (a_tape, .inr (7, [.ref a_tape_bytes, .int c_tape_length])), (a_now, .inr (6, [.ref a_now_row, .ref a_now_partners, .int c_now_askedCount, .int c_now_outcome, .ref a_now_share, .ref a_now_leftOver])), (a_now_row, .inl (E.2.1, 81, .inl w_1)), (a_reader, .inr (4, [.ref a_tape, .ref a_reader_rules, .ref a_reader_places, .ref a_reader_steps, .int c_reader_siteCount, .int c_reader_stepCount, .int c_reader_seenRules, .int c_reader_at, .int c_reader_wordStart, .int c_reader_number, .int c_reader_failed])), (a_reader_rules, .inl (E.2.1, 3, .inl c_reader_rules)), (a_reader_places, .inl (E.2.1, 16, .inl c_reader_places))]) (w1 := (w_X2_forget E a_history a_history_rows c_history_next w_3)) (va_runV (As := []) (rest := [])  ⟨hx, hb, hml, hown, hts⟩ (f_X2_forget l E H.size (a_ := a_history) (a_rows := a_history_rows) (c_next := c_history_next) (c_held := c_history_held) hc_4) (cwV 0 hts g_f_X7_beginWatch_f_X2_forget_314 rfl rfl rfl hd_X2_forget ⟨Nat.le_of_ble_eq_true rfl, Nat.le_of_ble_eq_true rfl⟩) ⟨pW.blind, hrc, (pW.pre ⟨hK, hN⟩ hPc hDc)⟩ rfl rfl hl.1 rfl (lv_room (Nat.le_of_ble_eq_true rfl)) dX7_beginWatch_15 ⟨Nat.le_of_ble_eq_true rfl, Nat.le_of_ble_eq_true rfl⟩) hS hFc hP hD [2] [0, 1, 3, 4, 5, 6, 7] rfl rfl (by decide) (by decide) (fun H locs hP hD hS => ?_)
  replace hP : va_P E.1 vwCl [(a_, .inr (8, [.ref a_tape, .ref a_reader, .ref a_scripts, .ref a_now, .ref a_trial, .ref a_kept, .ref a_book, .ref a_keptBook, .ref a_history, .ref a_draws, .ref a_refused, .int c_hasImage])), (a_tape, .inr (7, [.ref a_tape_bytes, .int c_tape_length])), (a_now, .inr (6, [.ref a_now_row, .ref a_now_partners, .int c_now_askedCount, .int c_now_outcome, .ref a_now_share, .ref a_now_leftOver])), (a_now_row, .inl (E.2.1, 81, .inl w_1)), (a_reader, .inr (4, [.ref a_tape, .ref a_reader_rules, .ref a_reader_places, .ref a_reader_steps, .int c_reader_siteCount, .int c_reader_stepCount, .int c_reader_seenRules, .int c_reader_at, .int c_reader_wordStart, .int c_reader_number, .int c_reader_failed])), (a_reader_rules, .inl (E.2.1, 3, .inl c_reader_rules)), (a_reader_places, .inl (E.2.1, 16, .inl c_reader_places)), (a_history, .inr (3, [.ref a_history_rows, .int c_history_next, .int w_3]))] H := hP
  replace hD : va_D A [(a_, .inr (8, [.ref a_tape, .ref a_reader, .ref a_scripts, .ref a_now, .ref a_trial, .ref a_kept, .ref a_book, .ref a_keptBook, .ref a_history, .ref a_draws, .ref a_refused, .int c_hasImage])), (a_tape, .inr (7, [.ref a_tape_bytes, .int c_tape_length])), (a_now, .inr (6, [.ref a_now_row, .ref a_now_partners, .int c_now_askedCount, .int c_now_outcome, .ref a_now_share, .ref a_now_leftOver])), (a_now_row, .inl (E.2.1, 81, .inl w_1)), (a_reader, .inr (4, [.ref a_tape, .ref a_reader_rules, .ref a_reader_places, .ref a_reader_steps, .int c_reader_siteCount, .int c_reader_stepCount, .int c_reader_seenRules, .int c_reader_at, .int c_reader_wordStart, .int c_reader_number, .int c_reader_failed])), (a_reader_rules, .inl (E.2.1, 3, .inl c_reader_rules)), (a_reader_places, .inl (E.2.1, 16, .inl c_reader_places)), (a_history, .inr (3, [.ref a_history_rows, .int c_history_next, .int w_3]))] := hD
  refine lv_aload_n hx hb dX7_beginWatch_18 rfl (lv_at hl 0 rfl) ?_
  refine lv_iconst (v := 0) hx hb dX7_beginWatch_19 (by decide) ?_
  refine pt_X7_11 (v := .int (0 : Int32)) hx hb hts i_f_X7_beginWatch_X7 hown hK hP hD hS 0 rfl (hts (.fieldLink RX7 73 "HushWatch" "hasImage" "Z") (List.mem_of_getElem? (i := 4) rfl)) rfl rfl (Nat.le_of_ble_eq_true rfl) dX7_beginWatch_20 (fun H locs hP hD hS => ?_)
  replace hP : va_P E.1 vwCl [(a_, .inr (8, [.ref a_tape, .ref a_reader, .ref a_scripts, .ref a_now, .ref a_trial, .ref a_kept, .ref a_book, .ref a_keptBook, .ref a_history, .ref a_draws, .ref a_refused, .int (0 : Int32)])), (a_tape, .inr (7, [.ref a_tape_bytes, .int c_tape_length])), (a_now, .inr (6, [.ref a_now_row, .ref a_now_partners, .int c_now_askedCount, .int c_now_outcome, .ref a_now_share, .ref a_now_leftOver])), (a_now_row, .inl (E.2.1, 81, .inl w_1)), (a_reader, .inr (4, [.ref a_tape, .ref a_reader_rules, .ref a_reader_places, .ref a_reader_steps, .int c_reader_siteCount, .int c_reader_stepCount, .int c_reader_seenRules, .int c_reader_at, .int c_reader_wordStart, .int c_reader_number, .int c_reader_failed])), (a_reader_rules, .inl (E.2.1, 3, .inl c_reader_rules)), (a_reader_places, .inl (E.2.1, 16, .inl c_reader_places)), (a_history, .inr (3, [.ref a_history_rows, .int c_history_next, .int w_3]))] H := hP
  replace hD : va_D A [(a_, .inr (8, [.ref a_tape, .ref a_reader, .ref a_scripts, .ref a_now, .ref a_trial, .ref a_kept, .ref a_book, .ref a_keptBook, .ref a_history, .ref a_draws, .ref a_refused, .int (0 : Int32)])), (a_tape, .inr (7, [.ref a_tape_bytes, .int c_tape_length])), (a_now, .inr (6, [.ref a_now_row, .ref a_now_partners, .int c_now_askedCount, .int c_now_outcome, .ref a_now_share, .ref a_now_leftOver])), (a_now_row, .inl (E.2.1, 81, .inl w_1)), (a_reader, .inr (4, [.ref a_tape, .ref a_reader_rules, .ref a_reader_places, .ref a_reader_steps, .int c_reader_siteCount, .int c_reader_stepCount, .int c_reader_seenRules, .int c_reader_at, .int c_reader_wordStart, .int c_reader_number, .int c_reader_failed])), (a_reader_rules, .inl (E.2.1, 3, .inl c_reader_rules)), (a_reader_places, .inl (E.2.1, 16, .inl c_reader_places)), (a_history, .inr (3, [.ref a_history_rows, .int c_history_next, .int w_3]))] := hD
  refine lv_aload_n hx hb dX7_beginWatch_23 rfl (lv_at hl 0 rfl) ?_
  refine gt_X7_0 (v := .ref a_tape) hx hb hts i_f_X7_beginWatch_X7 hown hK hP 0 rfl (hts (.fieldLink RX7 10 "HushWatch" "tape" "LHushWatch$Tape;") (List.mem_of_getElem? (i := 5) rfl)) rfl dX7_beginWatch_24 ?_
  refine lv_iconst (v := 0) hx hb dX7_beginWatch_27 (by decide) ?_
  replace hF := bd2_s hF
  obtain ⟨r_5, w_6, hc_7, hF⟩ := hF
  obtain ⟨hPc, hDc, hFc⟩ := wcut (wc := (w_X6_cutTo E a_tape a_tape_bytes c_tape_length)) hP hD hS hA [1] (by decide) rfl
  have hrc := va_recv hK hPc (ci := 7) (q0 := 0) rfl rfl
  refine cE_z (wc := (w_X6_cutTo E a_tape a_tape_bytes c_tape_length)) (wr := [(a_, .inr (8, [.ref a_tape, .ref a_reader, .ref a_scripts, .ref a_now, .ref a_trial, .ref a_kept, .ref a_book, .ref a_keptBook, .ref a_history, .ref a_draws, .ref a_refused, .int (0 : Int32)])), (a_now, .inr (6, [.ref a_now_row, .ref a_now_partners, .int c_now_askedCount, .int c_now_outcome, .ref a_now_share, .ref a_now_leftOver])), (a_now_row, .inl (E.2.1, 81, .inl w_1)), (a_reader, .inr (4, [.ref a_tape, .ref a_reader_rules, .ref a_reader_places, .ref a_reader_steps, .int c_reader_siteCount, .int c_reader_stepCount, .int c_reader_seenRules, .int c_reader_at, .int c_reader_wordStart, .int c_reader_number, .int c_reader_failed])), (a_reader_rules, .inl (E.2.1, 3, .inl c_reader_rules)), (a_reader_places, .inl (E.2.1, 16, .inl c_reader_places)), (a_history, .inr (3, [.ref a_history_rows, .int c_history_next, .int w_3]))]) (w1 := (w_X6_cutTo E a_tape a_tape_bytes w_6)) (va_runV (As := [.int (0 : Int32)]) (rest := [])  ⟨hx, hb, hml, hown, hts⟩ (f_X6_cutTo l E H.size (a_ := a_tape) (a_bytes := a_tape_bytes) (p1 := (0 : Int32)) (c_length := c_tape_length) hc_7) (cwV 1 hts g_f_X7_beginWatch_f_X6_cutTo_89 rfl rfl rfl hd_X6_cutTo ⟨Nat.le_of_ble_eq_true rfl, Nat.le_of_ble_eq_true rfl⟩) ⟨pW.blind, hrc, (pW.pre ⟨hK, hN⟩ hPc hDc)⟩ rfl rfl hl.1 rfl (lv_room (Nat.le_of_ble_eq_true rfl)) dX7_beginWatch_28 ⟨Nat.le_of_ble_eq_true rfl, Nat.le_of_ble_eq_true rfl⟩) hS hFc hP hD [1] [0, 2, 3, 4, 5, 6, 7] rfl rfl (by decide) (by decide) (fun hb_8 H locs hP hD hS => ?_)
  replace hP : va_P E.1 vwCl [(a_, .inr (8, [.ref a_tape, .ref a_reader, .ref a_scripts, .ref a_now, .ref a_trial, .ref a_kept, .ref a_book, .ref a_keptBook, .ref a_history, .ref a_draws, .ref a_refused, .int (0 : Int32)])), (a_now, .inr (6, [.ref a_now_row, .ref a_now_partners, .int c_now_askedCount, .int c_now_outcome, .ref a_now_share, .ref a_now_leftOver])), (a_now_row, .inl (E.2.1, 81, .inl w_1)), (a_reader, .inr (4, [.ref a_tape, .ref a_reader_rules, .ref a_reader_places, .ref a_reader_steps, .int c_reader_siteCount, .int c_reader_stepCount, .int c_reader_seenRules, .int c_reader_at, .int c_reader_wordStart, .int c_reader_number, .int c_reader_failed])), (a_reader_rules, .inl (E.2.1, 3, .inl c_reader_rules)), (a_reader_places, .inl (E.2.1, 16, .inl c_reader_places)), (a_history, .inr (3, [.ref a_history_rows, .int c_history_next, .int w_3])), (a_tape, .inr (7, [.ref a_tape_bytes, .int w_6]))] H := hP
  replace hD : va_D A [(a_, .inr (8, [.ref a_tape, .ref a_reader, .ref a_scripts, .ref a_now, .ref a_trial, .ref a_kept, .ref a_book, .ref a_keptBook, .ref a_history, .ref a_draws, .ref a_refused, .int (0 : Int32)])), (a_now, .inr (6, [.ref a_now_row, .ref a_now_partners, .int c_now_askedCount, .int c_now_outcome, .ref a_now_share, .ref a_now_leftOver])), (a_now_row, .inl (E.2.1, 81, .inl w_1)), (a_reader, .inr (4, [.ref a_tape, .ref a_reader_rules, .ref a_reader_places, .ref a_reader_steps, .int c_reader_siteCount, .int c_reader_stepCount, .int c_reader_seenRules, .int c_reader_at, .int c_reader_wordStart, .int c_reader_number, .int c_reader_failed])), (a_reader_rules, .inl (E.2.1, 3, .inl c_reader_rules)), (a_reader_places, .inl (E.2.1, 16, .inl c_reader_places)), (a_history, .inr (3, [.ref a_history_rows, .int c_history_next, .int w_3])), (a_tape, .inr (7, [.ref a_tape_bytes, .int w_6]))] := hD
  refine lv_pop hx hb dX7_beginWatch_31 rfl ?_
  refine lv_aload_n hx hb dX7_beginWatch_32 rfl (lv_at hl 0 rfl) ?_
  refine gt_X7_3 (v := .ref a_now) hx hb hts i_f_X7_beginWatch_X7 hown hK hP 0 rfl (hts (.fieldLink RX7 35 "HushWatch" "now" "LHushWatch$State;") (List.mem_of_getElem? (i := 1) rfl)) rfl dX7_beginWatch_33 ?_
  replace hF := bd1_s hF
  obtain ⟨r_9, hc_10, hF⟩ := hF
  have hPc : va_P E.1 vwCl (w_X5_sites E a_now a_now_row a_now_partners a_now_share a_now_leftOver c_now_askedCount c_now_outcome w_1) H := hP.sub (ws' := [(a_now, .inr (6, [.ref a_now_row, .ref a_now_partners, .int c_now_askedCount, .int c_now_outcome, .ref a_now_share, .ref a_now_leftOver])), (a_now_row, .inl (E.2.1, 81, .inl w_1))]) [1, 2] rfl
  have hrc := va_recv hK hPc (ci := 6) (q0 := 0) rfl rfl
  refine pE_i (va_runV (As := []) (rest := [])  ⟨hx, hb, hml, hown, hts⟩ (f_X5_sites l E (a_ := a_now) (a_row := a_now_row) (a_partners := a_now_partners) (a_share := a_now_share) (a_leftOver := a_now_leftOver) (c_askedCount := c_now_askedCount) (c_outcome := c_now_outcome) (c_row := w_1) hc_10) (cwV 0 hts g_f_X7_beginWatch_f_X5_sites_117 rfl rfl rfl hd_X5_sites ⟨Nat.le_of_ble_eq_true rfl, Nat.le_of_ble_eq_true rfl⟩) ⟨pP.blind, hrc, (pP.pre ⟨hK, hN⟩ hPc)⟩ rfl rfl hl.1 rfl (lv_room (Nat.le_of_ble_eq_true rfl)) dX7_beginWatch_36 ⟨Nat.le_of_ble_eq_true rfl, Nat.le_of_ble_eq_true rfl⟩) ?_
  rw [hQ]
  have h9 := fin9 (P := fun u9 : Int32 × Int32 × (Nat → Int32) × Int32 × Int32 => r_9 = u9.1 ∧ va_P E.1 vwCl (w_X7_beginWatch E a_ a_tape a_reader a_scripts a_now a_trial a_kept a_book a_keptBook a_history a_draws a_refused a_tape_bytes a_reader_rules a_reader_places a_reader_steps a_now_row a_now_partners a_now_share a_now_leftOver a_history_rows u9.2.2.2.2 u9.2.1 c_reader_siteCount c_reader_stepCount c_reader_seenRules c_reader_at c_reader_wordStart c_reader_number c_reader_failed c_reader_rules c_reader_places c_now_askedCount c_now_outcome u9.2.2.1 c_history_next u9.2.2.2.1) H ∧ va_D A (w_X7_beginWatch E a_ a_tape a_reader a_scripts a_now a_trial a_kept a_book a_keptBook a_history a_draws a_refused a_tape_bytes a_reader_rules a_reader_places a_reader_steps a_now_row a_now_partners a_now_share a_now_leftOver a_history_rows u9.2.2.2.2 u9.2.1 c_reader_siteCount c_reader_stepCount c_reader_seenRules c_reader_at c_reader_wordStart c_reader_number c_reader_failed c_reader_rules c_reader_places c_now_askedCount c_now_outcome u9.2.2.1 c_history_next u9.2.2.2.1)) hF ⟨rfl, hP.sub [0, 7, 3, 4, 5, 1, 2, 6] rfl, hD.sub [0, 7, 3, 4, 5, 1, 2, 6] (by decide) rfl⟩
  obtain ⟨e9_0, hP9, hD9⟩ := h9
  exact W.iret (v := r_9) hx hb hr (fun tt ht hW => ⟨⟨_, (), rfl, e9_0, ht ▸ hP9, hD9⟩, hS.F ht⟩) hS.2.2 dX7_beginWatch_39

def F_X7_bound (K : Nat) (p1 : Int32) (c_now_row : Nat → Int32) (c_now_partners : Nat → Int32) (c_now_askedCount : Int32) (c_now_outcome : Int32) (c_now_share : Nat → Int32) (c_now_leftOver : Nat → Int32) (c_book_lines : Nat → Int32) (c_history_rows : Nat → Int32) (c_history_next : Int32) (c_history_held : Int32) (c_refused : Nat → Int32) : Option (Int32 × (Nat → Int32) × (Nat → Int32) × Int32 × Int32 × (Nat → Int32) × (Nat → Int32) × (Nat → Int32) × (Nat → Int32) × Int32 × Int32 × (Nat → Int32)) :=
  bd12 (F_X7_act K (2 : Int32) p1 (0 : Int32) (0 : Int32) (1 : Int32) c_now_row c_now_partners c_now_askedCount c_now_outcome c_now_share c_now_leftOver c_book_lines c_history_rows c_history_next c_history_held c_refused) (fun r_1 w_2 w_3 w_4 w_5 w_6 w_7 w_8 w_9 w_10 w_11 w_12 => if (0 : Int32) ≤ r_1 then some (c_now_row 1, w_2, w_3, w_4, w_5, w_6, w_7, w_8, w_9, w_10, w_11, w_12) else some ((-100000000 : Int32), w_2, w_3, w_4, w_5, w_6, w_7, w_8, w_9, w_10, w_11, w_12))
abbrev w_X7_bound (E : EE) (a_ a_tape a_reader a_scripts a_now a_trial a_kept a_book a_keptBook a_history a_draws a_refused a_now_row a_now_partners a_now_share a_now_leftOver a_book_lines a_history_rows : Nat) (c_hasImage : Int32) (c_now_askedCount : Int32) (c_now_outcome : Int32) (c_now_row : Nat → Int32) (c_now_partners : Nat → Int32) (c_now_share : Nat → Int32) (c_now_leftOver : Nat → Int32) (c_book_lines : Nat → Int32) (c_history_next : Int32) (c_history_held : Int32) (c_history_rows : Nat → Int32) (c_refused : Nat → Int32) : va_W := [(a_, .inr (8, [.ref a_tape, .ref a_reader, .ref a_scripts, .ref a_now, .ref a_trial, .ref a_kept, .ref a_book, .ref a_keptBook, .ref a_history, .ref a_draws, .ref a_refused, .int c_hasImage])), (a_now, .inr (6, [.ref a_now_row, .ref a_now_partners, .int c_now_askedCount, .int c_now_outcome, .ref a_now_share, .ref a_now_leftOver])), (a_now_row, .inl (E.2.1, 81, .inl c_now_row)), (a_now_partners, .inl (E.2.1, 8, .inl c_now_partners)), (a_now_share, .inl (E.2.1, 2, .inl c_now_share)), (a_now_leftOver, .inl (E.2.1, 2, .inl c_now_leftOver)), (a_book, .inr (1, [.ref a_book_lines])), (a_book_lines, .inl (E.2.1, 300, .inl c_book_lines)), (a_history, .inr (3, [.ref a_history_rows, .int c_history_next, .int c_history_held])), (a_history_rows, .inl (E.2.1, 3240, .inl c_history_rows)), (a_refused, .inl (E.2.1, 3, .inl c_refused))]
def v_f_X7_bound : List Cond := .code yX7_bound cX7_bound 3 (some .int) :: ([.fieldLink RX7 35 "HushWatch" "now" "LHushWatch$State;", .constant RX7 113 (-100000000), .methodLink RX7 163 yX7_act, .instanceMethod yX7_act, .selects RX7 yX7_act yX7_act, .initialized RX7] ++ (wsX70 ++ (wsX50 ++ (v_f_X7_act ++ ([])))))
theorem gw_f_X7_bound : v_f_X7_bound.all goodWord = true := by decide +kernel
theorem i_f_X7_bound_X7 : ∀ w ∈ wsX70, w ∈ v_f_X7_bound := fun _ h => List.mem_cons_of_mem _ (List.mem_append_right _ (List.mem_append_left _ h))
theorem i_f_X7_bound_X5 : ∀ w ∈ wsX50, w ∈ v_f_X7_bound := fun _ h => List.mem_cons_of_mem _ (List.mem_append_right _ (List.mem_append_right _ (List.mem_append_left _ h)))
theorem g_f_X7_bound_f_X7_act_163 : GoodIn v_f_X7_bound (wsV RX7 163 RX7 yX7_act v_f_X7_act) := goodIn_app (goodIn_of _ (by decide +kernel)) (goodIn_sub (fun _ h => List.mem_cons_of_mem _ (List.mem_append_right _ (List.mem_append_right _ (List.mem_append_right _ (List.mem_append_left _ h))))) gw_f_X7_act)
theorem hd_X7_bound : yX7_bound.cls = RX7 ∧ yX7_bound.cls ≠ "java/lang/invoke/MethodHandle" ∧ yX7_bound.cls ≠ "java/lang/invoke/VarHandle" ∧ (parseMethodDescriptor yX7_bound.desc).map (fun d => d.parameters.length) = some 1 := by decide +kernel
set_option maxHeartbeats 4000000 in
set_option maxRecDepth 100000 in
theorem f_X7_bound (l : Launch) (E : EE) (sz : Nat) (K : Nat) {a_ a_tape a_reader a_scripts a_now a_trial a_kept a_book a_keptBook a_history a_draws a_refused a_now_row a_now_partners a_now_share a_now_leftOver a_book_lines a_history_rows : Nat} {p1 : Int32} {c_hasImage : Int32} {c_now_askedCount : Int32} {c_now_outcome : Int32} {c_now_row : Nat → Int32} {c_now_partners : Nat → Int32} {c_now_share : Nat → Int32} {c_now_leftOver : Nat → Int32} {c_book_lines : Nat → Int32} {c_history_next : Int32} {c_history_held : Int32} {c_history_rows : Nat → Int32} {c_refused : Nat → Int32} {rr : Int32} {n_now_row : Nat → Int32} {n_now_partners : Nat → Int32} {n_now_askedCount : Int32} {n_now_outcome : Int32} {n_now_share : Nat → Int32} {n_now_leftOver : Nat → Int32} {n_book_lines : Nat → Int32} {n_history_rows : Nat → Int32} {n_history_next : Int32} {n_history_held : Int32} {n_refused : Nat → Int32} (hF : F_X7_bound K p1 c_now_row c_now_partners c_now_askedCount c_now_outcome c_now_share c_now_leftOver c_book_lines c_history_rows c_history_next c_history_held c_refused = some (rr, n_now_row, n_now_partners, n_now_askedCount, n_now_outcome, n_now_share, n_now_leftOver, n_book_lines, n_history_rows, n_history_next, n_history_held, n_refused)) : Met l yX7_bound v_f_X7_bound (({ frames := 6, cells := 0, slots := 0, locals := 151 } : Room)) (va_Pc [.ref a_, .int p1] (pW E sz (w_X7_bound E a_ a_tape a_reader a_scripts a_now a_trial a_kept a_book a_keptBook a_history a_draws a_refused a_now_row a_now_partners a_now_share a_now_leftOver a_book_lines a_history_rows c_hasImage c_now_askedCount c_now_outcome c_now_row c_now_partners c_now_share c_now_leftOver c_book_lines c_history_next c_history_held c_history_rows c_refused))) (va_Qi (fun (q : Int32) (_u : Unit) => q = rr) (fun (_u : Unit) tt => va_P E.1 vwCl (w_X7_bound E a_ a_tape a_reader a_scripts a_now a_trial a_kept a_book a_keptBook a_history a_draws a_refused a_now_row a_now_partners a_now_share a_now_leftOver a_book_lines a_history_rows c_hasImage n_now_askedCount n_now_outcome n_now_row n_now_partners n_now_share n_now_leftOver n_book_lines n_history_next n_history_held n_history_rows n_refused) tt.heap ∧ va_D (va_A (w_X7_bound E a_ a_tape a_reader a_scripts a_now a_trial a_kept a_book a_keptBook a_history a_draws a_refused a_now_row a_now_partners a_now_share a_now_leftOver a_book_lines a_history_rows c_hasImage c_now_askedCount c_now_outcome c_now_row c_now_partners c_now_share c_now_leftOver c_book_lines c_history_next c_history_held c_history_rows c_refused) sz) (w_X7_bound E a_ a_tape a_reader a_scripts a_now a_trial a_kept a_book a_keptBook a_history a_draws a_refused a_now_row a_now_partners a_now_share a_now_leftOver a_book_lines a_history_rows c_hasImage n_now_askedCount n_now_outcome n_now_row n_now_partners n_now_share n_now_leftOver n_book_lines n_history_next n_history_held n_history_rows n_refused)) (va_A (w_X7_bound E a_ a_tape a_reader a_scripts a_now a_trial a_kept a_book a_keptBook a_history a_draws a_refused a_now_row a_now_partners a_now_share a_now_leftOver a_book_lines a_history_rows c_hasImage c_now_askedCount c_now_outcome c_now_row c_now_partners c_now_share c_now_leftOver c_book_lines c_history_next c_history_held c_history_rows c_refused) sz)) 0 0 (va_A (w_X7_bound E a_ a_tape a_reader a_scripts a_now a_trial a_kept a_book a_keptBook a_history a_draws a_refused a_now_row a_now_partners a_now_share a_now_leftOver a_book_lines a_history_rows c_hasImage c_now_askedCount c_now_outcome c_now_row c_now_partners c_now_share c_now_leftOver c_book_lines c_history_next c_history_held c_history_rows c_refused) sz) := by
  refine Met.ofW (cc := cX7_bound) (maxL := 3) (ret := (some .int)) (by decide) rfl ?_
  intro p e s m args below meth c s₁ B hml hv
  obtain ⟨rfl, hsz, ⟨hK, hN⟩, hP, hD0⟩ := hv
  have hx := B.exec
  have hb := B.bytes
  have hr := B.returns
  have hts := atoms_spec (ws := v_f_X7_bound) B.pre
  have hown : s.vm.findClass RX7 = some m.cls := own_of hd_X7_bound.1 (findClass_of_methodNamed B.named)
  have hlocks : meth.locks = false := B.notSynchronized
  subst hsz
  have hD := hD0.self (sz := s.heap.size)
  generalize hAe : va_A (w_X7_bound E a_ a_tape a_reader a_scripts a_now a_trial a_kept a_book a_keptBook a_history a_draws a_refused a_now_row a_now_partners a_now_share a_now_leftOver a_book_lines a_history_rows c_hasImage c_now_askedCount c_now_outcome c_now_row c_now_partners c_now_share c_now_leftOver c_book_lines c_history_next c_history_held c_history_rows c_refused) s.heap.size = A at hD ⊢
  have hA : ∀ q : Nat, s.heap.size ≤ q → A q := fun q h => by rw [← hAe]; exact Or.inr h
  have hS : va_S A s.heap s.heap [] := va_S.rf
  have hl := lv_entry ([.ref a_, .int p1]) (n := 3) (Nat.le_of_ble_eq_true rfl)
  rw [lg_entry_eq]
  generalize (lg_sl ([.ref a_, .int p1]) ++ List.replicate (3 - (lg_sl ([.ref a_, .int p1])).length) Slot.unset).toArray = ls at hl ⊢
  have hl : lv_has ls 3 [(0, .ref a_), (1, .int p1)] := hl
  obtain ⟨Q, hQ⟩ : ∃ Q : State → Prop, Q = MQ below (va_Qi (fun (q : Int32) (_u : Unit) => q = rr) (fun (_u : Unit) tt => va_P E.1 vwCl (w_X7_bound E a_ a_tape a_reader a_scripts a_now a_trial a_kept a_book a_keptBook a_history a_draws a_refused a_now_row a_now_partners a_now_share a_now_leftOver a_book_lines a_history_rows c_hasImage n_now_askedCount n_now_outcome n_now_row n_now_partners n_now_share n_now_leftOver n_book_lines n_history_next n_history_held n_history_rows n_refused) tt.heap ∧ va_D A (w_X7_bound E a_ a_tape a_reader a_scripts a_now a_trial a_kept a_book a_keptBook a_history a_draws a_refused a_now_row a_now_partners a_now_share a_now_leftOver a_book_lines a_history_rows c_hasImage n_now_askedCount n_now_outcome n_now_row n_now_partners n_now_share n_now_leftOver n_book_lines n_history_next n_history_held n_history_rows n_refused)) A) #[Value.ref a_, Value.int p1] s 0 0 A := ⟨_, rfl⟩
  rw [← hQ]
  change W p l e ({ frames := 6, cells := 0, slots := 0, locals := 151 } : Room) s m #[Value.ref a_, Value.int p1] below meth c s.heap [] 0 0 Q (F0 m 0 ls [])
  suffices hh9 : ∀ (H : Heap) (locs : List Loc), va_P E.1 vwCl (w_X7_bound E a_ a_tape a_reader a_scripts a_now a_trial a_kept a_book a_keptBook a_history a_draws a_refused a_now_row a_now_partners a_now_share a_now_leftOver a_book_lines a_history_rows c_hasImage c_now_askedCount c_now_outcome c_now_row c_now_partners c_now_share c_now_leftOver c_book_lines c_history_next c_history_held c_history_rows c_refused) H → va_D A (w_X7_bound E a_ a_tape a_reader a_scripts a_now a_trial a_kept a_book a_keptBook a_history a_draws a_refused a_now_row a_now_partners a_now_share a_now_leftOver a_book_lines a_history_rows c_hasImage c_now_askedCount c_now_outcome c_now_row c_now_partners c_now_share c_now_leftOver c_book_lines c_history_next c_history_held c_history_rows c_refused) → va_S A s.heap H locs → W p l e ({ frames := 6, cells := 0, slots := 0, locals := 151 } : Room) s m #[Value.ref a_, Value.int p1] below meth c H locs 0 0 Q (F0 m 0 ls []) from hh9 s.heap [] hP hD hS
  clear hP hD hS
  intro H locs hP hD hS
  replace hP : va_P E.1 vwCl [(a_, .inr (8, [.ref a_tape, .ref a_reader, .ref a_scripts, .ref a_now, .ref a_trial, .ref a_kept, .ref a_book, .ref a_keptBook, .ref a_history, .ref a_draws, .ref a_refused, .int c_hasImage])), (a_now, .inr (6, [.ref a_now_row, .ref a_now_partners, .int c_now_askedCount, .int c_now_outcome, .ref a_now_share, .ref a_now_leftOver])), (a_now_row, .inl (E.2.1, 81, .inl c_now_row)), (a_now_partners, .inl (E.2.1, 8, .inl c_now_partners)), (a_now_share, .inl (E.2.1, 2, .inl c_now_share)), (a_now_leftOver, .inl (E.2.1, 2, .inl c_now_leftOver)), (a_book, .inr (1, [.ref a_book_lines])), (a_book_lines, .inl (E.2.1, 300, .inl c_book_lines)), (a_history, .inr (3, [.ref a_history_rows, .int c_history_next, .int c_history_held])), (a_history_rows, .inl (E.2.1, 3240, .inl c_history_rows)), (a_refused, .inl (E.2.1, 3, .inl c_refused))] H := hP
  replace hD : va_D A [(a_, .inr (8, [.ref a_tape, .ref a_reader, .ref a_scripts, .ref a_now, .ref a_trial, .ref a_kept, .ref a_book, .ref a_keptBook, .ref a_history, .ref a_draws, .ref a_refused, .int c_hasImage])), (a_now, .inr (6, [.ref a_now_row, .ref a_now_partners, .int c_now_askedCount, .int c_now_outcome, .ref a_now_share, .ref a_now_leftOver])), (a_now_row, .inl (E.2.1, 81, .inl c_now_row)), (a_now_partners, .inl (E.2.1, 8, .inl c_now_partners)), (a_now_share, .inl (E.2.1, 2, .inl c_now_share)), (a_now_leftOver, .inl (E.2.1, 2, .inl c_now_leftOver)), (a_book, .inr (1, [.ref a_book_lines])), (a_book_lines, .inl (E.2.1, 300, .inl c_book_lines)), (a_history, .inr (3, [.ref a_history_rows, .int c_history_next, .int c_history_held])), (a_history_rows, .inl (E.2.1, 3240, .inl c_history_rows)), (a_refused, .inl (E.2.1, 3, .inl c_refused))] := hD
  unfold F_X7_bound at hF
  refine lv_aload_n hx hb dX7_bound_0 rfl (lv_at hl 0 rfl) ?_
  refine gt_X7_3 (v := .ref a_now) hx hb hts i_f_X7_bound_X7 hown hK hP 0 rfl (hts (.fieldLink RX7 35 "HushWatch" "now" "LHushWatch$State;") (List.mem_of_getElem? (i := 1) rfl)) rfl dX7_bound_1 ?_
  refine va_getN (D := E.1) (ci := 6) (v := .ref a_now_row) (C := RX5) (T := TX5) (N := 6) hx hb hts i_f_X7_bound_X5 hown hK hP 1 rfl rfl 0 (by decide) (nx hN 12 rfl) (fun _ h9 => h9) rfl dX7_bound_4 ?_
  refine lv_iconst (v := 1) hx hb dX7_bound_7 (by decide) ?_
  refine va_iald hx hb hK hP 2 0 rfl rfl (vin rfl) dX7_bound_8 ?_
  refine W.eq (g2 := F0 m 9 ls [.int (c_now_row 1)]) rfl ?_
  refine lv_istore_n (lv' := [(2, .int (c_now_row 1)), (0, .ref a_), (1, .int p1)]) hx hb dX7_bound_9 rfl hl (by decide) rfl (fun ls hl => ?_)
  refine lv_aload_n hx hb dX7_bound_10 rfl (lv_at hl 1 rfl) ?_
  refine lv_iconst (v := 2) hx hb dX7_bound_11 (by decide) ?_
  refine lv_iload_n hx hb dX7_bound_12 rfl (lv_at hl 2 rfl) ?_
  refine lv_iconst (v := 0) hx hb dX7_bound_13 (by decide) ?_
  refine lv_iconst (v := 0) hx hb dX7_bound_14 (by decide) ?_
  refine lv_iconst (v := 1) hx hb dX7_bound_15 (by decide) ?_
  replace hF := bd12_s hF
  obtain ⟨r_1, w_2, w_3, w_4, w_5, w_6, w_7, w_8, w_9, w_10, w_11, w_12, hc_13, hF⟩ := hF
  obtain ⟨hPc, hDc, hFc⟩ := wcut (wc := (w_X7_act E a_ a_tape a_reader a_scripts a_now a_trial a_kept a_book a_keptBook a_history a_draws a_refused a_now_row a_now_partners a_now_share a_now_leftOver a_book_lines a_history_rows c_hasImage c_now_askedCount c_now_outcome c_now_row c_now_partners c_now_share c_now_leftOver c_book_lines c_history_next c_history_held c_history_rows c_refused)) hP hD hS hA [0, 1, 2, 3, 4, 5, 6, 7, 8, 9, 10] (by decide) rfl
  have hrc := va_recv hK hPc (ci := 8) (q0 := 0) rfl rfl
  refine cE_i (wc := (w_X7_act E a_ a_tape a_reader a_scripts a_now a_trial a_kept a_book a_keptBook a_history a_draws a_refused a_now_row a_now_partners a_now_share a_now_leftOver a_book_lines a_history_rows c_hasImage c_now_askedCount c_now_outcome c_now_row c_now_partners c_now_share c_now_leftOver c_book_lines c_history_next c_history_held c_history_rows c_refused)) (wr := []) (w1 := (w_X7_act E a_ a_tape a_reader a_scripts a_now a_trial a_kept a_book a_keptBook a_history a_draws a_refused a_now_row a_now_partners a_now_share a_now_leftOver a_book_lines a_history_rows c_hasImage w_4 w_5 w_2 w_3 w_6 w_7 w_8 w_10 w_11 w_9 w_12)) (va_runV (As := [.int (2 : Int32), .int p1, .int (0 : Int32), .int (0 : Int32), .int (1 : Int32)]) (rest := [])  ⟨hx, hb, hml, hown, hts⟩ (f_X7_act l E H.size K (a_ := a_) (a_tape := a_tape) (a_reader := a_reader) (a_scripts := a_scripts) (a_now := a_now) (a_trial := a_trial) (a_kept := a_kept) (a_book := a_book) (a_keptBook := a_keptBook) (a_history := a_history) (a_draws := a_draws) (a_refused := a_refused) (a_now_row := a_now_row) (a_now_partners := a_now_partners) (a_now_share := a_now_share) (a_now_leftOver := a_now_leftOver) (a_book_lines := a_book_lines) (a_history_rows := a_history_rows) (p1 := (2 : Int32)) (p2 := p1) (p3 := (0 : Int32)) (p4 := (0 : Int32)) (p5 := (1 : Int32)) (c_hasImage := c_hasImage) (c_now_askedCount := c_now_askedCount) (c_now_outcome := c_now_outcome) (c_now_row := c_now_row) (c_now_partners := c_now_partners) (c_now_share := c_now_share) (c_now_leftOver := c_now_leftOver) (c_book_lines := c_book_lines) (c_history_next := c_history_next) (c_history_held := c_history_held) (c_history_rows := c_history_rows) (c_refused := c_refused) hc_13) (cwV 5 hts g_f_X7_bound_f_X7_act_163 rfl rfl rfl hd_X7_act ⟨Nat.le_of_ble_eq_true rfl, Nat.le_of_ble_eq_true rfl⟩) ⟨pW.blind, hrc, (pW.pre ⟨hK, hN⟩ hPc hDc)⟩ rfl rfl hl.1 rfl (lv_room (Nat.le_of_ble_eq_true rfl)) dX7_bound_16 ⟨Nat.le_of_ble_eq_true rfl, Nat.le_of_ble_eq_true rfl⟩) hS hFc hP hD [0, 1, 2, 3, 4, 5, 6, 7, 8, 9, 10] [] rfl rfl (by decide) (by decide) (fun H locs hP hD hS => ?_)
  replace hP : va_P E.1 vwCl [(a_, .inr (8, [.ref a_tape, .ref a_reader, .ref a_scripts, .ref a_now, .ref a_trial, .ref a_kept, .ref a_book, .ref a_keptBook, .ref a_history, .ref a_draws, .ref a_refused, .int c_hasImage])), (a_now, .inr (6, [.ref a_now_row, .ref a_now_partners, .int w_4, .int w_5, .ref a_now_share, .ref a_now_leftOver])), (a_now_row, .inl (E.2.1, 81, .inl w_2)), (a_now_partners, .inl (E.2.1, 8, .inl w_3)), (a_now_share, .inl (E.2.1, 2, .inl w_6)), (a_now_leftOver, .inl (E.2.1, 2, .inl w_7)), (a_book, .inr (1, [.ref a_book_lines])), (a_book_lines, .inl (E.2.1, 300, .inl w_8)), (a_history, .inr (3, [.ref a_history_rows, .int w_10, .int w_11])), (a_history_rows, .inl (E.2.1, 3240, .inl w_9)), (a_refused, .inl (E.2.1, 3, .inl w_12))] H := hP
  replace hD : va_D A [(a_, .inr (8, [.ref a_tape, .ref a_reader, .ref a_scripts, .ref a_now, .ref a_trial, .ref a_kept, .ref a_book, .ref a_keptBook, .ref a_history, .ref a_draws, .ref a_refused, .int c_hasImage])), (a_now, .inr (6, [.ref a_now_row, .ref a_now_partners, .int w_4, .int w_5, .ref a_now_share, .ref a_now_leftOver])), (a_now_row, .inl (E.2.1, 81, .inl w_2)), (a_now_partners, .inl (E.2.1, 8, .inl w_3)), (a_now_share, .inl (E.2.1, 2, .inl w_6)), (a_now_leftOver, .inl (E.2.1, 2, .inl w_7)), (a_book, .inr (1, [.ref a_book_lines])), (a_book_lines, .inl (E.2.1, 300, .inl w_8)), (a_history, .inr (3, [.ref a_history_rows, .int w_10, .int w_11])), (a_history_rows, .inl (E.2.1, 3240, .inl w_9)), (a_refused, .inl (E.2.1, 3, .inl w_12))] := hD
  refine lv_if_ge (tgt := 27) hx hb dX7_bound_19 (by decide) (fun c_14 => ?_) (fun c_14 => ?_)
  ·
    replace hF := ip c_14 hF
    refine lv_iload_n hx hb dX7_bound_27 rfl (lv_at hl 0 rfl) ?_
    rw [hQ]
    have h9 := fin9 (P := fun u9 : Int32 × (Nat → Int32) × (Nat → Int32) × Int32 × Int32 × (Nat → Int32) × (Nat → Int32) × (Nat → Int32) × (Nat → Int32) × Int32 × Int32 × (Nat → Int32) => (c_now_row 1) = u9.1 ∧ va_P E.1 vwCl (w_X7_bound E a_ a_tape a_reader a_scripts a_now a_trial a_kept a_book a_keptBook a_history a_draws a_refused a_now_row a_now_partners a_now_share a_now_leftOver a_book_lines a_history_rows c_hasImage u9.2.2.2.1 u9.2.2.2.2.1 u9.2.1 u9.2.2.1 u9.2.2.2.2.2.1 u9.2.2.2.2.2.2.1 u9.2.2.2.2.2.2.2.1 u9.2.2.2.2.2.2.2.2.2.1 u9.2.2.2.2.2.2.2.2.2.2.1 u9.2.2.2.2.2.2.2.2.1 u9.2.2.2.2.2.2.2.2.2.2.2) H ∧ va_D A (w_X7_bound E a_ a_tape a_reader a_scripts a_now a_trial a_kept a_book a_keptBook a_history a_draws a_refused a_now_row a_now_partners a_now_share a_now_leftOver a_book_lines a_history_rows c_hasImage u9.2.2.2.1 u9.2.2.2.2.1 u9.2.1 u9.2.2.1 u9.2.2.2.2.2.1 u9.2.2.2.2.2.2.1 u9.2.2.2.2.2.2.2.1 u9.2.2.2.2.2.2.2.2.2.1 u9.2.2.2.2.2.2.2.2.2.2.1 u9.2.2.2.2.2.2.2.2.1 u9.2.2.2.2.2.2.2.2.2.2.2)) hF ⟨rfl, hP, hD⟩
    obtain ⟨e9_0, hP9, hD9⟩ := h9
    exact W.iret (v := c_now_row 1) hx hb hr (fun tt ht hW => ⟨⟨_, (), rfl, e9_0, ht ▸ hP9, hD9⟩, hS.F ht⟩) hS.2.2 dX7_bound_28
  ·
    replace hF := inn c_14 hF
    refine lv_ldc (v := -100000000) hx hb hown (hts (.constant RX7 113 (-100000000)) (List.mem_of_getElem? (i := 2) rfl)) dX7_bound_22 ?_
    refine lv_goto (tgt := 28) hx hb dX7_bound_24 (by decide) ?_
    rw [hQ]
    have h9 := fin9 (P := fun u9 : Int32 × (Nat → Int32) × (Nat → Int32) × Int32 × Int32 × (Nat → Int32) × (Nat → Int32) × (Nat → Int32) × (Nat → Int32) × Int32 × Int32 × (Nat → Int32) => (-100000000 : Int32) = u9.1 ∧ va_P E.1 vwCl (w_X7_bound E a_ a_tape a_reader a_scripts a_now a_trial a_kept a_book a_keptBook a_history a_draws a_refused a_now_row a_now_partners a_now_share a_now_leftOver a_book_lines a_history_rows c_hasImage u9.2.2.2.1 u9.2.2.2.2.1 u9.2.1 u9.2.2.1 u9.2.2.2.2.2.1 u9.2.2.2.2.2.2.1 u9.2.2.2.2.2.2.2.1 u9.2.2.2.2.2.2.2.2.2.1 u9.2.2.2.2.2.2.2.2.2.2.1 u9.2.2.2.2.2.2.2.2.1 u9.2.2.2.2.2.2.2.2.2.2.2) H ∧ va_D A (w_X7_bound E a_ a_tape a_reader a_scripts a_now a_trial a_kept a_book a_keptBook a_history a_draws a_refused a_now_row a_now_partners a_now_share a_now_leftOver a_book_lines a_history_rows c_hasImage u9.2.2.2.1 u9.2.2.2.2.1 u9.2.1 u9.2.2.1 u9.2.2.2.2.2.1 u9.2.2.2.2.2.2.1 u9.2.2.2.2.2.2.2.1 u9.2.2.2.2.2.2.2.2.2.1 u9.2.2.2.2.2.2.2.2.2.2.1 u9.2.2.2.2.2.2.2.2.1 u9.2.2.2.2.2.2.2.2.2.2.2)) hF ⟨rfl, hP, hD⟩
    obtain ⟨e9_0, hP9, hD9⟩ := h9
    exact W.iret (v := (-100000000 : Int32)) hx hb hr (fun tt ht hW => ⟨⟨_, (), rfl, e9_0, ht ▸ hP9, hD9⟩, hS.F ht⟩) hS.2.2 dX7_bound_28

def F_X7_canBeAsked (p1 : Int32) (p2 : Int32) (c_now_row : Nat → Int32) : Option (Int32) :=
  bd1 (F_X5_stands c_now_row) (fun r_1 => if r_1 = (0 : Int32) then some (0 : Int32) else if p1 < (-1000000 : Int32) then some (0 : Int32) else if (1000000 : Int32) < p1 then some (0 : Int32) else if p2 < (-1000000 : Int32) then some (0 : Int32) else if (1000000 : Int32) < p2 then some (0 : Int32) else some (1 : Int32))
abbrev w_X7_canBeAsked (E : EE) (a_ a_tape a_reader a_scripts a_now a_trial a_kept a_book a_keptBook a_history a_draws a_refused a_now_row a_now_partners a_now_share a_now_leftOver : Nat) (c_hasImage : Int32) (c_now_askedCount : Int32) (c_now_outcome : Int32) (c_now_row : Nat → Int32) : va_W := [(a_, .inr (8, [.ref a_tape, .ref a_reader, .ref a_scripts, .ref a_now, .ref a_trial, .ref a_kept, .ref a_book, .ref a_keptBook, .ref a_history, .ref a_draws, .ref a_refused, .int c_hasImage])), (a_now, .inr (6, [.ref a_now_row, .ref a_now_partners, .int c_now_askedCount, .int c_now_outcome, .ref a_now_share, .ref a_now_leftOver])), (a_now_row, .inl (E.2.1, 81, .inl c_now_row))]
def v_f_X7_canBeAsked : List Cond := .code yX7_canBeAsked cX7_canBeAsked 3 (some .boolean) :: ([.fieldLink RX7 35 "HushWatch" "now" "LHushWatch$State;", .constant RX7 325 (-1000000), .constant RX7 326 (1000000), .methodLink RX7 110 yX5_stands, .instanceMethod yX5_stands, .selects RX5 yX5_stands yX5_stands, .initialized RX5] ++ (wsX70 ++ (v_f_X5_stands ++ ([]))))
theorem gw_f_X7_canBeAsked : v_f_X7_canBeAsked.all goodWord = true := by decide +kernel
theorem i_f_X7_canBeAsked_X7 : ∀ w ∈ wsX70, w ∈ v_f_X7_canBeAsked := fun _ h => List.mem_cons_of_mem _ (List.mem_append_right _ (List.mem_append_left _ h))
theorem g_f_X7_canBeAsked_f_X5_stands_110 : GoodIn v_f_X7_canBeAsked (wsV RX7 110 RX5 yX5_stands v_f_X5_stands) := goodIn_app (goodIn_of _ (by decide +kernel)) (goodIn_sub (fun _ h => List.mem_cons_of_mem _ (List.mem_append_right _ (List.mem_append_right _ (List.mem_append_left _ h)))) gw_f_X5_stands)
theorem hd_X7_canBeAsked : yX7_canBeAsked.cls = RX7 ∧ yX7_canBeAsked.cls ≠ "java/lang/invoke/MethodHandle" ∧ yX7_canBeAsked.cls ≠ "java/lang/invoke/VarHandle" ∧ (parseMethodDescriptor yX7_canBeAsked.desc).map (fun d => d.parameters.length) = some 2 := by decide +kernel
set_option maxHeartbeats 4000000 in
set_option maxRecDepth 100000 in
theorem f_X7_canBeAsked (l : Launch) (E : EE) {a_ a_tape a_reader a_scripts a_now a_trial a_kept a_book a_keptBook a_history a_draws a_refused a_now_row a_now_partners a_now_share a_now_leftOver : Nat} {p1 : Int32} {p2 : Int32} {c_hasImage : Int32} {c_now_askedCount : Int32} {c_now_outcome : Int32} {c_now_row : Nat → Int32} {rr : Int32} (hF : F_X7_canBeAsked p1 p2 c_now_row = some rr) : Met l yX7_canBeAsked v_f_X7_canBeAsked (({ frames := 1, cells := 0, slots := 0, locals := 20 } : Room)) (va_Pc [.ref a_, .int p1, .int p2] (pP E (w_X7_canBeAsked E a_ a_tape a_reader a_scripts a_now a_trial a_kept a_book a_keptBook a_history a_draws a_refused a_now_row a_now_partners a_now_share a_now_leftOver c_hasImage c_now_askedCount c_now_outcome c_now_row))) (vp_Si (fun q : Int32 => q = rr ∧ (q = 0 ∨ q = 1))) 0 0 (fun _ => False) := by
  refine Met.ofW (cc := cX7_canBeAsked) (maxL := 3) (ret := (some .boolean)) (by decide) rfl ?_
  intro p e s m args below meth c s₁ B hml hv
  obtain ⟨rfl, ⟨hK, hN⟩, hP⟩ := hv
  have hx := B.exec
  have hb := B.bytes
  have hr := B.returns
  have hts := atoms_spec (ws := v_f_X7_canBeAsked) B.pre
  have hown : s.vm.findClass RX7 = some m.cls := own_of hd_X7_canBeAsked.1 (findClass_of_methodNamed B.named)
  have hlocks : meth.locks = false := B.notSynchronized
  replace hP : va_P E.1 vwCl [(a_, .inr (8, [.ref a_tape, .ref a_reader, .ref a_scripts, .ref a_now, .ref a_trial, .ref a_kept, .ref a_book, .ref a_keptBook, .ref a_history, .ref a_draws, .ref a_refused, .int c_hasImage])), (a_now, .inr (6, [.ref a_now_row, .ref a_now_partners, .int c_now_askedCount, .int c_now_outcome, .ref a_now_share, .ref a_now_leftOver])), (a_now_row, .inl (E.2.1, 81, .inl c_now_row))] s.heap := hP
  have hl := lv_entry ([.ref a_, .int p1, .int p2]) (n := 3) (Nat.le_of_ble_eq_true rfl)
  rw [lg_entry_eq]
  generalize (lg_sl ([.ref a_, .int p1, .int p2]) ++ List.replicate (3 - (lg_sl ([.ref a_, .int p1, .int p2])).length) Slot.unset).toArray = ls at hl ⊢
  have hl : lv_has ls 3 [(0, .ref a_), (1, .int p1), (2, .int p2)] := hl
  obtain ⟨Q, hQ⟩ : ∃ Q : State → Prop, Q = MQ below (vp_Si (fun q : Int32 => q = rr ∧ (q = 0 ∨ q = 1))) #[Value.ref a_, Value.int p1, Value.int p2] s 0 0 (fun _ => False) := ⟨_, rfl⟩
  rw [← hQ]
  change W p l e ({ frames := 1, cells := 0, slots := 0, locals := 20 } : Room) s m #[Value.ref a_, Value.int p1, Value.int p2] below meth c s.heap [] 0 0 Q (F0 m 0 ls [])
  unfold F_X7_canBeAsked at hF
  refine lv_aload_n hx hb dX7_canBeAsked_0 rfl (lv_at hl 0 rfl) ?_
  refine gt_X7_3 (v := .ref a_now) hx hb hts i_f_X7_canBeAsked_X7 hown hK hP 0 rfl (hts (.fieldLink RX7 35 "HushWatch" "now" "LHushWatch$State;") (List.mem_of_getElem? (i := 1) rfl)) rfl dX7_canBeAsked_1 ?_
  replace hF := bd1_s hF
  obtain ⟨r_1, hc_2, hF⟩ := hF
  have hPc : va_P E.1 vwCl (w_X5_stands E a_now a_now_row a_now_partners a_now_share a_now_leftOver c_now_askedCount c_now_outcome c_now_row) s.heap := hP.sub (ws' := [(a_now, .inr (6, [.ref a_now_row, .ref a_now_partners, .int c_now_askedCount, .int c_now_outcome, .ref a_now_share, .ref a_now_leftOver])), (a_now_row, .inl (E.2.1, 81, .inl c_now_row))]) [1, 2] rfl
  have hrc := va_recv hK hPc (ci := 6) (q0 := 0) rfl rfl
  refine pE_z (va_runV (As := []) (rest := [])  ⟨hx, hb, hml, hown, hts⟩ (f_X5_stands l E (a_ := a_now) (a_row := a_now_row) (a_partners := a_now_partners) (a_share := a_now_share) (a_leftOver := a_now_leftOver) (c_askedCount := c_now_askedCount) (c_outcome := c_now_outcome) (c_row := c_now_row) hc_2) (cwV 0 hts g_f_X7_canBeAsked_f_X5_stands_110 rfl rfl rfl hd_X5_stands ⟨Nat.le_of_ble_eq_true rfl, Nat.le_of_ble_eq_true rfl⟩) ⟨pP.blind, hrc, (pP.pre ⟨hK, hN⟩ hPc)⟩ rfl rfl hl.1 rfl (lv_room (Nat.le_of_ble_eq_true rfl)) dX7_canBeAsked_4 ⟨Nat.le_of_ble_eq_true rfl, Nat.le_of_ble_eq_true rfl⟩) (fun hb_3 => ?_)
  refine lv_if_eq (tgt := 42) hx hb dX7_canBeAsked_7 (by decide) (fun c_4 => ?_) (fun c_4 => ?_)
  ·
    replace hF := ip c_4 hF
    refine lv_iconst (v := 0) hx hb dX7_canBeAsked_42 (by decide) ?_
    rw [hQ]
    obtain e9_0 := inj1 hF
    exact W.zret (v := (0 : Int32)) hx hb hr rfl (fun tt ht hW => ⟨_, rfl, ⟨e9_0, Or.inl rfl⟩, ht⟩) (fun _ h => by cases h) dX7_canBeAsked_43
  ·
    replace hF := inn c_4 hF
    refine lv_iload_n hx hb dX7_canBeAsked_10 rfl (lv_at hl 1 rfl) ?_
    refine lv_ldcw (v := -1000000) hx hb hown (hts (.constant RX7 325 (-1000000)) (List.mem_of_getElem? (i := 2) rfl)) dX7_canBeAsked_11 ?_
    refine lv_icmp_lt (tgt := 42) hx hb dX7_canBeAsked_14 (by decide) (fun c_5 => ?_) (fun c_5 => ?_)
    ·
      replace hF := ip c_5 hF
      refine lv_iconst (v := 0) hx hb dX7_canBeAsked_42 (by decide) ?_
      rw [hQ]
      obtain e9_0 := inj1 hF
      exact W.zret (v := (0 : Int32)) hx hb hr rfl (fun tt ht hW => ⟨_, rfl, ⟨e9_0, Or.inl rfl⟩, ht⟩) (fun _ h => by cases h) dX7_canBeAsked_43
    ·
      replace hF := inn c_5 hF
      refine lv_iload_n hx hb dX7_canBeAsked_17 rfl (lv_at hl 1 rfl) ?_
      refine lv_ldcw (v := 1000000) hx hb hown (hts (.constant RX7 326 (1000000)) (List.mem_of_getElem? (i := 3) rfl)) dX7_canBeAsked_18 ?_
      refine lv_icmp_gt (tgt := 42) hx hb dX7_canBeAsked_21 (by decide) (fun c_6 => ?_) (fun c_6 => ?_)
      ·
        replace hF := ip c_6 hF
        refine lv_iconst (v := 0) hx hb dX7_canBeAsked_42 (by decide) ?_
        rw [hQ]
        obtain e9_0 := inj1 hF
        exact W.zret (v := (0 : Int32)) hx hb hr rfl (fun tt ht hW => ⟨_, rfl, ⟨e9_0, Or.inl rfl⟩, ht⟩) (fun _ h => by cases h) dX7_canBeAsked_43
      ·
        replace hF := inn c_6 hF
        refine lv_iload_n hx hb dX7_canBeAsked_24 rfl (lv_at hl 2 rfl) ?_
        refine lv_ldcw (v := -1000000) hx hb hown (hts (.constant RX7 325 (-1000000)) (List.mem_of_getElem? (i := 2) rfl)) dX7_canBeAsked_25 ?_
        refine lv_icmp_lt (tgt := 42) hx hb dX7_canBeAsked_28 (by decide) (fun c_7 => ?_) (fun c_7 => ?_)
        ·
          replace hF := ip c_7 hF
          refine lv_iconst (v := 0) hx hb dX7_canBeAsked_42 (by decide) ?_
          rw [hQ]
          obtain e9_0 := inj1 hF
          exact W.zret (v := (0 : Int32)) hx hb hr rfl (fun tt ht hW => ⟨_, rfl, ⟨e9_0, Or.inl rfl⟩, ht⟩) (fun _ h => by cases h) dX7_canBeAsked_43
        ·
          replace hF := inn c_7 hF
          refine lv_iload_n hx hb dX7_canBeAsked_31 rfl (lv_at hl 2 rfl) ?_
          refine lv_ldcw (v := 1000000) hx hb hown (hts (.constant RX7 326 (1000000)) (List.mem_of_getElem? (i := 3) rfl)) dX7_canBeAsked_32 ?_
          refine lv_icmp_gt (tgt := 42) hx hb dX7_canBeAsked_35 (by decide) (fun c_8 => ?_) (fun c_8 => ?_)
          ·
            replace hF := ip c_8 hF
            refine lv_iconst (v := 0) hx hb dX7_canBeAsked_42 (by decide) ?_
            rw [hQ]
            obtain e9_0 := inj1 hF
            exact W.zret (v := (0 : Int32)) hx hb hr rfl (fun tt ht hW => ⟨_, rfl, ⟨e9_0, Or.inl rfl⟩, ht⟩) (fun _ h => by cases h) dX7_canBeAsked_43
          ·
            replace hF := inn c_8 hF
            refine lv_iconst (v := 1) hx hb dX7_canBeAsked_38 (by decide) ?_
            refine lv_goto (tgt := 43) hx hb dX7_canBeAsked_39 (by decide) ?_
            rw [hQ]
            obtain e9_0 := inj1 hF
            exact W.zret (v := (1 : Int32)) hx hb hr rfl (fun tt ht hW => ⟨_, rfl, ⟨e9_0, Or.inr rfl⟩, ht⟩) (fun _ h => by cases h) dX7_canBeAsked_43

def F_X7_count (K : Nat) (p1 : Int32) (c_now_row : Nat → Int32) : Option (Int32) :=
  bd1 (F_X5_stands c_now_row) (fun r_1 => if r_1 = (0 : Int32) then some (-1 : Int32) else if p1 = (0 : Int32) then some (c_now_row 8) else if p1 = (1 : Int32) then bd1 (F_X5_stepFrom (c_now_row 8) c_now_row) (fun r_6 => some r_6) else if p1 = (2 : Int32) then some (c_now_row 9) else if p1 = (3 : Int32) then some (c_now_row 10) else if p1 = (4 : Int32) then bd1 (F_X5_isReached c_now_row) (fun r_8 => if r_8 = (0 : Int32) then some (0 : Int32) else some (1 : Int32)) else if p1 = (5 : Int32) then bd1 (F_X5_total K (6 : Int32) c_now_row) (fun r_12 => some r_12) else some (-1 : Int32))
abbrev w_X7_count (E : EE) (a_ a_tape a_reader a_scripts a_now a_trial a_kept a_book a_keptBook a_history a_draws a_refused a_now_row a_now_partners a_now_share a_now_leftOver : Nat) (c_hasImage : Int32) (c_now_askedCount : Int32) (c_now_outcome : Int32) (c_now_row : Nat → Int32) : va_W := [(a_, .inr (8, [.ref a_tape, .ref a_reader, .ref a_scripts, .ref a_now, .ref a_trial, .ref a_kept, .ref a_book, .ref a_keptBook, .ref a_history, .ref a_draws, .ref a_refused, .int c_hasImage])), (a_now, .inr (6, [.ref a_now_row, .ref a_now_partners, .int c_now_askedCount, .int c_now_outcome, .ref a_now_share, .ref a_now_leftOver])), (a_now_row, .inl (E.2.1, 81, .inl c_now_row))]
def v_f_X7_count : List Cond := .code yX7_count cX7_count 2 (some .int) :: ([.fieldLink RX7 35 "HushWatch" "now" "LHushWatch$State;", .methodLink RX7 110 yX5_stands, .instanceMethod yX5_stands, .selects RX5 yX5_stands yX5_stands, .initialized RX5, .methodLink RX7 167 yX5_stepFrom, .instanceMethod yX5_stepFrom, .selects RX5 yX5_stepFrom yX5_stepFrom, .methodLink RX7 170 yX5_isReached, .instanceMethod yX5_isReached, .selects RX5 yX5_isReached yX5_isReached, .methodLink RX7 160 yX5_total, .instanceMethod yX5_total, .selects RX5 yX5_total yX5_total] ++ (wsX70 ++ (v_f_X5_stands ++ (wsX50 ++ (v_f_X5_stepFrom ++ (v_f_X5_isReached ++ (v_f_X5_total ++ ([]))))))))
theorem gw_f_X7_count : v_f_X7_count.all goodWord = true := by decide +kernel
theorem i_f_X7_count_X7 : ∀ w ∈ wsX70, w ∈ v_f_X7_count := fun _ h => List.mem_cons_of_mem _ (List.mem_append_right _ (List.mem_append_left _ h))
theorem i_f_X7_count_X5 : ∀ w ∈ wsX50, w ∈ v_f_X7_count := fun _ h => List.mem_cons_of_mem _ (List.mem_append_right _ (List.mem_append_right _ (List.mem_append_right _ (List.mem_append_left _ h))))
theorem g_f_X7_count_f_X5_stands_110 : GoodIn v_f_X7_count (wsV RX7 110 RX5 yX5_stands v_f_X5_stands) := goodIn_app (goodIn_of _ (by decide +kernel)) (goodIn_sub (fun _ h => List.mem_cons_of_mem _ (List.mem_append_right _ (List.mem_append_right _ (List.mem_append_left _ h)))) gw_f_X5_stands)
theorem g_f_X7_count_f_X5_stepFrom_167 : GoodIn v_f_X7_count (wsV RX7 167 RX5 yX5_stepFrom v_f_X5_stepFrom) := goodIn_app (goodIn_of _ (by decide +kernel)) (goodIn_sub (fun _ h => List.mem_cons_of_mem _ (List.mem_append_right _ (List.mem_append_right _ (List.mem_append_right _ (List.mem_append_right _ (List.mem_append_left _ h)))))) gw_f_X5_stepFrom)
theorem g_f_X7_count_f_X5_isReached_170 : GoodIn v_f_X7_count (wsV RX7 170 RX5 yX5_isReached v_f_X5_isReached) := goodIn_app (goodIn_of _ (by decide +kernel)) (goodIn_sub (fun _ h => List.mem_cons_of_mem _ (List.mem_append_right _ (List.mem_append_right _ (List.mem_append_right _ (List.mem_append_right _ (List.mem_append_right _ (List.mem_append_left _ h))))))) gw_f_X5_isReached)
theorem g_f_X7_count_f_X5_total_160 : GoodIn v_f_X7_count (wsV RX7 160 RX5 yX5_total v_f_X5_total) := goodIn_app (goodIn_of _ (by decide +kernel)) (goodIn_sub (fun _ h => List.mem_cons_of_mem _ (List.mem_append_right _ (List.mem_append_right _ (List.mem_append_right _ (List.mem_append_right _ (List.mem_append_right _ (List.mem_append_right _ (List.mem_append_left _ h)))))))) gw_f_X5_total)
theorem hd_X7_count : yX7_count.cls = RX7 ∧ yX7_count.cls ≠ "java/lang/invoke/MethodHandle" ∧ yX7_count.cls ≠ "java/lang/invoke/VarHandle" ∧ (parseMethodDescriptor yX7_count.desc).map (fun d => d.parameters.length) = some 1 := by decide +kernel
set_option maxHeartbeats 4000000 in
set_option maxRecDepth 100000 in
theorem f_X7_count (l : Launch) (E : EE) (K : Nat) {a_ a_tape a_reader a_scripts a_now a_trial a_kept a_book a_keptBook a_history a_draws a_refused a_now_row a_now_partners a_now_share a_now_leftOver : Nat} {p1 : Int32} {c_hasImage : Int32} {c_now_askedCount : Int32} {c_now_outcome : Int32} {c_now_row : Nat → Int32} {rr : Int32} (hF : F_X7_count K p1 c_now_row = some rr) : Met l yX7_count v_f_X7_count (({ frames := 2, cells := 0, slots := 0, locals := 45 } : Room)) (va_Pc [.ref a_, .int p1] (pP E (w_X7_count E a_ a_tape a_reader a_scripts a_now a_trial a_kept a_book a_keptBook a_history a_draws a_refused a_now_row a_now_partners a_now_share a_now_leftOver c_hasImage c_now_askedCount c_now_outcome c_now_row))) (vp_Si (fun q : Int32 => q = rr)) 0 0 (fun _ => False) := by
  refine Met.ofW (cc := cX7_count) (maxL := 2) (ret := (some .int)) (by decide) rfl ?_
  intro p e s m args below meth c s₁ B hml hv
  obtain ⟨rfl, ⟨hK, hN⟩, hP⟩ := hv
  have hx := B.exec
  have hb := B.bytes
  have hr := B.returns
  have hts := atoms_spec (ws := v_f_X7_count) B.pre
  have hown : s.vm.findClass RX7 = some m.cls := own_of hd_X7_count.1 (findClass_of_methodNamed B.named)
  have hlocks : meth.locks = false := B.notSynchronized
  replace hP : va_P E.1 vwCl [(a_, .inr (8, [.ref a_tape, .ref a_reader, .ref a_scripts, .ref a_now, .ref a_trial, .ref a_kept, .ref a_book, .ref a_keptBook, .ref a_history, .ref a_draws, .ref a_refused, .int c_hasImage])), (a_now, .inr (6, [.ref a_now_row, .ref a_now_partners, .int c_now_askedCount, .int c_now_outcome, .ref a_now_share, .ref a_now_leftOver])), (a_now_row, .inl (E.2.1, 81, .inl c_now_row))] s.heap := hP
  have hl := lv_entry ([.ref a_, .int p1]) (n := 2) (Nat.le_of_ble_eq_true rfl)
  rw [lg_entry_eq]
  generalize (lg_sl ([.ref a_, .int p1]) ++ List.replicate (2 - (lg_sl ([.ref a_, .int p1])).length) Slot.unset).toArray = ls at hl ⊢
  have hl : lv_has ls 2 [(0, .ref a_), (1, .int p1)] := hl
  obtain ⟨Q, hQ⟩ : ∃ Q : State → Prop, Q = MQ below (vp_Si (fun q : Int32 => q = rr)) #[Value.ref a_, Value.int p1] s 0 0 (fun _ => False) := ⟨_, rfl⟩
  rw [← hQ]
  change W p l e ({ frames := 2, cells := 0, slots := 0, locals := 45 } : Room) s m #[Value.ref a_, Value.int p1] below meth c s.heap [] 0 0 Q (F0 m 0 ls [])
  unfold F_X7_count at hF
  refine lv_aload_n hx hb dX7_count_0 rfl (lv_at hl 0 rfl) ?_
  refine gt_X7_3 (v := .ref a_now) hx hb hts i_f_X7_count_X7 hown hK hP 0 rfl (hts (.fieldLink RX7 35 "HushWatch" "now" "LHushWatch$State;") (List.mem_of_getElem? (i := 1) rfl)) rfl dX7_count_1 ?_
  replace hF := bd1_s hF
  obtain ⟨r_1, hc_2, hF⟩ := hF
  have hPc : va_P E.1 vwCl (w_X5_stands E a_now a_now_row a_now_partners a_now_share a_now_leftOver c_now_askedCount c_now_outcome c_now_row) s.heap := hP.sub (ws' := [(a_now, .inr (6, [.ref a_now_row, .ref a_now_partners, .int c_now_askedCount, .int c_now_outcome, .ref a_now_share, .ref a_now_leftOver])), (a_now_row, .inl (E.2.1, 81, .inl c_now_row))]) [1, 2] rfl
  have hrc := va_recv hK hPc (ci := 6) (q0 := 0) rfl rfl
  refine pE_z (va_runV (As := []) (rest := [])  ⟨hx, hb, hml, hown, hts⟩ (f_X5_stands l E (a_ := a_now) (a_row := a_now_row) (a_partners := a_now_partners) (a_share := a_now_share) (a_leftOver := a_now_leftOver) (c_askedCount := c_now_askedCount) (c_outcome := c_now_outcome) (c_row := c_now_row) hc_2) (cwV 0 hts g_f_X7_count_f_X5_stands_110 rfl rfl rfl hd_X5_stands ⟨Nat.le_of_ble_eq_true rfl, Nat.le_of_ble_eq_true rfl⟩) ⟨pP.blind, hrc, (pP.pre ⟨hK, hN⟩ hPc)⟩ rfl rfl hl.1 rfl (lv_room (Nat.le_of_ble_eq_true rfl)) dX7_count_4 ⟨Nat.le_of_ble_eq_true rfl, Nat.le_of_ble_eq_true rfl⟩) (fun hb_3 => ?_)
  refine lv_if_ne (tgt := 12) hx hb dX7_count_7 (by decide) (fun c_4 => ?_) (fun c_4 => ?_)
  ·
    replace hF := inn c_4 hF
    refine lv_iload_n hx hb dX7_count_12 rfl (lv_at hl 1 rfl) ?_
    rcases Classical.em (p1 = (0 : Int32)) with c_5_0 | c_5_0
    ·
      replace hF := ip c_5_0 hF
      refine lv_tableIn (off := 39) (tgt := 52) hx hb dX7_count_13 (by rw [c_5_0]; decide) (by rw [c_5_0]; decide) (by rw [c_5_0]; decide) (by decide) ?_
      refine lv_aload_n hx hb dX7_count_52 rfl (lv_at hl 0 rfl) ?_
      refine gt_X7_3 (v := .ref a_now) hx hb hts i_f_X7_count_X7 hown hK hP 0 rfl (hts (.fieldLink RX7 35 "HushWatch" "now" "LHushWatch$State;") (List.mem_of_getElem? (i := 1) rfl)) rfl dX7_count_53 ?_
      refine va_getN (D := E.1) (ci := 6) (v := .ref a_now_row) (C := RX5) (T := TX5) (N := 6) hx hb hts i_f_X7_count_X5 hown hK hP 1 rfl rfl 0 (by decide) (nx hN 12 rfl) (fun _ h9 => h9) rfl dX7_count_56 ?_
      refine lv_bipush (v := 8) hx hb dX7_count_59 (by decide) ?_
      refine va_iald hx hb hK hP 2 0 rfl rfl (vin rfl) dX7_count_61 ?_
      refine W.eq (g2 := F0 m 62 ls [.int (c_now_row 8)]) rfl ?_
      rw [hQ]
      obtain e9_0 := inj1 hF
      exact W.iret (v := c_now_row 8) hx hb hr (fun tt ht hW => ⟨_, rfl, e9_0, ht⟩) (fun _ h => by cases h) dX7_count_62
    replace hF := inn c_5_0 hF
    rcases Classical.em (p1 = (1 : Int32)) with c_5_1 | c_5_1
    ·
      replace hF := ip c_5_1 hF
      refine lv_tableIn (off := 50) (tgt := 63) hx hb dX7_count_13 (by rw [c_5_1]; decide) (by rw [c_5_1]; decide) (by rw [c_5_1]; decide) (by decide) ?_
      refine lv_aload_n hx hb dX7_count_63 rfl (lv_at hl 0 rfl) ?_
      refine gt_X7_3 (v := .ref a_now) hx hb hts i_f_X7_count_X7 hown hK hP 0 rfl (hts (.fieldLink RX7 35 "HushWatch" "now" "LHushWatch$State;") (List.mem_of_getElem? (i := 1) rfl)) rfl dX7_count_64 ?_
      refine lv_aload_n hx hb dX7_count_67 rfl (lv_at hl 0 rfl) ?_
      refine gt_X7_3 (v := .ref a_now) hx hb hts i_f_X7_count_X7 hown hK hP 0 rfl (hts (.fieldLink RX7 35 "HushWatch" "now" "LHushWatch$State;") (List.mem_of_getElem? (i := 1) rfl)) rfl dX7_count_68 ?_
      refine va_getN (D := E.1) (ci := 6) (v := .ref a_now_row) (C := RX5) (T := TX5) (N := 6) hx hb hts i_f_X7_count_X5 hown hK hP 1 rfl rfl 0 (by decide) (nx hN 12 rfl) (fun _ h9 => h9) rfl dX7_count_71 ?_
      refine lv_bipush (v := 8) hx hb dX7_count_74 (by decide) ?_
      refine va_iald hx hb hK hP 2 0 rfl rfl (vin rfl) dX7_count_76 ?_
      refine W.eq (g2 := F0 m 77 ls [.int (c_now_row 8), .ref a_now]) rfl ?_
      replace hF := bd1_s hF
      obtain ⟨r_6, hc_7, hF⟩ := hF
      have hPc : va_P E.1 vwCl (w_X5_stepFrom E a_now a_now_row a_now_partners a_now_share a_now_leftOver c_now_askedCount c_now_outcome c_now_row) s.heap := hP.sub (ws' := [(a_now, .inr (6, [.ref a_now_row, .ref a_now_partners, .int c_now_askedCount, .int c_now_outcome, .ref a_now_share, .ref a_now_leftOver])), (a_now_row, .inl (E.2.1, 81, .inl c_now_row))]) [1, 2] rfl
      have hrc := va_recv hK hPc (ci := 6) (q0 := 0) rfl rfl
      refine pE_i (va_runV (As := [.int (c_now_row 8)]) (rest := [])  ⟨hx, hb, hml, hown, hts⟩ (f_X5_stepFrom l E (a_ := a_now) (a_row := a_now_row) (a_partners := a_now_partners) (a_share := a_now_share) (a_leftOver := a_now_leftOver) (p1 := c_now_row 8) (c_askedCount := c_now_askedCount) (c_outcome := c_now_outcome) (c_row := c_now_row) hc_7) (cwV 1 hts g_f_X7_count_f_X5_stepFrom_167 rfl rfl rfl hd_X5_stepFrom ⟨Nat.le_of_ble_eq_true rfl, Nat.le_of_ble_eq_true rfl⟩) ⟨pP.blind, hrc, (pP.pre ⟨hK, hN⟩ hPc)⟩ rfl rfl hl.1 rfl (lv_room (Nat.le_of_ble_eq_true rfl)) dX7_count_77 ⟨Nat.le_of_ble_eq_true rfl, Nat.le_of_ble_eq_true rfl⟩) ?_
      rw [hQ]
      obtain e9_0 := inj1 hF
      exact W.iret (v := r_6) hx hb hr (fun tt ht hW => ⟨_, rfl, e9_0, ht⟩) (fun _ h => by cases h) dX7_count_80
    replace hF := inn c_5_1 hF
    rcases Classical.em (p1 = (2 : Int32)) with c_5_2 | c_5_2
    ·
      replace hF := ip c_5_2 hF
      refine lv_tableIn (off := 68) (tgt := 81) hx hb dX7_count_13 (by rw [c_5_2]; decide) (by rw [c_5_2]; decide) (by rw [c_5_2]; decide) (by decide) ?_
      refine lv_aload_n hx hb dX7_count_81 rfl (lv_at hl 0 rfl) ?_
      refine gt_X7_3 (v := .ref a_now) hx hb hts i_f_X7_count_X7 hown hK hP 0 rfl (hts (.fieldLink RX7 35 "HushWatch" "now" "LHushWatch$State;") (List.mem_of_getElem? (i := 1) rfl)) rfl dX7_count_82 ?_
      refine va_getN (D := E.1) (ci := 6) (v := .ref a_now_row) (C := RX5) (T := TX5) (N := 6) hx hb hts i_f_X7_count_X5 hown hK hP 1 rfl rfl 0 (by decide) (nx hN 12 rfl) (fun _ h9 => h9) rfl dX7_count_85 ?_
      refine lv_bipush (v := 9) hx hb dX7_count_88 (by decide) ?_
      refine va_iald hx hb hK hP 2 0 rfl rfl (vin rfl) dX7_count_90 ?_
      refine W.eq (g2 := F0 m 91 ls [.int (c_now_row 9)]) rfl ?_
      rw [hQ]
      obtain e9_0 := inj1 hF
      exact W.iret (v := c_now_row 9) hx hb hr (fun tt ht hW => ⟨_, rfl, e9_0, ht⟩) (fun _ h => by cases h) dX7_count_91
    replace hF := inn c_5_2 hF
    rcases Classical.em (p1 = (3 : Int32)) with c_5_3 | c_5_3
    ·
      replace hF := ip c_5_3 hF
      refine lv_tableIn (off := 79) (tgt := 92) hx hb dX7_count_13 (by rw [c_5_3]; decide) (by rw [c_5_3]; decide) (by rw [c_5_3]; decide) (by decide) ?_
      refine lv_aload_n hx hb dX7_count_92 rfl (lv_at hl 0 rfl) ?_
      refine gt_X7_3 (v := .ref a_now) hx hb hts i_f_X7_count_X7 hown hK hP 0 rfl (hts (.fieldLink RX7 35 "HushWatch" "now" "LHushWatch$State;") (List.mem_of_getElem? (i := 1) rfl)) rfl dX7_count_93 ?_
      refine va_getN (D := E.1) (ci := 6) (v := .ref a_now_row) (C := RX5) (T := TX5) (N := 6) hx hb hts i_f_X7_count_X5 hown hK hP 1 rfl rfl 0 (by decide) (nx hN 12 rfl) (fun _ h9 => h9) rfl dX7_count_96 ?_
      refine lv_bipush (v := 10) hx hb dX7_count_99 (by decide) ?_
      refine va_iald hx hb hK hP 2 0 rfl rfl (vin rfl) dX7_count_101 ?_
      refine W.eq (g2 := F0 m 102 ls [.int (c_now_row 10)]) rfl ?_
      rw [hQ]
      obtain e9_0 := inj1 hF
      exact W.iret (v := c_now_row 10) hx hb hr (fun tt ht hW => ⟨_, rfl, e9_0, ht⟩) (fun _ h => by cases h) dX7_count_102
    replace hF := inn c_5_3 hF
    rcases Classical.em (p1 = (4 : Int32)) with c_5_4 | c_5_4
    ·
      replace hF := ip c_5_4 hF
      refine lv_tableIn (off := 90) (tgt := 103) hx hb dX7_count_13 (by rw [c_5_4]; decide) (by rw [c_5_4]; decide) (by rw [c_5_4]; decide) (by decide) ?_
      refine lv_aload_n hx hb dX7_count_103 rfl (lv_at hl 0 rfl) ?_
      refine gt_X7_3 (v := .ref a_now) hx hb hts i_f_X7_count_X7 hown hK hP 0 rfl (hts (.fieldLink RX7 35 "HushWatch" "now" "LHushWatch$State;") (List.mem_of_getElem? (i := 1) rfl)) rfl dX7_count_104 ?_
      replace hF := bd1_s hF
      obtain ⟨r_8, hc_9, hF⟩ := hF
      have hPc : va_P E.1 vwCl (w_X5_isReached E a_now a_now_row a_now_partners a_now_share a_now_leftOver c_now_askedCount c_now_outcome c_now_row) s.heap := hP.sub (ws' := [(a_now, .inr (6, [.ref a_now_row, .ref a_now_partners, .int c_now_askedCount, .int c_now_outcome, .ref a_now_share, .ref a_now_leftOver])), (a_now_row, .inl (E.2.1, 81, .inl c_now_row))]) [1, 2] rfl
      have hrc := va_recv hK hPc (ci := 6) (q0 := 0) rfl rfl
      refine pE_z (va_runV (As := []) (rest := [])  ⟨hx, hb, hml, hown, hts⟩ (f_X5_isReached l E (a_ := a_now) (a_row := a_now_row) (a_partners := a_now_partners) (a_share := a_now_share) (a_leftOver := a_now_leftOver) (c_askedCount := c_now_askedCount) (c_outcome := c_now_outcome) (c_row := c_now_row) hc_9) (cwV 0 hts g_f_X7_count_f_X5_isReached_170 rfl rfl rfl hd_X5_isReached ⟨Nat.le_of_ble_eq_true rfl, Nat.le_of_ble_eq_true rfl⟩) ⟨pP.blind, hrc, (pP.pre ⟨hK, hN⟩ hPc)⟩ rfl rfl hl.1 rfl (lv_room (Nat.le_of_ble_eq_true rfl)) dX7_count_107 ⟨Nat.le_of_ble_eq_true rfl, Nat.le_of_ble_eq_true rfl⟩) (fun hb_10 => ?_)
      refine lv_if_eq (tgt := 117) hx hb dX7_count_110 (by decide) (fun c_11 => ?_) (fun c_11 => ?_)
      ·
        replace hF := ip c_11 hF
        refine lv_iconst (v := 0) hx hb dX7_count_117 (by decide) ?_
        rw [hQ]
        obtain e9_0 := inj1 hF
        exact W.iret (v := (0 : Int32)) hx hb hr (fun tt ht hW => ⟨_, rfl, e9_0, ht⟩) (fun _ h => by cases h) dX7_count_118
      ·
        replace hF := inn c_11 hF
        refine lv_iconst (v := 1) hx hb dX7_count_113 (by decide) ?_
        refine lv_goto (tgt := 118) hx hb dX7_count_114 (by decide) ?_
        rw [hQ]
        obtain e9_0 := inj1 hF
        exact W.iret (v := (1 : Int32)) hx hb hr (fun tt ht hW => ⟨_, rfl, e9_0, ht⟩) (fun _ h => by cases h) dX7_count_118
    replace hF := inn c_5_4 hF
    rcases Classical.em (p1 = (5 : Int32)) with c_5_5 | c_5_5
    ·
      replace hF := ip c_5_5 hF
      refine lv_tableIn (off := 106) (tgt := 119) hx hb dX7_count_13 (by rw [c_5_5]; decide) (by rw [c_5_5]; decide) (by rw [c_5_5]; decide) (by decide) ?_
      refine lv_aload_n hx hb dX7_count_119 rfl (lv_at hl 0 rfl) ?_
      refine gt_X7_3 (v := .ref a_now) hx hb hts i_f_X7_count_X7 hown hK hP 0 rfl (hts (.fieldLink RX7 35 "HushWatch" "now" "LHushWatch$State;") (List.mem_of_getElem? (i := 1) rfl)) rfl dX7_count_120 ?_
      refine lv_bipush (v := 6) hx hb dX7_count_123 (by decide) ?_
      replace hF := bd1_s hF
      obtain ⟨r_12, hc_13, hF⟩ := hF
      have hPc : va_P E.1 vwCl (w_X5_total E a_now a_now_row a_now_partners a_now_share a_now_leftOver c_now_askedCount c_now_outcome c_now_row) s.heap := hP.sub (ws' := [(a_now, .inr (6, [.ref a_now_row, .ref a_now_partners, .int c_now_askedCount, .int c_now_outcome, .ref a_now_share, .ref a_now_leftOver])), (a_now_row, .inl (E.2.1, 81, .inl c_now_row))]) [1, 2] rfl
      have hrc := va_recv hK hPc (ci := 6) (q0 := 0) rfl rfl
      refine pE_i (va_runV (As := [.int (6 : Int32)]) (rest := [])  ⟨hx, hb, hml, hown, hts⟩ (f_X5_total l E K (a_ := a_now) (a_row := a_now_row) (a_partners := a_now_partners) (a_share := a_now_share) (a_leftOver := a_now_leftOver) (p1 := (6 : Int32)) (c_askedCount := c_now_askedCount) (c_outcome := c_now_outcome) (c_row := c_now_row) hc_13) (cwV 1 hts g_f_X7_count_f_X5_total_160 rfl rfl rfl hd_X5_total ⟨Nat.le_of_ble_eq_true rfl, Nat.le_of_ble_eq_true rfl⟩) ⟨pP.blind, hrc, (pP.pre ⟨hK, hN⟩ hPc)⟩ rfl rfl hl.1 rfl (lv_room (Nat.le_of_ble_eq_true rfl)) dX7_count_125 ⟨Nat.le_of_ble_eq_true rfl, Nat.le_of_ble_eq_true rfl⟩) ?_
      rw [hQ]
      obtain e9_0 := inj1 hF
      exact W.iret (v := r_12) hx hb hr (fun tt ht hW => ⟨_, rfl, e9_0, ht⟩) (fun _ h => by cases h) dX7_count_128
    replace hF := inn c_5_5 hF
    refine lv_tableOut (tgt := 129) hx hb dX7_count_13 (by have t0 : (0 : Int32).toInt = 0 := (by decide); have t1 : (1 : Int32).toInt = 1 := (by decide); have t2 : (2 : Int32).toInt = 2 := (by decide); have t3 : (3 : Int32).toInt = 3 := (by decide); have t4 : (4 : Int32).toInt = 4 := (by decide); have t5 : (5 : Int32).toInt = 5 := (by decide); simp only [← Int32.toInt_inj, t0, t1, t2, t3, t4, t5] at c_5_0 c_5_1 c_5_2 c_5_3 c_5_4 c_5_5; omega) (by decide) ?_
    refine lv_iconst (v := -1) hx hb dX7_count_129 (by decide) ?_
    rw [hQ]
    obtain e9_0 := inj1 hF
    exact W.iret (v := (-1 : Int32)) hx hb hr (fun tt ht hW => ⟨_, rfl, e9_0, ht⟩) (fun _ h => by cases h) dX7_count_130
  ·
    replace hF := ip c_4 hF
    refine lv_iconst (v := -1) hx hb dX7_count_10 (by decide) ?_
    rw [hQ]
    obtain e9_0 := inj1 hF
    exact W.iret (v := (-1 : Int32)) hx hb hr (fun tt ht hW => ⟨_, rfl, e9_0, ht⟩) (fun _ h => by cases h) dX7_count_11
