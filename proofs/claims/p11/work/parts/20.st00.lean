def dl_X5_hasSite_20_st00_0 : List (Nat × Instr × Nat) := [(0, .iload_n 1, 1), (1, .ifCond .lt 23, 3), (24, .iconst 0, 1), (25, .ireturn, 1), (4, .iload_n 1, 1), (5, .aload_n 0, 1), (6, .getfield 11, 3), (9, .iconst 3, 1), (10, .iaload, 1), (11, .if_icmp .ge 13, 3), (14, .iload_n 1, 1), (15, .bipush 8, 2), (17, .if_icmp .ge 7, 3), (20, .iconst 1, 1), (21, .goto 4, 3)]
set_option maxRecDepth 100000 in
theorem dall_X5_hasSite_20_st00_0 : dchk cX5_hasSite dl_X5_hasSite_20_st00_0 = true := by decide +kernel
theorem dX5_hasSite_0 : decode cX5_hasSite 0 = .ok (.iload_n 1, 1) := dchk_at dall_X5_hasSite_20_st00_0 (k := 0) rfl
theorem dX5_hasSite_1 : decode cX5_hasSite 1 = .ok (.ifCond .lt 23, 3) := dchk_at dall_X5_hasSite_20_st00_0 (k := 1) rfl
theorem dX5_hasSite_24 : decode cX5_hasSite 24 = .ok (.iconst 0, 1) := dchk_at dall_X5_hasSite_20_st00_0 (k := 2) rfl
theorem dX5_hasSite_25 : decode cX5_hasSite 25 = .ok (.ireturn, 1) := dchk_at dall_X5_hasSite_20_st00_0 (k := 3) rfl
theorem dX5_hasSite_4 : decode cX5_hasSite 4 = .ok (.iload_n 1, 1) := dchk_at dall_X5_hasSite_20_st00_0 (k := 4) rfl
theorem dX5_hasSite_5 : decode cX5_hasSite 5 = .ok (.aload_n 0, 1) := dchk_at dall_X5_hasSite_20_st00_0 (k := 5) rfl
theorem dX5_hasSite_6 : decode cX5_hasSite 6 = .ok (.getfield 11, 3) := dchk_at dall_X5_hasSite_20_st00_0 (k := 6) rfl
theorem dX5_hasSite_9 : decode cX5_hasSite 9 = .ok (.iconst 3, 1) := dchk_at dall_X5_hasSite_20_st00_0 (k := 7) rfl
theorem dX5_hasSite_10 : decode cX5_hasSite 10 = .ok (.iaload, 1) := dchk_at dall_X5_hasSite_20_st00_0 (k := 8) rfl
theorem dX5_hasSite_11 : decode cX5_hasSite 11 = .ok (.if_icmp .ge 13, 3) := dchk_at dall_X5_hasSite_20_st00_0 (k := 9) rfl
theorem dX5_hasSite_14 : decode cX5_hasSite 14 = .ok (.iload_n 1, 1) := dchk_at dall_X5_hasSite_20_st00_0 (k := 10) rfl
theorem dX5_hasSite_15 : decode cX5_hasSite 15 = .ok (.bipush 8, 2) := dchk_at dall_X5_hasSite_20_st00_0 (k := 11) rfl
theorem dX5_hasSite_17 : decode cX5_hasSite 17 = .ok (.if_icmp .ge 7, 3) := dchk_at dall_X5_hasSite_20_st00_0 (k := 12) rfl
theorem dX5_hasSite_20 : decode cX5_hasSite 20 = .ok (.iconst 1, 1) := dchk_at dall_X5_hasSite_20_st00_0 (k := 13) rfl
theorem dX5_hasSite_21 : decode cX5_hasSite 21 = .ok (.goto 4, 3) := dchk_at dall_X5_hasSite_20_st00_0 (k := 14) rfl
def dl_X5_of_20_st00_0 : List (Nat × Instr × Nat) := [(0, .iload_n 1, 1), (1, .ifCond .lt 19, 3), (20, .iconst 0, 1), (21, .ireturn, 1), (4, .iload_n 1, 1), (5, .bipush 8, 2), (7, .if_icmp .ge 13, 3), (10, .iload_n 2, 1), (11, .ifCond .lt 9, 3), (14, .iload_n 2, 1), (15, .bipush 8, 2), (17, .if_icmp .lt 5, 3), (22, .aload_n 0, 1), (23, .getfield 11, 3), (26, .bipush 17, 2), (28, .iload_n 1, 1), (29, .bipush 8, 2), (31, .imul, 1), (32, .iadd, 1), (33, .iload_n 2, 1), (34, .iadd, 1), (35, .iaload, 1), (36, .ireturn, 1)]
set_option maxRecDepth 100000 in
theorem dall_X5_of_20_st00_0 : dchk cX5_of dl_X5_of_20_st00_0 = true := by decide +kernel
theorem dX5_of_0 : decode cX5_of 0 = .ok (.iload_n 1, 1) := dchk_at dall_X5_of_20_st00_0 (k := 0) rfl
theorem dX5_of_1 : decode cX5_of 1 = .ok (.ifCond .lt 19, 3) := dchk_at dall_X5_of_20_st00_0 (k := 1) rfl
theorem dX5_of_20 : decode cX5_of 20 = .ok (.iconst 0, 1) := dchk_at dall_X5_of_20_st00_0 (k := 2) rfl
theorem dX5_of_21 : decode cX5_of 21 = .ok (.ireturn, 1) := dchk_at dall_X5_of_20_st00_0 (k := 3) rfl
theorem dX5_of_4 : decode cX5_of 4 = .ok (.iload_n 1, 1) := dchk_at dall_X5_of_20_st00_0 (k := 4) rfl
theorem dX5_of_5 : decode cX5_of 5 = .ok (.bipush 8, 2) := dchk_at dall_X5_of_20_st00_0 (k := 5) rfl
theorem dX5_of_7 : decode cX5_of 7 = .ok (.if_icmp .ge 13, 3) := dchk_at dall_X5_of_20_st00_0 (k := 6) rfl
theorem dX5_of_10 : decode cX5_of 10 = .ok (.iload_n 2, 1) := dchk_at dall_X5_of_20_st00_0 (k := 7) rfl
theorem dX5_of_11 : decode cX5_of 11 = .ok (.ifCond .lt 9, 3) := dchk_at dall_X5_of_20_st00_0 (k := 8) rfl
theorem dX5_of_14 : decode cX5_of 14 = .ok (.iload_n 2, 1) := dchk_at dall_X5_of_20_st00_0 (k := 9) rfl
theorem dX5_of_15 : decode cX5_of 15 = .ok (.bipush 8, 2) := dchk_at dall_X5_of_20_st00_0 (k := 10) rfl
theorem dX5_of_17 : decode cX5_of 17 = .ok (.if_icmp .lt 5, 3) := dchk_at dall_X5_of_20_st00_0 (k := 11) rfl
theorem dX5_of_22 : decode cX5_of 22 = .ok (.aload_n 0, 1) := dchk_at dall_X5_of_20_st00_0 (k := 12) rfl
theorem dX5_of_23 : decode cX5_of 23 = .ok (.getfield 11, 3) := dchk_at dall_X5_of_20_st00_0 (k := 13) rfl
theorem dX5_of_26 : decode cX5_of 26 = .ok (.bipush 17, 2) := dchk_at dall_X5_of_20_st00_0 (k := 14) rfl
theorem dX5_of_28 : decode cX5_of 28 = .ok (.iload_n 1, 1) := dchk_at dall_X5_of_20_st00_0 (k := 15) rfl
theorem dX5_of_29 : decode cX5_of 29 = .ok (.bipush 8, 2) := dchk_at dall_X5_of_20_st00_0 (k := 16) rfl
theorem dX5_of_31 : decode cX5_of 31 = .ok (.imul, 1) := dchk_at dall_X5_of_20_st00_0 (k := 17) rfl
theorem dX5_of_32 : decode cX5_of 32 = .ok (.iadd, 1) := dchk_at dall_X5_of_20_st00_0 (k := 18) rfl
theorem dX5_of_33 : decode cX5_of 33 = .ok (.iload_n 2, 1) := dchk_at dall_X5_of_20_st00_0 (k := 19) rfl
theorem dX5_of_34 : decode cX5_of 34 = .ok (.iadd, 1) := dchk_at dall_X5_of_20_st00_0 (k := 20) rfl
theorem dX5_of_35 : decode cX5_of 35 = .ok (.iaload, 1) := dchk_at dall_X5_of_20_st00_0 (k := 21) rfl
theorem dX5_of_36 : decode cX5_of 36 = .ok (.ireturn, 1) := dchk_at dall_X5_of_20_st00_0 (k := 22) rfl
def dl_X5_isReached_20_st00_0 : List (Nat × Instr × Nat) := [(0, .aload_n 0, 1), (1, .getfield 11, 3), (4, .bipush 8, 2), (6, .iaload, 1), (7, .aload_n 0, 1), (8, .getfield 11, 3), (11, .iconst 2, 1), (12, .iaload, 1), (13, .if_icmp .lt 7, 3), (20, .iconst 0, 1), (21, .ireturn, 1), (16, .iconst 1, 1), (17, .goto 4, 3)]
set_option maxRecDepth 100000 in
theorem dall_X5_isReached_20_st00_0 : dchk cX5_isReached dl_X5_isReached_20_st00_0 = true := by decide +kernel
theorem dX5_isReached_0 : decode cX5_isReached 0 = .ok (.aload_n 0, 1) := dchk_at dall_X5_isReached_20_st00_0 (k := 0) rfl
theorem dX5_isReached_1 : decode cX5_isReached 1 = .ok (.getfield 11, 3) := dchk_at dall_X5_isReached_20_st00_0 (k := 1) rfl
theorem dX5_isReached_4 : decode cX5_isReached 4 = .ok (.bipush 8, 2) := dchk_at dall_X5_isReached_20_st00_0 (k := 2) rfl
theorem dX5_isReached_6 : decode cX5_isReached 6 = .ok (.iaload, 1) := dchk_at dall_X5_isReached_20_st00_0 (k := 3) rfl
theorem dX5_isReached_7 : decode cX5_isReached 7 = .ok (.aload_n 0, 1) := dchk_at dall_X5_isReached_20_st00_0 (k := 4) rfl
theorem dX5_isReached_8 : decode cX5_isReached 8 = .ok (.getfield 11, 3) := dchk_at dall_X5_isReached_20_st00_0 (k := 5) rfl
theorem dX5_isReached_11 : decode cX5_isReached 11 = .ok (.iconst 2, 1) := dchk_at dall_X5_isReached_20_st00_0 (k := 6) rfl
theorem dX5_isReached_12 : decode cX5_isReached 12 = .ok (.iaload, 1) := dchk_at dall_X5_isReached_20_st00_0 (k := 7) rfl
theorem dX5_isReached_13 : decode cX5_isReached 13 = .ok (.if_icmp .lt 7, 3) := dchk_at dall_X5_isReached_20_st00_0 (k := 8) rfl
theorem dX5_isReached_20 : decode cX5_isReached 20 = .ok (.iconst 0, 1) := dchk_at dall_X5_isReached_20_st00_0 (k := 9) rfl
theorem dX5_isReached_21 : decode cX5_isReached 21 = .ok (.ireturn, 1) := dchk_at dall_X5_isReached_20_st00_0 (k := 10) rfl
theorem dX5_isReached_16 : decode cX5_isReached 16 = .ok (.iconst 1, 1) := dchk_at dall_X5_isReached_20_st00_0 (k := 11) rfl
theorem dX5_isReached_17 : decode cX5_isReached 17 = .ok (.goto 4, 3) := dchk_at dall_X5_isReached_20_st00_0 (k := 12) rfl
def dl_X5_addRefusal_20_st00_0 : List (Nat × Instr × Nat) := [(0, .aload_n 0, 1), (1, .iload_n 1, 1), (2, .invokevirtual 79, 3), (5, .ifCond .ne 5, 3), (10, .iload_n 2, 1), (11, .iconst 1, 1), (12, .if_icmp .lt 24, 3), (36, .iconst 1, 1), (37, .ireturn, 1), (15, .iload_n 2, 1), (16, .sipush 999, 3), (19, .if_icmp .gt 17, 3), (22, .aload_n 0, 1), (23, .iload_n 1, 1), (24, .bipush 6, 2), (26, .invokevirtual 69, 3), (29, .iload_n 2, 1), (30, .iadd, 1), (31, .ldc 98, 2), (33, .if_icmp .le 5, 3), (38, .aload_n 0, 1), (39, .invokevirtual 134, 3), (42, .ifCond .eq 7, 3), (49, .iconst (-1), 1), (50, .ireturn, 1), (45, .iconst 2, 1), (46, .goto 4, 3), (8, .iconst 0, 1), (9, .ireturn, 1)]
set_option maxRecDepth 100000 in
theorem dall_X5_addRefusal_20_st00_0 : dchk cX5_addRefusal dl_X5_addRefusal_20_st00_0 = true := by decide +kernel
theorem dX5_addRefusal_0 : decode cX5_addRefusal 0 = .ok (.aload_n 0, 1) := dchk_at dall_X5_addRefusal_20_st00_0 (k := 0) rfl
theorem dX5_addRefusal_1 : decode cX5_addRefusal 1 = .ok (.iload_n 1, 1) := dchk_at dall_X5_addRefusal_20_st00_0 (k := 1) rfl
theorem dX5_addRefusal_2 : decode cX5_addRefusal 2 = .ok (.invokevirtual 79, 3) := dchk_at dall_X5_addRefusal_20_st00_0 (k := 2) rfl
theorem dX5_addRefusal_5 : decode cX5_addRefusal 5 = .ok (.ifCond .ne 5, 3) := dchk_at dall_X5_addRefusal_20_st00_0 (k := 3) rfl
theorem dX5_addRefusal_10 : decode cX5_addRefusal 10 = .ok (.iload_n 2, 1) := dchk_at dall_X5_addRefusal_20_st00_0 (k := 4) rfl
theorem dX5_addRefusal_11 : decode cX5_addRefusal 11 = .ok (.iconst 1, 1) := dchk_at dall_X5_addRefusal_20_st00_0 (k := 5) rfl
theorem dX5_addRefusal_12 : decode cX5_addRefusal 12 = .ok (.if_icmp .lt 24, 3) := dchk_at dall_X5_addRefusal_20_st00_0 (k := 6) rfl
theorem dX5_addRefusal_36 : decode cX5_addRefusal 36 = .ok (.iconst 1, 1) := dchk_at dall_X5_addRefusal_20_st00_0 (k := 7) rfl
theorem dX5_addRefusal_37 : decode cX5_addRefusal 37 = .ok (.ireturn, 1) := dchk_at dall_X5_addRefusal_20_st00_0 (k := 8) rfl
theorem dX5_addRefusal_15 : decode cX5_addRefusal 15 = .ok (.iload_n 2, 1) := dchk_at dall_X5_addRefusal_20_st00_0 (k := 9) rfl
theorem dX5_addRefusal_16 : decode cX5_addRefusal 16 = .ok (.sipush 999, 3) := dchk_at dall_X5_addRefusal_20_st00_0 (k := 10) rfl
theorem dX5_addRefusal_19 : decode cX5_addRefusal 19 = .ok (.if_icmp .gt 17, 3) := dchk_at dall_X5_addRefusal_20_st00_0 (k := 11) rfl
theorem dX5_addRefusal_22 : decode cX5_addRefusal 22 = .ok (.aload_n 0, 1) := dchk_at dall_X5_addRefusal_20_st00_0 (k := 12) rfl
theorem dX5_addRefusal_23 : decode cX5_addRefusal 23 = .ok (.iload_n 1, 1) := dchk_at dall_X5_addRefusal_20_st00_0 (k := 13) rfl
theorem dX5_addRefusal_24 : decode cX5_addRefusal 24 = .ok (.bipush 6, 2) := dchk_at dall_X5_addRefusal_20_st00_0 (k := 14) rfl
theorem dX5_addRefusal_26 : decode cX5_addRefusal 26 = .ok (.invokevirtual 69, 3) := dchk_at dall_X5_addRefusal_20_st00_0 (k := 15) rfl
theorem dX5_addRefusal_29 : decode cX5_addRefusal 29 = .ok (.iload_n 2, 1) := dchk_at dall_X5_addRefusal_20_st00_0 (k := 16) rfl
theorem dX5_addRefusal_30 : decode cX5_addRefusal 30 = .ok (.iadd, 1) := dchk_at dall_X5_addRefusal_20_st00_0 (k := 17) rfl
theorem dX5_addRefusal_31 : decode cX5_addRefusal 31 = .ok (.ldc 98, 2) := dchk_at dall_X5_addRefusal_20_st00_0 (k := 18) rfl
theorem dX5_addRefusal_33 : decode cX5_addRefusal 33 = .ok (.if_icmp .le 5, 3) := dchk_at dall_X5_addRefusal_20_st00_0 (k := 19) rfl
theorem dX5_addRefusal_38 : decode cX5_addRefusal 38 = .ok (.aload_n 0, 1) := dchk_at dall_X5_addRefusal_20_st00_0 (k := 20) rfl
theorem dX5_addRefusal_39 : decode cX5_addRefusal 39 = .ok (.invokevirtual 134, 3) := dchk_at dall_X5_addRefusal_20_st00_0 (k := 21) rfl
theorem dX5_addRefusal_42 : decode cX5_addRefusal 42 = .ok (.ifCond .eq 7, 3) := dchk_at dall_X5_addRefusal_20_st00_0 (k := 22) rfl
theorem dX5_addRefusal_49 : decode cX5_addRefusal 49 = .ok (.iconst (-1), 1) := dchk_at dall_X5_addRefusal_20_st00_0 (k := 23) rfl
theorem dX5_addRefusal_50 : decode cX5_addRefusal 50 = .ok (.ireturn, 1) := dchk_at dall_X5_addRefusal_20_st00_0 (k := 24) rfl
theorem dX5_addRefusal_45 : decode cX5_addRefusal 45 = .ok (.iconst 2, 1) := dchk_at dall_X5_addRefusal_20_st00_0 (k := 25) rfl
theorem dX5_addRefusal_46 : decode cX5_addRefusal 46 = .ok (.goto 4, 3) := dchk_at dall_X5_addRefusal_20_st00_0 (k := 26) rfl
theorem dX5_addRefusal_8 : decode cX5_addRefusal 8 = .ok (.iconst 0, 1) := dchk_at dall_X5_addRefusal_20_st00_0 (k := 27) rfl
theorem dX5_addRefusal_9 : decode cX5_addRefusal 9 = .ok (.ireturn, 1) := dchk_at dall_X5_addRefusal_20_st00_0 (k := 28) rfl
def dl_X5_put_20_st00_0 : List (Nat × Instr × Nat) := [(0, .iload_n 1, 1), (1, .ifCond .lt 34, 3), (35, .return_, 1), (4, .iload_n 1, 1), (5, .bipush 8, 2), (7, .if_icmp .ge 28, 3), (10, .iload_n 2, 1), (11, .ifCond .lt 24, 3), (14, .iload_n 2, 1), (15, .bipush 8, 2), (17, .if_icmp .ge 18, 3), (20, .aload_n 0, 1), (21, .getfield 11, 3), (24, .bipush 17, 2), (26, .iload_n 1, 1), (27, .bipush 8, 2), (29, .imul, 1), (30, .iadd, 1), (31, .iload_n 2, 1), (32, .iadd, 1), (33, .iload_n 3, 1), (34, .iastore, 1)]
set_option maxRecDepth 100000 in
theorem dall_X5_put_20_st00_0 : dchk cX5_put dl_X5_put_20_st00_0 = true := by decide +kernel
theorem dX5_put_0 : decode cX5_put 0 = .ok (.iload_n 1, 1) := dchk_at dall_X5_put_20_st00_0 (k := 0) rfl
theorem dX5_put_1 : decode cX5_put 1 = .ok (.ifCond .lt 34, 3) := dchk_at dall_X5_put_20_st00_0 (k := 1) rfl
theorem dX5_put_35 : decode cX5_put 35 = .ok (.return_, 1) := dchk_at dall_X5_put_20_st00_0 (k := 2) rfl
theorem dX5_put_4 : decode cX5_put 4 = .ok (.iload_n 1, 1) := dchk_at dall_X5_put_20_st00_0 (k := 3) rfl
theorem dX5_put_5 : decode cX5_put 5 = .ok (.bipush 8, 2) := dchk_at dall_X5_put_20_st00_0 (k := 4) rfl
theorem dX5_put_7 : decode cX5_put 7 = .ok (.if_icmp .ge 28, 3) := dchk_at dall_X5_put_20_st00_0 (k := 5) rfl
theorem dX5_put_10 : decode cX5_put 10 = .ok (.iload_n 2, 1) := dchk_at dall_X5_put_20_st00_0 (k := 6) rfl
theorem dX5_put_11 : decode cX5_put 11 = .ok (.ifCond .lt 24, 3) := dchk_at dall_X5_put_20_st00_0 (k := 7) rfl
theorem dX5_put_14 : decode cX5_put 14 = .ok (.iload_n 2, 1) := dchk_at dall_X5_put_20_st00_0 (k := 8) rfl
theorem dX5_put_15 : decode cX5_put 15 = .ok (.bipush 8, 2) := dchk_at dall_X5_put_20_st00_0 (k := 9) rfl
theorem dX5_put_17 : decode cX5_put 17 = .ok (.if_icmp .ge 18, 3) := dchk_at dall_X5_put_20_st00_0 (k := 10) rfl
theorem dX5_put_20 : decode cX5_put 20 = .ok (.aload_n 0, 1) := dchk_at dall_X5_put_20_st00_0 (k := 11) rfl
theorem dX5_put_21 : decode cX5_put 21 = .ok (.getfield 11, 3) := dchk_at dall_X5_put_20_st00_0 (k := 12) rfl
theorem dX5_put_24 : decode cX5_put 24 = .ok (.bipush 17, 2) := dchk_at dall_X5_put_20_st00_0 (k := 13) rfl
theorem dX5_put_26 : decode cX5_put 26 = .ok (.iload_n 1, 1) := dchk_at dall_X5_put_20_st00_0 (k := 14) rfl
theorem dX5_put_27 : decode cX5_put 27 = .ok (.bipush 8, 2) := dchk_at dall_X5_put_20_st00_0 (k := 15) rfl
theorem dX5_put_29 : decode cX5_put 29 = .ok (.imul, 1) := dchk_at dall_X5_put_20_st00_0 (k := 16) rfl
theorem dX5_put_30 : decode cX5_put 30 = .ok (.iadd, 1) := dchk_at dall_X5_put_20_st00_0 (k := 17) rfl
theorem dX5_put_31 : decode cX5_put 31 = .ok (.iload_n 2, 1) := dchk_at dall_X5_put_20_st00_0 (k := 18) rfl
theorem dX5_put_32 : decode cX5_put 32 = .ok (.iadd, 1) := dchk_at dall_X5_put_20_st00_0 (k := 19) rfl
theorem dX5_put_33 : decode cX5_put 33 = .ok (.iload_n 3, 1) := dchk_at dall_X5_put_20_st00_0 (k := 20) rfl
theorem dX5_put_34 : decode cX5_put 34 = .ok (.iastore, 1) := dchk_at dall_X5_put_20_st00_0 (k := 21) rfl
def dl_X5_stepFrom_20_st00_0 : List (Nat × Instr × Nat) := [(0, .iconst 2, 1), (1, .aload_n 0, 1), (2, .getfield 11, 3), (5, .iconst 3, 1), (6, .iaload, 1), (7, .imul, 1), (8, .istore_n 2, 1), (9, .iload_n 2, 1), (10, .ifCond .le 13, 3), (23, .iconst 0, 1), (24, .goto 13, 3), (37, .ireturn, 1), (13, .iload_n 1, 1), (14, .aload_n 0, 1), (15, .getfield 11, 3), (18, .iconst 2, 1), (19, .iaload, 1), (20, .if_icmp .lt 7, 3), (27, .aload_n 0, 1), (28, .getfield 11, 3), (31, .iconst 2, 1), (32, .iaload, 1), (33, .iload_n 1, 1), (34, .isub, 1), (35, .iload_n 2, 1), (36, .idiv, 1)]
set_option maxRecDepth 100000 in
theorem dall_X5_stepFrom_20_st00_0 : dchk cX5_stepFrom dl_X5_stepFrom_20_st00_0 = true := by decide +kernel
theorem dX5_stepFrom_0 : decode cX5_stepFrom 0 = .ok (.iconst 2, 1) := dchk_at dall_X5_stepFrom_20_st00_0 (k := 0) rfl
theorem dX5_stepFrom_1 : decode cX5_stepFrom 1 = .ok (.aload_n 0, 1) := dchk_at dall_X5_stepFrom_20_st00_0 (k := 1) rfl
theorem dX5_stepFrom_2 : decode cX5_stepFrom 2 = .ok (.getfield 11, 3) := dchk_at dall_X5_stepFrom_20_st00_0 (k := 2) rfl
theorem dX5_stepFrom_5 : decode cX5_stepFrom 5 = .ok (.iconst 3, 1) := dchk_at dall_X5_stepFrom_20_st00_0 (k := 3) rfl
theorem dX5_stepFrom_6 : decode cX5_stepFrom 6 = .ok (.iaload, 1) := dchk_at dall_X5_stepFrom_20_st00_0 (k := 4) rfl
theorem dX5_stepFrom_7 : decode cX5_stepFrom 7 = .ok (.imul, 1) := dchk_at dall_X5_stepFrom_20_st00_0 (k := 5) rfl
theorem dX5_stepFrom_8 : decode cX5_stepFrom 8 = .ok (.istore_n 2, 1) := dchk_at dall_X5_stepFrom_20_st00_0 (k := 6) rfl
theorem dX5_stepFrom_9 : decode cX5_stepFrom 9 = .ok (.iload_n 2, 1) := dchk_at dall_X5_stepFrom_20_st00_0 (k := 7) rfl
theorem dX5_stepFrom_10 : decode cX5_stepFrom 10 = .ok (.ifCond .le 13, 3) := dchk_at dall_X5_stepFrom_20_st00_0 (k := 8) rfl
theorem dX5_stepFrom_23 : decode cX5_stepFrom 23 = .ok (.iconst 0, 1) := dchk_at dall_X5_stepFrom_20_st00_0 (k := 9) rfl
theorem dX5_stepFrom_24 : decode cX5_stepFrom 24 = .ok (.goto 13, 3) := dchk_at dall_X5_stepFrom_20_st00_0 (k := 10) rfl
theorem dX5_stepFrom_37 : decode cX5_stepFrom 37 = .ok (.ireturn, 1) := dchk_at dall_X5_stepFrom_20_st00_0 (k := 11) rfl
theorem dX5_stepFrom_13 : decode cX5_stepFrom 13 = .ok (.iload_n 1, 1) := dchk_at dall_X5_stepFrom_20_st00_0 (k := 12) rfl
theorem dX5_stepFrom_14 : decode cX5_stepFrom 14 = .ok (.aload_n 0, 1) := dchk_at dall_X5_stepFrom_20_st00_0 (k := 13) rfl
theorem dX5_stepFrom_15 : decode cX5_stepFrom 15 = .ok (.getfield 11, 3) := dchk_at dall_X5_stepFrom_20_st00_0 (k := 14) rfl
theorem dX5_stepFrom_18 : decode cX5_stepFrom 18 = .ok (.iconst 2, 1) := dchk_at dall_X5_stepFrom_20_st00_0 (k := 15) rfl
theorem dX5_stepFrom_19 : decode cX5_stepFrom 19 = .ok (.iaload, 1) := dchk_at dall_X5_stepFrom_20_st00_0 (k := 16) rfl
theorem dX5_stepFrom_20 : decode cX5_stepFrom 20 = .ok (.if_icmp .lt 7, 3) := dchk_at dall_X5_stepFrom_20_st00_0 (k := 17) rfl
theorem dX5_stepFrom_27 : decode cX5_stepFrom 27 = .ok (.aload_n 0, 1) := dchk_at dall_X5_stepFrom_20_st00_0 (k := 18) rfl
theorem dX5_stepFrom_28 : decode cX5_stepFrom 28 = .ok (.getfield 11, 3) := dchk_at dall_X5_stepFrom_20_st00_0 (k := 19) rfl
theorem dX5_stepFrom_31 : decode cX5_stepFrom 31 = .ok (.iconst 2, 1) := dchk_at dall_X5_stepFrom_20_st00_0 (k := 20) rfl
theorem dX5_stepFrom_32 : decode cX5_stepFrom 32 = .ok (.iaload, 1) := dchk_at dall_X5_stepFrom_20_st00_0 (k := 21) rfl
theorem dX5_stepFrom_33 : decode cX5_stepFrom 33 = .ok (.iload_n 1, 1) := dchk_at dall_X5_stepFrom_20_st00_0 (k := 22) rfl
theorem dX5_stepFrom_34 : decode cX5_stepFrom 34 = .ok (.isub, 1) := dchk_at dall_X5_stepFrom_20_st00_0 (k := 23) rfl
theorem dX5_stepFrom_35 : decode cX5_stepFrom 35 = .ok (.iload_n 2, 1) := dchk_at dall_X5_stepFrom_20_st00_0 (k := 24) rfl
theorem dX5_stepFrom_36 : decode cX5_stepFrom 36 = .ok (.idiv, 1) := dchk_at dall_X5_stepFrom_20_st00_0 (k := 25) rfl
def dl_X5_sites_20_st00_0 : List (Nat × Instr × Nat) := [(0, .aload_n 0, 1), (1, .getfield 11, 3), (4, .iconst 3, 1), (5, .iaload, 1), (6, .ireturn, 1)]
set_option maxRecDepth 100000 in
theorem dall_X5_sites_20_st00_0 : dchk cX5_sites dl_X5_sites_20_st00_0 = true := by decide +kernel
theorem dX5_sites_0 : decode cX5_sites 0 = .ok (.aload_n 0, 1) := dchk_at dall_X5_sites_20_st00_0 (k := 0) rfl
theorem dX5_sites_1 : decode cX5_sites 1 = .ok (.getfield 11, 3) := dchk_at dall_X5_sites_20_st00_0 (k := 1) rfl
theorem dX5_sites_4 : decode cX5_sites 4 = .ok (.iconst 3, 1) := dchk_at dall_X5_sites_20_st00_0 (k := 2) rfl
theorem dX5_sites_5 : decode cX5_sites 5 = .ok (.iaload, 1) := dchk_at dall_X5_sites_20_st00_0 (k := 3) rfl
theorem dX5_sites_6 : decode cX5_sites 6 = .ok (.ireturn, 1) := dchk_at dall_X5_sites_20_st00_0 (k := 4) rfl
def dl_X5_total_20_st00_0 : List (Nat × Instr × Nat) := [(4, .iload_n 3, 1), (5, .aload_n 0, 1), (6, .invokevirtual 45, 3), (9, .if_icmp .ge 18, 3), (12, .iload_n 2, 1), (13, .aload_n 0, 1), (14, .iload_n 3, 1), (15, .iload_n 1, 1), (16, .invokevirtual 69, 3), (19, .iadd, 1), (20, .istore_n 2, 1), (21, .iinc 3 1, 3), (24, .goto (-20), 3), (0, .iconst 0, 1), (1, .istore_n 2, 1), (2, .iconst 0, 1), (3, .istore_n 3, 1), (27, .iload_n 2, 1), (28, .ireturn, 1)]
set_option maxRecDepth 100000 in
theorem dall_X5_total_20_st00_0 : dchk cX5_total dl_X5_total_20_st00_0 = true := by decide +kernel
theorem dX5_total_4 : decode cX5_total 4 = .ok (.iload_n 3, 1) := dchk_at dall_X5_total_20_st00_0 (k := 0) rfl
theorem dX5_total_5 : decode cX5_total 5 = .ok (.aload_n 0, 1) := dchk_at dall_X5_total_20_st00_0 (k := 1) rfl
theorem dX5_total_6 : decode cX5_total 6 = .ok (.invokevirtual 45, 3) := dchk_at dall_X5_total_20_st00_0 (k := 2) rfl
theorem dX5_total_9 : decode cX5_total 9 = .ok (.if_icmp .ge 18, 3) := dchk_at dall_X5_total_20_st00_0 (k := 3) rfl
theorem dX5_total_12 : decode cX5_total 12 = .ok (.iload_n 2, 1) := dchk_at dall_X5_total_20_st00_0 (k := 4) rfl
theorem dX5_total_13 : decode cX5_total 13 = .ok (.aload_n 0, 1) := dchk_at dall_X5_total_20_st00_0 (k := 5) rfl
theorem dX5_total_14 : decode cX5_total 14 = .ok (.iload_n 3, 1) := dchk_at dall_X5_total_20_st00_0 (k := 6) rfl
theorem dX5_total_15 : decode cX5_total 15 = .ok (.iload_n 1, 1) := dchk_at dall_X5_total_20_st00_0 (k := 7) rfl
theorem dX5_total_16 : decode cX5_total 16 = .ok (.invokevirtual 69, 3) := dchk_at dall_X5_total_20_st00_0 (k := 8) rfl
theorem dX5_total_19 : decode cX5_total 19 = .ok (.iadd, 1) := dchk_at dall_X5_total_20_st00_0 (k := 9) rfl
theorem dX5_total_20 : decode cX5_total 20 = .ok (.istore_n 2, 1) := dchk_at dall_X5_total_20_st00_0 (k := 10) rfl
theorem dX5_total_21 : decode cX5_total 21 = .ok (.iinc 3 1, 3) := dchk_at dall_X5_total_20_st00_0 (k := 11) rfl
theorem dX5_total_24 : decode cX5_total 24 = .ok (.goto (-20), 3) := dchk_at dall_X5_total_20_st00_0 (k := 12) rfl
theorem dX5_total_0 : decode cX5_total 0 = .ok (.iconst 0, 1) := dchk_at dall_X5_total_20_st00_0 (k := 13) rfl
theorem dX5_total_1 : decode cX5_total 1 = .ok (.istore_n 2, 1) := dchk_at dall_X5_total_20_st00_0 (k := 14) rfl
theorem dX5_total_2 : decode cX5_total 2 = .ok (.iconst 0, 1) := dchk_at dall_X5_total_20_st00_0 (k := 15) rfl
theorem dX5_total_3 : decode cX5_total 3 = .ok (.istore_n 3, 1) := dchk_at dall_X5_total_20_st00_0 (k := 16) rfl
theorem dX5_total_27 : decode cX5_total 27 = .ok (.iload_n 2, 1) := dchk_at dall_X5_total_20_st00_0 (k := 17) rfl
theorem dX5_total_28 : decode cX5_total 28 = .ok (.ireturn, 1) := dchk_at dall_X5_total_20_st00_0 (k := 18) rfl
def dl_X5_endRound_20_st00_0 : List (Nat × Instr × Nat) := [(34, .iload_n 1, 1), (35, .aload_n 0, 1), (36, .invokevirtual 45, 3), (39, .if_icmp .ge 17, 3), (42, .aload_n 0, 1), (43, .iload_n 1, 1), (44, .bipush 7, 2), (46, .iconst 0, 1), (47, .invokevirtual 52, 3), (50, .iinc 1 1, 3), (53, .goto (-19), 3), (0, .aload_n 0, 1), (1, .getfield 11, 3), (4, .bipush 8, 2), (6, .aload_n 0, 1), (7, .bipush 6, 2), (9, .invokevirtual 188, 3), (12, .iastore, 1), (13, .aload_n 0, 1), (14, .getfield 11, 3), (17, .bipush 9, 2), (19, .iconst 0, 1), (20, .iastore, 1), (21, .aload_n 0, 1), (22, .getfield 11, 3), (25, .bipush 10, 2), (27, .dup2, 1), (28, .iaload, 1), (29, .iconst 1, 1), (30, .iadd, 1), (31, .iastore, 1), (32, .iconst 0, 1), (33, .istore_n 1, 1), (56, .return_, 1)]
set_option maxRecDepth 100000 in
theorem dall_X5_endRound_20_st00_0 : dchk cX5_endRound dl_X5_endRound_20_st00_0 = true := by decide +kernel
theorem dX5_endRound_34 : decode cX5_endRound 34 = .ok (.iload_n 1, 1) := dchk_at dall_X5_endRound_20_st00_0 (k := 0) rfl
theorem dX5_endRound_35 : decode cX5_endRound 35 = .ok (.aload_n 0, 1) := dchk_at dall_X5_endRound_20_st00_0 (k := 1) rfl
theorem dX5_endRound_36 : decode cX5_endRound 36 = .ok (.invokevirtual 45, 3) := dchk_at dall_X5_endRound_20_st00_0 (k := 2) rfl
theorem dX5_endRound_39 : decode cX5_endRound 39 = .ok (.if_icmp .ge 17, 3) := dchk_at dall_X5_endRound_20_st00_0 (k := 3) rfl
theorem dX5_endRound_42 : decode cX5_endRound 42 = .ok (.aload_n 0, 1) := dchk_at dall_X5_endRound_20_st00_0 (k := 4) rfl
theorem dX5_endRound_43 : decode cX5_endRound 43 = .ok (.iload_n 1, 1) := dchk_at dall_X5_endRound_20_st00_0 (k := 5) rfl
theorem dX5_endRound_44 : decode cX5_endRound 44 = .ok (.bipush 7, 2) := dchk_at dall_X5_endRound_20_st00_0 (k := 6) rfl
theorem dX5_endRound_46 : decode cX5_endRound 46 = .ok (.iconst 0, 1) := dchk_at dall_X5_endRound_20_st00_0 (k := 7) rfl
theorem dX5_endRound_47 : decode cX5_endRound 47 = .ok (.invokevirtual 52, 3) := dchk_at dall_X5_endRound_20_st00_0 (k := 8) rfl
theorem dX5_endRound_50 : decode cX5_endRound 50 = .ok (.iinc 1 1, 3) := dchk_at dall_X5_endRound_20_st00_0 (k := 9) rfl
theorem dX5_endRound_53 : decode cX5_endRound 53 = .ok (.goto (-19), 3) := dchk_at dall_X5_endRound_20_st00_0 (k := 10) rfl
theorem dX5_endRound_0 : decode cX5_endRound 0 = .ok (.aload_n 0, 1) := dchk_at dall_X5_endRound_20_st00_0 (k := 11) rfl
theorem dX5_endRound_1 : decode cX5_endRound 1 = .ok (.getfield 11, 3) := dchk_at dall_X5_endRound_20_st00_0 (k := 12) rfl
theorem dX5_endRound_4 : decode cX5_endRound 4 = .ok (.bipush 8, 2) := dchk_at dall_X5_endRound_20_st00_0 (k := 13) rfl
theorem dX5_endRound_6 : decode cX5_endRound 6 = .ok (.aload_n 0, 1) := dchk_at dall_X5_endRound_20_st00_0 (k := 14) rfl
theorem dX5_endRound_7 : decode cX5_endRound 7 = .ok (.bipush 6, 2) := dchk_at dall_X5_endRound_20_st00_0 (k := 15) rfl
theorem dX5_endRound_9 : decode cX5_endRound 9 = .ok (.invokevirtual 188, 3) := dchk_at dall_X5_endRound_20_st00_0 (k := 16) rfl
theorem dX5_endRound_12 : decode cX5_endRound 12 = .ok (.iastore, 1) := dchk_at dall_X5_endRound_20_st00_0 (k := 17) rfl
theorem dX5_endRound_13 : decode cX5_endRound 13 = .ok (.aload_n 0, 1) := dchk_at dall_X5_endRound_20_st00_0 (k := 18) rfl
theorem dX5_endRound_14 : decode cX5_endRound 14 = .ok (.getfield 11, 3) := dchk_at dall_X5_endRound_20_st00_0 (k := 19) rfl
theorem dX5_endRound_17 : decode cX5_endRound 17 = .ok (.bipush 9, 2) := dchk_at dall_X5_endRound_20_st00_0 (k := 20) rfl
theorem dX5_endRound_19 : decode cX5_endRound 19 = .ok (.iconst 0, 1) := dchk_at dall_X5_endRound_20_st00_0 (k := 21) rfl
theorem dX5_endRound_20 : decode cX5_endRound 20 = .ok (.iastore, 1) := dchk_at dall_X5_endRound_20_st00_0 (k := 22) rfl
theorem dX5_endRound_21 : decode cX5_endRound 21 = .ok (.aload_n 0, 1) := dchk_at dall_X5_endRound_20_st00_0 (k := 23) rfl
theorem dX5_endRound_22 : decode cX5_endRound 22 = .ok (.getfield 11, 3) := dchk_at dall_X5_endRound_20_st00_0 (k := 24) rfl
theorem dX5_endRound_25 : decode cX5_endRound 25 = .ok (.bipush 10, 2) := dchk_at dall_X5_endRound_20_st00_0 (k := 25) rfl
theorem dX5_endRound_27 : decode cX5_endRound 27 = .ok (.dup2, 1) := dchk_at dall_X5_endRound_20_st00_0 (k := 26) rfl
theorem dX5_endRound_28 : decode cX5_endRound 28 = .ok (.iaload, 1) := dchk_at dall_X5_endRound_20_st00_0 (k := 27) rfl
theorem dX5_endRound_29 : decode cX5_endRound 29 = .ok (.iconst 1, 1) := dchk_at dall_X5_endRound_20_st00_0 (k := 28) rfl
theorem dX5_endRound_30 : decode cX5_endRound 30 = .ok (.iadd, 1) := dchk_at dall_X5_endRound_20_st00_0 (k := 29) rfl
theorem dX5_endRound_31 : decode cX5_endRound 31 = .ok (.iastore, 1) := dchk_at dall_X5_endRound_20_st00_0 (k := 30) rfl
theorem dX5_endRound_32 : decode cX5_endRound 32 = .ok (.iconst 0, 1) := dchk_at dall_X5_endRound_20_st00_0 (k := 31) rfl
theorem dX5_endRound_33 : decode cX5_endRound 33 = .ok (.istore_n 1, 1) := dchk_at dall_X5_endRound_20_st00_0 (k := 32) rfl
theorem dX5_endRound_56 : decode cX5_endRound 56 = .ok (.return_, 1) := dchk_at dall_X5_endRound_20_st00_0 (k := 33) rfl
def dl_X5_addTo_20_st00_0 : List (Nat × Instr × Nat) := [(67, .iload 5, 2), (69, .bipush 8, 2), (71, .if_icmp .ge 82, 3), (74, .aload_n 0, 1), (75, .iload_n 1, 1), (76, .bipush 7, 2), (78, .invokevirtual 69, 3), (81, .iload_n 3, 1), (82, .if_icmp .lt 71, 3), (85, .aload_n 0, 1), (86, .iload_n 1, 1), (87, .bipush 7, 2), (89, .aload_n 0, 1), (90, .iload_n 1, 1), (91, .bipush 7, 2), (93, .invokevirtual 69, 3), (96, .iload_n 3, 1), (97, .isub, 1), (98, .invokevirtual 52, 3), (101, .aload_n 0, 1), (102, .getfield 11, 3), (105, .bipush 9, 2), (107, .dup2, 1), (108, .iaload, 1), (109, .iconst 1, 1), (110, .iadd, 1), (111, .iastore, 1), (112, .iinc 4 1, 3), (115, .aload_n 0, 1), (116, .getfield 11, 3), (119, .bipush 9, 2), (121, .iaload, 1), (122, .aload_n 0, 1), (123, .getfield 11, 3), (126, .iconst 3, 1), (127, .iaload, 1), (128, .if_icmp .lt 19, 3), (147, .iinc 5 1, 3), (150, .goto (-83), 3), (0, .aload_n 0, 1), (1, .iload_n 1, 1), (2, .bipush 6, 2), (4, .aload_n 0, 1), (5, .iload_n 1, 1), (6, .bipush 6, 2), (8, .invokevirtual 69, 3), (11, .iload_n 2, 1), (12, .iadd, 1), (13, .invokevirtual 52, 3), (16, .aload_n 0, 1)]
set_option maxRecDepth 100000 in
theorem dall_X5_addTo_20_st00_0 : dchk cX5_addTo dl_X5_addTo_20_st00_0 = true := by decide +kernel
theorem dX5_addTo_67 : decode cX5_addTo 67 = .ok (.iload 5, 2) := dchk_at dall_X5_addTo_20_st00_0 (k := 0) rfl
theorem dX5_addTo_69 : decode cX5_addTo 69 = .ok (.bipush 8, 2) := dchk_at dall_X5_addTo_20_st00_0 (k := 1) rfl
theorem dX5_addTo_71 : decode cX5_addTo 71 = .ok (.if_icmp .ge 82, 3) := dchk_at dall_X5_addTo_20_st00_0 (k := 2) rfl
theorem dX5_addTo_74 : decode cX5_addTo 74 = .ok (.aload_n 0, 1) := dchk_at dall_X5_addTo_20_st00_0 (k := 3) rfl
theorem dX5_addTo_75 : decode cX5_addTo 75 = .ok (.iload_n 1, 1) := dchk_at dall_X5_addTo_20_st00_0 (k := 4) rfl
theorem dX5_addTo_76 : decode cX5_addTo 76 = .ok (.bipush 7, 2) := dchk_at dall_X5_addTo_20_st00_0 (k := 5) rfl
theorem dX5_addTo_78 : decode cX5_addTo 78 = .ok (.invokevirtual 69, 3) := dchk_at dall_X5_addTo_20_st00_0 (k := 6) rfl
theorem dX5_addTo_81 : decode cX5_addTo 81 = .ok (.iload_n 3, 1) := dchk_at dall_X5_addTo_20_st00_0 (k := 7) rfl
theorem dX5_addTo_82 : decode cX5_addTo 82 = .ok (.if_icmp .lt 71, 3) := dchk_at dall_X5_addTo_20_st00_0 (k := 8) rfl
theorem dX5_addTo_85 : decode cX5_addTo 85 = .ok (.aload_n 0, 1) := dchk_at dall_X5_addTo_20_st00_0 (k := 9) rfl
theorem dX5_addTo_86 : decode cX5_addTo 86 = .ok (.iload_n 1, 1) := dchk_at dall_X5_addTo_20_st00_0 (k := 10) rfl
theorem dX5_addTo_87 : decode cX5_addTo 87 = .ok (.bipush 7, 2) := dchk_at dall_X5_addTo_20_st00_0 (k := 11) rfl
theorem dX5_addTo_89 : decode cX5_addTo 89 = .ok (.aload_n 0, 1) := dchk_at dall_X5_addTo_20_st00_0 (k := 12) rfl
theorem dX5_addTo_90 : decode cX5_addTo 90 = .ok (.iload_n 1, 1) := dchk_at dall_X5_addTo_20_st00_0 (k := 13) rfl
theorem dX5_addTo_91 : decode cX5_addTo 91 = .ok (.bipush 7, 2) := dchk_at dall_X5_addTo_20_st00_0 (k := 14) rfl
theorem dX5_addTo_93 : decode cX5_addTo 93 = .ok (.invokevirtual 69, 3) := dchk_at dall_X5_addTo_20_st00_0 (k := 15) rfl
theorem dX5_addTo_96 : decode cX5_addTo 96 = .ok (.iload_n 3, 1) := dchk_at dall_X5_addTo_20_st00_0 (k := 16) rfl
theorem dX5_addTo_97 : decode cX5_addTo 97 = .ok (.isub, 1) := dchk_at dall_X5_addTo_20_st00_0 (k := 17) rfl
theorem dX5_addTo_98 : decode cX5_addTo 98 = .ok (.invokevirtual 52, 3) := dchk_at dall_X5_addTo_20_st00_0 (k := 18) rfl
theorem dX5_addTo_101 : decode cX5_addTo 101 = .ok (.aload_n 0, 1) := dchk_at dall_X5_addTo_20_st00_0 (k := 19) rfl
theorem dX5_addTo_102 : decode cX5_addTo 102 = .ok (.getfield 11, 3) := dchk_at dall_X5_addTo_20_st00_0 (k := 20) rfl
theorem dX5_addTo_105 : decode cX5_addTo 105 = .ok (.bipush 9, 2) := dchk_at dall_X5_addTo_20_st00_0 (k := 21) rfl
theorem dX5_addTo_107 : decode cX5_addTo 107 = .ok (.dup2, 1) := dchk_at dall_X5_addTo_20_st00_0 (k := 22) rfl
theorem dX5_addTo_108 : decode cX5_addTo 108 = .ok (.iaload, 1) := dchk_at dall_X5_addTo_20_st00_0 (k := 23) rfl
theorem dX5_addTo_109 : decode cX5_addTo 109 = .ok (.iconst 1, 1) := dchk_at dall_X5_addTo_20_st00_0 (k := 24) rfl
theorem dX5_addTo_110 : decode cX5_addTo 110 = .ok (.iadd, 1) := dchk_at dall_X5_addTo_20_st00_0 (k := 25) rfl
theorem dX5_addTo_111 : decode cX5_addTo 111 = .ok (.iastore, 1) := dchk_at dall_X5_addTo_20_st00_0 (k := 26) rfl
theorem dX5_addTo_112 : decode cX5_addTo 112 = .ok (.iinc 4 1, 3) := dchk_at dall_X5_addTo_20_st00_0 (k := 27) rfl
theorem dX5_addTo_115 : decode cX5_addTo 115 = .ok (.aload_n 0, 1) := dchk_at dall_X5_addTo_20_st00_0 (k := 28) rfl
theorem dX5_addTo_116 : decode cX5_addTo 116 = .ok (.getfield 11, 3) := dchk_at dall_X5_addTo_20_st00_0 (k := 29) rfl
theorem dX5_addTo_119 : decode cX5_addTo 119 = .ok (.bipush 9, 2) := dchk_at dall_X5_addTo_20_st00_0 (k := 30) rfl
theorem dX5_addTo_121 : decode cX5_addTo 121 = .ok (.iaload, 1) := dchk_at dall_X5_addTo_20_st00_0 (k := 31) rfl
theorem dX5_addTo_122 : decode cX5_addTo 122 = .ok (.aload_n 0, 1) := dchk_at dall_X5_addTo_20_st00_0 (k := 32) rfl
theorem dX5_addTo_123 : decode cX5_addTo 123 = .ok (.getfield 11, 3) := dchk_at dall_X5_addTo_20_st00_0 (k := 33) rfl
theorem dX5_addTo_126 : decode cX5_addTo 126 = .ok (.iconst 3, 1) := dchk_at dall_X5_addTo_20_st00_0 (k := 34) rfl
theorem dX5_addTo_127 : decode cX5_addTo 127 = .ok (.iaload, 1) := dchk_at dall_X5_addTo_20_st00_0 (k := 35) rfl
theorem dX5_addTo_128 : decode cX5_addTo 128 = .ok (.if_icmp .lt 19, 3) := dchk_at dall_X5_addTo_20_st00_0 (k := 36) rfl
theorem dX5_addTo_147 : decode cX5_addTo 147 = .ok (.iinc 5 1, 3) := dchk_at dall_X5_addTo_20_st00_0 (k := 37) rfl
theorem dX5_addTo_150 : decode cX5_addTo 150 = .ok (.goto (-83), 3) := dchk_at dall_X5_addTo_20_st00_0 (k := 38) rfl
theorem dX5_addTo_0 : decode cX5_addTo 0 = .ok (.aload_n 0, 1) := dchk_at dall_X5_addTo_20_st00_0 (k := 39) rfl
theorem dX5_addTo_1 : decode cX5_addTo 1 = .ok (.iload_n 1, 1) := dchk_at dall_X5_addTo_20_st00_0 (k := 40) rfl
theorem dX5_addTo_2 : decode cX5_addTo 2 = .ok (.bipush 6, 2) := dchk_at dall_X5_addTo_20_st00_0 (k := 41) rfl
theorem dX5_addTo_4 : decode cX5_addTo 4 = .ok (.aload_n 0, 1) := dchk_at dall_X5_addTo_20_st00_0 (k := 42) rfl
theorem dX5_addTo_5 : decode cX5_addTo 5 = .ok (.iload_n 1, 1) := dchk_at dall_X5_addTo_20_st00_0 (k := 43) rfl
theorem dX5_addTo_6 : decode cX5_addTo 6 = .ok (.bipush 6, 2) := dchk_at dall_X5_addTo_20_st00_0 (k := 44) rfl
theorem dX5_addTo_8 : decode cX5_addTo 8 = .ok (.invokevirtual 69, 3) := dchk_at dall_X5_addTo_20_st00_0 (k := 45) rfl
theorem dX5_addTo_11 : decode cX5_addTo 11 = .ok (.iload_n 2, 1) := dchk_at dall_X5_addTo_20_st00_0 (k := 46) rfl
theorem dX5_addTo_12 : decode cX5_addTo 12 = .ok (.iadd, 1) := dchk_at dall_X5_addTo_20_st00_0 (k := 47) rfl
theorem dX5_addTo_13 : decode cX5_addTo 13 = .ok (.invokevirtual 52, 3) := dchk_at dall_X5_addTo_20_st00_0 (k := 48) rfl
theorem dX5_addTo_16 : decode cX5_addTo 16 = .ok (.aload_n 0, 1) := dchk_at dall_X5_addTo_20_st00_0 (k := 49) rfl
def dl_X5_addTo_20_st00_1 : List (Nat × Instr × Nat) := [(17, .aload_n 0, 1), (18, .getfield 11, 3), (21, .bipush 8, 2), (23, .iaload, 1), (24, .invokevirtual 182, 3), (27, .istore_n 3, 1), (28, .iload_n 3, 1), (29, .ifCond .ne 16, 3), (45, .aload_n 0, 1), (46, .iload_n 1, 1), (47, .bipush 7, 2), (49, .aload_n 0, 1), (50, .iload_n 1, 1), (51, .bipush 7, 2), (53, .invokevirtual 69, 3), (56, .iload_n 2, 1), (57, .iadd, 1), (58, .invokevirtual 52, 3), (61, .iconst 0, 1), (62, .istore 4, 2), (64, .iconst 0, 1), (65, .istore 5, 2), (131, .aload_n 0, 1), (132, .invokevirtual 185, 3), (135, .iload 4, 2), (137, .iconst 2, 1), (138, .aload_n 0, 1), (139, .getfield 11, 3), (142, .iconst 3, 1), (143, .iaload, 1), (144, .imul, 1), (145, .iadd, 1), (146, .ireturn, 1), (153, .iload 4, 2), (155, .ireturn, 1), (32, .aload_n 0, 1), (33, .getfield 11, 3), (36, .bipush 8, 2), (38, .dup2, 1), (39, .iaload, 1), (40, .iload_n 2, 1), (41, .iadd, 1), (42, .iastore, 1), (43, .iconst 1, 1), (44, .ireturn, 1)]
set_option maxRecDepth 100000 in
theorem dall_X5_addTo_20_st00_1 : dchk cX5_addTo dl_X5_addTo_20_st00_1 = true := by decide +kernel
theorem dX5_addTo_17 : decode cX5_addTo 17 = .ok (.aload_n 0, 1) := dchk_at dall_X5_addTo_20_st00_1 (k := 0) rfl
theorem dX5_addTo_18 : decode cX5_addTo 18 = .ok (.getfield 11, 3) := dchk_at dall_X5_addTo_20_st00_1 (k := 1) rfl
theorem dX5_addTo_21 : decode cX5_addTo 21 = .ok (.bipush 8, 2) := dchk_at dall_X5_addTo_20_st00_1 (k := 2) rfl
theorem dX5_addTo_23 : decode cX5_addTo 23 = .ok (.iaload, 1) := dchk_at dall_X5_addTo_20_st00_1 (k := 3) rfl
theorem dX5_addTo_24 : decode cX5_addTo 24 = .ok (.invokevirtual 182, 3) := dchk_at dall_X5_addTo_20_st00_1 (k := 4) rfl
theorem dX5_addTo_27 : decode cX5_addTo 27 = .ok (.istore_n 3, 1) := dchk_at dall_X5_addTo_20_st00_1 (k := 5) rfl
theorem dX5_addTo_28 : decode cX5_addTo 28 = .ok (.iload_n 3, 1) := dchk_at dall_X5_addTo_20_st00_1 (k := 6) rfl
theorem dX5_addTo_29 : decode cX5_addTo 29 = .ok (.ifCond .ne 16, 3) := dchk_at dall_X5_addTo_20_st00_1 (k := 7) rfl
theorem dX5_addTo_45 : decode cX5_addTo 45 = .ok (.aload_n 0, 1) := dchk_at dall_X5_addTo_20_st00_1 (k := 8) rfl
theorem dX5_addTo_46 : decode cX5_addTo 46 = .ok (.iload_n 1, 1) := dchk_at dall_X5_addTo_20_st00_1 (k := 9) rfl
theorem dX5_addTo_47 : decode cX5_addTo 47 = .ok (.bipush 7, 2) := dchk_at dall_X5_addTo_20_st00_1 (k := 10) rfl
theorem dX5_addTo_49 : decode cX5_addTo 49 = .ok (.aload_n 0, 1) := dchk_at dall_X5_addTo_20_st00_1 (k := 11) rfl
theorem dX5_addTo_50 : decode cX5_addTo 50 = .ok (.iload_n 1, 1) := dchk_at dall_X5_addTo_20_st00_1 (k := 12) rfl
theorem dX5_addTo_51 : decode cX5_addTo 51 = .ok (.bipush 7, 2) := dchk_at dall_X5_addTo_20_st00_1 (k := 13) rfl
theorem dX5_addTo_53 : decode cX5_addTo 53 = .ok (.invokevirtual 69, 3) := dchk_at dall_X5_addTo_20_st00_1 (k := 14) rfl
theorem dX5_addTo_56 : decode cX5_addTo 56 = .ok (.iload_n 2, 1) := dchk_at dall_X5_addTo_20_st00_1 (k := 15) rfl
theorem dX5_addTo_57 : decode cX5_addTo 57 = .ok (.iadd, 1) := dchk_at dall_X5_addTo_20_st00_1 (k := 16) rfl
theorem dX5_addTo_58 : decode cX5_addTo 58 = .ok (.invokevirtual 52, 3) := dchk_at dall_X5_addTo_20_st00_1 (k := 17) rfl
theorem dX5_addTo_61 : decode cX5_addTo 61 = .ok (.iconst 0, 1) := dchk_at dall_X5_addTo_20_st00_1 (k := 18) rfl
theorem dX5_addTo_62 : decode cX5_addTo 62 = .ok (.istore 4, 2) := dchk_at dall_X5_addTo_20_st00_1 (k := 19) rfl
theorem dX5_addTo_64 : decode cX5_addTo 64 = .ok (.iconst 0, 1) := dchk_at dall_X5_addTo_20_st00_1 (k := 20) rfl
theorem dX5_addTo_65 : decode cX5_addTo 65 = .ok (.istore 5, 2) := dchk_at dall_X5_addTo_20_st00_1 (k := 21) rfl
theorem dX5_addTo_131 : decode cX5_addTo 131 = .ok (.aload_n 0, 1) := dchk_at dall_X5_addTo_20_st00_1 (k := 22) rfl
theorem dX5_addTo_132 : decode cX5_addTo 132 = .ok (.invokevirtual 185, 3) := dchk_at dall_X5_addTo_20_st00_1 (k := 23) rfl
theorem dX5_addTo_135 : decode cX5_addTo 135 = .ok (.iload 4, 2) := dchk_at dall_X5_addTo_20_st00_1 (k := 24) rfl
theorem dX5_addTo_137 : decode cX5_addTo 137 = .ok (.iconst 2, 1) := dchk_at dall_X5_addTo_20_st00_1 (k := 25) rfl
theorem dX5_addTo_138 : decode cX5_addTo 138 = .ok (.aload_n 0, 1) := dchk_at dall_X5_addTo_20_st00_1 (k := 26) rfl
theorem dX5_addTo_139 : decode cX5_addTo 139 = .ok (.getfield 11, 3) := dchk_at dall_X5_addTo_20_st00_1 (k := 27) rfl
theorem dX5_addTo_142 : decode cX5_addTo 142 = .ok (.iconst 3, 1) := dchk_at dall_X5_addTo_20_st00_1 (k := 28) rfl
theorem dX5_addTo_143 : decode cX5_addTo 143 = .ok (.iaload, 1) := dchk_at dall_X5_addTo_20_st00_1 (k := 29) rfl
theorem dX5_addTo_144 : decode cX5_addTo 144 = .ok (.imul, 1) := dchk_at dall_X5_addTo_20_st00_1 (k := 30) rfl
theorem dX5_addTo_145 : decode cX5_addTo 145 = .ok (.iadd, 1) := dchk_at dall_X5_addTo_20_st00_1 (k := 31) rfl
theorem dX5_addTo_146 : decode cX5_addTo 146 = .ok (.ireturn, 1) := dchk_at dall_X5_addTo_20_st00_1 (k := 32) rfl
theorem dX5_addTo_153 : decode cX5_addTo 153 = .ok (.iload 4, 2) := dchk_at dall_X5_addTo_20_st00_1 (k := 33) rfl
theorem dX5_addTo_155 : decode cX5_addTo 155 = .ok (.ireturn, 1) := dchk_at dall_X5_addTo_20_st00_1 (k := 34) rfl
theorem dX5_addTo_32 : decode cX5_addTo 32 = .ok (.aload_n 0, 1) := dchk_at dall_X5_addTo_20_st00_1 (k := 35) rfl
theorem dX5_addTo_33 : decode cX5_addTo 33 = .ok (.getfield 11, 3) := dchk_at dall_X5_addTo_20_st00_1 (k := 36) rfl
theorem dX5_addTo_36 : decode cX5_addTo 36 = .ok (.bipush 8, 2) := dchk_at dall_X5_addTo_20_st00_1 (k := 37) rfl
theorem dX5_addTo_38 : decode cX5_addTo 38 = .ok (.dup2, 1) := dchk_at dall_X5_addTo_20_st00_1 (k := 38) rfl
theorem dX5_addTo_39 : decode cX5_addTo 39 = .ok (.iaload, 1) := dchk_at dall_X5_addTo_20_st00_1 (k := 39) rfl
theorem dX5_addTo_40 : decode cX5_addTo 40 = .ok (.iload_n 2, 1) := dchk_at dall_X5_addTo_20_st00_1 (k := 40) rfl
theorem dX5_addTo_41 : decode cX5_addTo 41 = .ok (.iadd, 1) := dchk_at dall_X5_addTo_20_st00_1 (k := 41) rfl
theorem dX5_addTo_42 : decode cX5_addTo 42 = .ok (.iastore, 1) := dchk_at dall_X5_addTo_20_st00_1 (k := 42) rfl
theorem dX5_addTo_43 : decode cX5_addTo 43 = .ok (.iconst 1, 1) := dchk_at dall_X5_addTo_20_st00_1 (k := 43) rfl
theorem dX5_addTo_44 : decode cX5_addTo 44 = .ok (.ireturn, 1) := dchk_at dall_X5_addTo_20_st00_1 (k := 44) rfl
def dl_X5_valueOf_20_st00_0 : List (Nat × Instr × Nat) := [(26, .lstore 7, 2), (28, .aload_n 0, 1), (29, .getfield 11, 3), (32, .iconst 0, 1), (33, .iaload, 1), (34, .tableswitch 56 1 3 #[26, 34, 50], 26), (60, .lload_n 1, 1), (61, .lload_n 1, 1), (62, .lmul, 1), (63, .lload_n 3, 1), (64, .lload_n 3, 1), (65, .lmul, 1), (66, .ladd, 1), (67, .lreturn, 1), (68, .lload 5, 2), (70, .lload 7, 2), (72, .lcmp, 1), (73, .ifCond .le 8, 3), (81, .lload 7, 2), (83, .lreturn, 1), (76, .lload 5, 2), (78, .goto 5, 3), (84, .lload 5, 2), (86, .lload 7, 2), (88, .ladd, 1), (89, .lreturn, 1), (90, .lload_n 1, 1), (91, .lload_n 3, 1), (92, .ladd, 1), (93, .lreturn, 1), (12, .lstore 5, 2), (14, .lload_n 3, 1), (15, .lconst 0, 1), (16, .lcmp, 1), (17, .ifCond .ge 8, 3), (25, .lload_n 3, 1), (20, .lload_n 3, 1), (21, .lneg, 1), (22, .goto 4, 3), (0, .lload_n 1, 1), (1, .lconst 0, 1), (2, .lcmp, 1), (3, .ifCond .ge 8, 3), (11, .lload_n 1, 1), (6, .lload_n 1, 1), (7, .lneg, 1), (8, .goto 4, 3)]
set_option maxRecDepth 100000 in
theorem dall_X5_valueOf_20_st00_0 : dchk cX5_valueOf dl_X5_valueOf_20_st00_0 = true := by decide +kernel
theorem dX5_valueOf_26 : decode cX5_valueOf 26 = .ok (.lstore 7, 2) := dchk_at dall_X5_valueOf_20_st00_0 (k := 0) rfl
theorem dX5_valueOf_28 : decode cX5_valueOf 28 = .ok (.aload_n 0, 1) := dchk_at dall_X5_valueOf_20_st00_0 (k := 1) rfl
theorem dX5_valueOf_29 : decode cX5_valueOf 29 = .ok (.getfield 11, 3) := dchk_at dall_X5_valueOf_20_st00_0 (k := 2) rfl
theorem dX5_valueOf_32 : decode cX5_valueOf 32 = .ok (.iconst 0, 1) := dchk_at dall_X5_valueOf_20_st00_0 (k := 3) rfl
theorem dX5_valueOf_33 : decode cX5_valueOf 33 = .ok (.iaload, 1) := dchk_at dall_X5_valueOf_20_st00_0 (k := 4) rfl
theorem dX5_valueOf_34 : decode cX5_valueOf 34 = .ok (.tableswitch 56 1 3 #[26, 34, 50], 26) := dchk_at dall_X5_valueOf_20_st00_0 (k := 5) rfl
theorem dX5_valueOf_60 : decode cX5_valueOf 60 = .ok (.lload_n 1, 1) := dchk_at dall_X5_valueOf_20_st00_0 (k := 6) rfl
theorem dX5_valueOf_61 : decode cX5_valueOf 61 = .ok (.lload_n 1, 1) := dchk_at dall_X5_valueOf_20_st00_0 (k := 7) rfl
theorem dX5_valueOf_62 : decode cX5_valueOf 62 = .ok (.lmul, 1) := dchk_at dall_X5_valueOf_20_st00_0 (k := 8) rfl
theorem dX5_valueOf_63 : decode cX5_valueOf 63 = .ok (.lload_n 3, 1) := dchk_at dall_X5_valueOf_20_st00_0 (k := 9) rfl
theorem dX5_valueOf_64 : decode cX5_valueOf 64 = .ok (.lload_n 3, 1) := dchk_at dall_X5_valueOf_20_st00_0 (k := 10) rfl
theorem dX5_valueOf_65 : decode cX5_valueOf 65 = .ok (.lmul, 1) := dchk_at dall_X5_valueOf_20_st00_0 (k := 11) rfl
theorem dX5_valueOf_66 : decode cX5_valueOf 66 = .ok (.ladd, 1) := dchk_at dall_X5_valueOf_20_st00_0 (k := 12) rfl
theorem dX5_valueOf_67 : decode cX5_valueOf 67 = .ok (.lreturn, 1) := dchk_at dall_X5_valueOf_20_st00_0 (k := 13) rfl
theorem dX5_valueOf_68 : decode cX5_valueOf 68 = .ok (.lload 5, 2) := dchk_at dall_X5_valueOf_20_st00_0 (k := 14) rfl
theorem dX5_valueOf_70 : decode cX5_valueOf 70 = .ok (.lload 7, 2) := dchk_at dall_X5_valueOf_20_st00_0 (k := 15) rfl
theorem dX5_valueOf_72 : decode cX5_valueOf 72 = .ok (.lcmp, 1) := dchk_at dall_X5_valueOf_20_st00_0 (k := 16) rfl
theorem dX5_valueOf_73 : decode cX5_valueOf 73 = .ok (.ifCond .le 8, 3) := dchk_at dall_X5_valueOf_20_st00_0 (k := 17) rfl
theorem dX5_valueOf_81 : decode cX5_valueOf 81 = .ok (.lload 7, 2) := dchk_at dall_X5_valueOf_20_st00_0 (k := 18) rfl
theorem dX5_valueOf_83 : decode cX5_valueOf 83 = .ok (.lreturn, 1) := dchk_at dall_X5_valueOf_20_st00_0 (k := 19) rfl
theorem dX5_valueOf_76 : decode cX5_valueOf 76 = .ok (.lload 5, 2) := dchk_at dall_X5_valueOf_20_st00_0 (k := 20) rfl
theorem dX5_valueOf_78 : decode cX5_valueOf 78 = .ok (.goto 5, 3) := dchk_at dall_X5_valueOf_20_st00_0 (k := 21) rfl
theorem dX5_valueOf_84 : decode cX5_valueOf 84 = .ok (.lload 5, 2) := dchk_at dall_X5_valueOf_20_st00_0 (k := 22) rfl
theorem dX5_valueOf_86 : decode cX5_valueOf 86 = .ok (.lload 7, 2) := dchk_at dall_X5_valueOf_20_st00_0 (k := 23) rfl
theorem dX5_valueOf_88 : decode cX5_valueOf 88 = .ok (.ladd, 1) := dchk_at dall_X5_valueOf_20_st00_0 (k := 24) rfl
theorem dX5_valueOf_89 : decode cX5_valueOf 89 = .ok (.lreturn, 1) := dchk_at dall_X5_valueOf_20_st00_0 (k := 25) rfl
theorem dX5_valueOf_90 : decode cX5_valueOf 90 = .ok (.lload_n 1, 1) := dchk_at dall_X5_valueOf_20_st00_0 (k := 26) rfl
theorem dX5_valueOf_91 : decode cX5_valueOf 91 = .ok (.lload_n 3, 1) := dchk_at dall_X5_valueOf_20_st00_0 (k := 27) rfl
theorem dX5_valueOf_92 : decode cX5_valueOf 92 = .ok (.ladd, 1) := dchk_at dall_X5_valueOf_20_st00_0 (k := 28) rfl
theorem dX5_valueOf_93 : decode cX5_valueOf 93 = .ok (.lreturn, 1) := dchk_at dall_X5_valueOf_20_st00_0 (k := 29) rfl
theorem dX5_valueOf_12 : decode cX5_valueOf 12 = .ok (.lstore 5, 2) := dchk_at dall_X5_valueOf_20_st00_0 (k := 30) rfl
theorem dX5_valueOf_14 : decode cX5_valueOf 14 = .ok (.lload_n 3, 1) := dchk_at dall_X5_valueOf_20_st00_0 (k := 31) rfl
theorem dX5_valueOf_15 : decode cX5_valueOf 15 = .ok (.lconst 0, 1) := dchk_at dall_X5_valueOf_20_st00_0 (k := 32) rfl
theorem dX5_valueOf_16 : decode cX5_valueOf 16 = .ok (.lcmp, 1) := dchk_at dall_X5_valueOf_20_st00_0 (k := 33) rfl
theorem dX5_valueOf_17 : decode cX5_valueOf 17 = .ok (.ifCond .ge 8, 3) := dchk_at dall_X5_valueOf_20_st00_0 (k := 34) rfl
theorem dX5_valueOf_25 : decode cX5_valueOf 25 = .ok (.lload_n 3, 1) := dchk_at dall_X5_valueOf_20_st00_0 (k := 35) rfl
theorem dX5_valueOf_20 : decode cX5_valueOf 20 = .ok (.lload_n 3, 1) := dchk_at dall_X5_valueOf_20_st00_0 (k := 36) rfl
theorem dX5_valueOf_21 : decode cX5_valueOf 21 = .ok (.lneg, 1) := dchk_at dall_X5_valueOf_20_st00_0 (k := 37) rfl
theorem dX5_valueOf_22 : decode cX5_valueOf 22 = .ok (.goto 4, 3) := dchk_at dall_X5_valueOf_20_st00_0 (k := 38) rfl
theorem dX5_valueOf_0 : decode cX5_valueOf 0 = .ok (.lload_n 1, 1) := dchk_at dall_X5_valueOf_20_st00_0 (k := 39) rfl
theorem dX5_valueOf_1 : decode cX5_valueOf 1 = .ok (.lconst 0, 1) := dchk_at dall_X5_valueOf_20_st00_0 (k := 40) rfl
theorem dX5_valueOf_2 : decode cX5_valueOf 2 = .ok (.lcmp, 1) := dchk_at dall_X5_valueOf_20_st00_0 (k := 41) rfl
theorem dX5_valueOf_3 : decode cX5_valueOf 3 = .ok (.ifCond .ge 8, 3) := dchk_at dall_X5_valueOf_20_st00_0 (k := 42) rfl
theorem dX5_valueOf_11 : decode cX5_valueOf 11 = .ok (.lload_n 1, 1) := dchk_at dall_X5_valueOf_20_st00_0 (k := 43) rfl
theorem dX5_valueOf_6 : decode cX5_valueOf 6 = .ok (.lload_n 1, 1) := dchk_at dall_X5_valueOf_20_st00_0 (k := 44) rfl
theorem dX5_valueOf_7 : decode cX5_valueOf 7 = .ok (.lneg, 1) := dchk_at dall_X5_valueOf_20_st00_0 (k := 45) rfl
theorem dX5_valueOf_8 : decode cX5_valueOf 8 = .ok (.goto 4, 3) := dchk_at dall_X5_valueOf_20_st00_0 (k := 46) rfl
def dl_X5_allows_20_st00_0 : List (Nat × Instr × Nat) := [(0, .aload_n 0, 1), (1, .lload_n 1, 1), (2, .lload_n 3, 1), (3, .invokevirtual 75, 3), (6, .aload_n 0, 1), (7, .getfield 11, 3), (10, .iconst 1, 1), (11, .iaload, 1), (12, .i2l, 1), (13, .lcmp, 1), (14, .ifCond .ge 7, 3), (21, .iconst 0, 1), (22, .ireturn, 1), (17, .iconst 1, 1), (18, .goto 4, 3)]
set_option maxRecDepth 100000 in
theorem dall_X5_allows_20_st00_0 : dchk cX5_allows dl_X5_allows_20_st00_0 = true := by decide +kernel
theorem dX5_allows_0 : decode cX5_allows 0 = .ok (.aload_n 0, 1) := dchk_at dall_X5_allows_20_st00_0 (k := 0) rfl
theorem dX5_allows_1 : decode cX5_allows 1 = .ok (.lload_n 1, 1) := dchk_at dall_X5_allows_20_st00_0 (k := 1) rfl
theorem dX5_allows_2 : decode cX5_allows 2 = .ok (.lload_n 3, 1) := dchk_at dall_X5_allows_20_st00_0 (k := 2) rfl
theorem dX5_allows_3 : decode cX5_allows 3 = .ok (.invokevirtual 75, 3) := dchk_at dall_X5_allows_20_st00_0 (k := 3) rfl
theorem dX5_allows_6 : decode cX5_allows 6 = .ok (.aload_n 0, 1) := dchk_at dall_X5_allows_20_st00_0 (k := 4) rfl
theorem dX5_allows_7 : decode cX5_allows 7 = .ok (.getfield 11, 3) := dchk_at dall_X5_allows_20_st00_0 (k := 5) rfl
theorem dX5_allows_10 : decode cX5_allows 10 = .ok (.iconst 1, 1) := dchk_at dall_X5_allows_20_st00_0 (k := 6) rfl
theorem dX5_allows_11 : decode cX5_allows 11 = .ok (.iaload, 1) := dchk_at dall_X5_allows_20_st00_0 (k := 7) rfl
theorem dX5_allows_12 : decode cX5_allows 12 = .ok (.i2l, 1) := dchk_at dall_X5_allows_20_st00_0 (k := 8) rfl
theorem dX5_allows_13 : decode cX5_allows 13 = .ok (.lcmp, 1) := dchk_at dall_X5_allows_20_st00_0 (k := 9) rfl
theorem dX5_allows_14 : decode cX5_allows 14 = .ok (.ifCond .ge 7, 3) := dchk_at dall_X5_allows_20_st00_0 (k := 10) rfl
theorem dX5_allows_21 : decode cX5_allows 21 = .ok (.iconst 0, 1) := dchk_at dall_X5_allows_20_st00_0 (k := 11) rfl
theorem dX5_allows_22 : decode cX5_allows 22 = .ok (.ireturn, 1) := dchk_at dall_X5_allows_20_st00_0 (k := 12) rfl
theorem dX5_allows_17 : decode cX5_allows 17 = .ok (.iconst 1, 1) := dchk_at dall_X5_allows_20_st00_0 (k := 13) rfl
theorem dX5_allows_18 : decode cX5_allows 18 = .ok (.goto 4, 3) := dchk_at dall_X5_allows_20_st00_0 (k := 14) rfl
def F_X5_hasSite (p1 : Int32) (c_row : Nat → Int32) : Option (Int32) :=
  if p1 < (0 : Int32) then some (0 : Int32) else if c_row 3 ≤ p1 then some (0 : Int32) else if (8 : Int32) ≤ p1 then some (0 : Int32) else some (1 : Int32)
abbrev w_X5_hasSite (E : EE) (a_ a_row a_partners a_share a_leftOver : Nat) (c_askedCount : Int32) (c_outcome : Int32) (c_row : Nat → Int32) : va_W := [(a_, .inr (6, [.ref a_row, .ref a_partners, .int c_askedCount, .int c_outcome, .ref a_share, .ref a_leftOver])), (a_row, .inl (E.2.1, 81, .inl c_row))]
def v_f_X5_hasSite : List Cond := List.cons (.code yX5_hasSite cX5_hasSite 2 (some .boolean)) (HAppend.hAppend (α := List Cond) (β := List Cond) (γ := List Cond) [.fieldLink RX5 11 "HushWatch$State" "row" "[I"] (HAppend.hAppend (α := List Cond) (β := List Cond) (γ := List Cond) wsX50 []))
theorem gw_f_X5_hasSite : v_f_X5_hasSite.all goodWord = true := by decide +kernel
theorem i_f_X5_hasSite_X5 : ∀ w ∈ wsX50, w ∈ v_f_X5_hasSite := fun _ h => List.mem_cons_of_mem _ (List.mem_append_right _ (List.mem_append_left _ h))
theorem hd_X5_hasSite : yX5_hasSite.cls = RX5 ∧ yX5_hasSite.cls ≠ "java/lang/invoke/MethodHandle" ∧ yX5_hasSite.cls ≠ "java/lang/invoke/VarHandle" ∧ (parseMethodDescriptor yX5_hasSite.desc).map (fun d => d.parameters.length) = some 1 := by decide +kernel
set_option maxHeartbeats 4000000 in
set_option maxRecDepth 100000 in
theorem f_X5_hasSite (l : Launch) (E : EE) {a_ a_row a_partners a_share a_leftOver : Nat} {p1 : Int32} {c_askedCount : Int32} {c_outcome : Int32} {c_row : Nat → Int32} {rr : Int32} (hF : F_X5_hasSite p1 c_row = some rr) : Met l yX5_hasSite v_f_X5_hasSite (({ frames := 0, cells := 0, slots := 0, locals := 0 } : Room)) (va_Pc [.ref a_, .int p1] (pP E (w_X5_hasSite E a_ a_row a_partners a_share a_leftOver c_askedCount c_outcome c_row))) (vp_Si (fun q : Int32 => q = rr ∧ (q = 0 ∨ q = 1))) 0 0 (fun _ => False) := by
  refine Met.ofW (cc := cX5_hasSite) (maxL := 2) (ret := (some .boolean)) (by decide) rfl ?_
  intro p e s m args below meth c s₁ B hml hv
  obtain ⟨rfl, ⟨hK, hN⟩, hP⟩ := hv
  have hx := B.exec
  have hb := B.bytes
  have hr := B.returns
  have hts := atoms_spec (ws := v_f_X5_hasSite) B.pre
  have hown : s.vm.findClass RX5 = some m.cls := own_of hd_X5_hasSite.1 (findClass_of_methodNamed B.named)
  have hlocks : meth.locks = false := B.notSynchronized
  replace hP : va_P E.1 vwCl [(a_, .inr (6, [.ref a_row, .ref a_partners, .int c_askedCount, .int c_outcome, .ref a_share, .ref a_leftOver])), (a_row, .inl (E.2.1, 81, .inl c_row))] s.heap := hP
  have hl := lv_entry ([.ref a_, .int p1]) (n := 2) (Nat.le_of_ble_eq_true rfl)
  rw [lg_entry_eq]
  generalize (lg_sl ([.ref a_, .int p1]) ++ List.replicate (2 - (lg_sl ([.ref a_, .int p1])).length) Slot.unset).toArray = ls at hl ⊢
  have hl : lv_has ls 2 [(0, .ref a_), (1, .int p1)] := hl
  obtain ⟨Q, hQ⟩ : ∃ Q : State → Prop, Q = MQ below (vp_Si (fun q : Int32 => q = rr ∧ (q = 0 ∨ q = 1))) #[Value.ref a_, Value.int p1] s 0 0 (fun _ => False) := ⟨_, rfl⟩
  rw [← hQ]
  change W p l e ({ frames := 0, cells := 0, slots := 0, locals := 0 } : Room) s m #[Value.ref a_, Value.int p1] below meth c s.heap [] 0 0 Q (F0 m 0 ls [])
  unfold F_X5_hasSite at hF
  refine lv_iload_n hx hb dX5_hasSite_0 rfl (lv_at hl 1 rfl) ?_
  refine lv_if_lt (tgt := 24) hx hb dX5_hasSite_1 (by decide) (fun c_1 => ?_) (fun c_1 => ?_)
  ·
    replace hF := ip c_1 hF
    refine lv_iconst (v := 0) hx hb dX5_hasSite_24 (by decide) ?_
    rw [hQ]
    obtain e9_0 := inj1 hF
    exact W.zret (v := (0 : Int32)) hx hb hr rfl (fun tt ht hW => ⟨_, rfl, ⟨e9_0, Or.inl rfl⟩, ht⟩) (fun _ h => by cases h) dX5_hasSite_25
  ·
    replace hF := inn c_1 hF
    refine lv_iload_n hx hb dX5_hasSite_4 rfl (lv_at hl 1 rfl) ?_
    refine lv_aload_n hx hb dX5_hasSite_5 rfl (lv_at hl 0 rfl) ?_
    refine gt_X5_0 (v := .ref a_row) hx hb hts i_f_X5_hasSite_X5 hown hK hP 0 rfl (hts (.fieldLink RX5 11 "HushWatch$State" "row" "[I") (List.mem_of_getElem? (i := 1) rfl)) rfl dX5_hasSite_6 ?_
    refine lv_iconst (v := 3) hx hb dX5_hasSite_9 (by decide) ?_
    refine va_iald hx hb hK hP 1 0 rfl rfl (vin rfl) dX5_hasSite_10 ?_
    refine W.eq (g2 := F0 m 11 ls [.int (c_row 3), .int p1]) rfl ?_
    refine lv_icmp_ge (tgt := 24) hx hb dX5_hasSite_11 (by decide) (fun c_2 => ?_) (fun c_2 => ?_)
    ·
      replace hF := ip c_2 hF
      refine lv_iconst (v := 0) hx hb dX5_hasSite_24 (by decide) ?_
      rw [hQ]
      obtain e9_0 := inj1 hF
      exact W.zret (v := (0 : Int32)) hx hb hr rfl (fun tt ht hW => ⟨_, rfl, ⟨e9_0, Or.inl rfl⟩, ht⟩) (fun _ h => by cases h) dX5_hasSite_25
    ·
      replace hF := inn c_2 hF
      refine lv_iload_n hx hb dX5_hasSite_14 rfl (lv_at hl 1 rfl) ?_
      refine lv_bipush (v := 8) hx hb dX5_hasSite_15 (by decide) ?_
      refine lv_icmp_ge (tgt := 24) hx hb dX5_hasSite_17 (by decide) (fun c_3 => ?_) (fun c_3 => ?_)
      ·
        replace hF := ip c_3 hF
        refine lv_iconst (v := 0) hx hb dX5_hasSite_24 (by decide) ?_
        rw [hQ]
        obtain e9_0 := inj1 hF
        exact W.zret (v := (0 : Int32)) hx hb hr rfl (fun tt ht hW => ⟨_, rfl, ⟨e9_0, Or.inl rfl⟩, ht⟩) (fun _ h => by cases h) dX5_hasSite_25
      ·
        replace hF := inn c_3 hF
        refine lv_iconst (v := 1) hx hb dX5_hasSite_20 (by decide) ?_
        refine lv_goto (tgt := 25) hx hb dX5_hasSite_21 (by decide) ?_
        rw [hQ]
        obtain e9_0 := inj1 hF
        exact W.zret (v := (1 : Int32)) hx hb hr rfl (fun tt ht hW => ⟨_, rfl, ⟨e9_0, Or.inr rfl⟩, ht⟩) (fun _ h => by cases h) dX5_hasSite_25

def F_X5_of (p1 : Int32) (p2 : Int32) (c_row : Nat → Int32) : Option (Int32) :=
  if p1 < (0 : Int32) then some (0 : Int32) else if (8 : Int32) ≤ p1 then some (0 : Int32) else if p2 < (0 : Int32) then some (0 : Int32) else if p2 < (8 : Int32) then ixF (((17 : Int32) + (p1 * (8 : Int32))) + p2) 81 (some (c_row (((17 : Int32) + (p1 * (8 : Int32))) + p2).toNatClampNeg)) else some (0 : Int32)
abbrev w_X5_of (E : EE) (a_ a_row a_partners a_share a_leftOver : Nat) (c_askedCount : Int32) (c_outcome : Int32) (c_row : Nat → Int32) : va_W := [(a_, .inr (6, [.ref a_row, .ref a_partners, .int c_askedCount, .int c_outcome, .ref a_share, .ref a_leftOver])), (a_row, .inl (E.2.1, 81, .inl c_row))]
def v_f_X5_of : List Cond := List.cons (.code yX5_of cX5_of 3 (some .int)) (HAppend.hAppend (α := List Cond) (β := List Cond) (γ := List Cond) [.fieldLink RX5 11 "HushWatch$State" "row" "[I"] (HAppend.hAppend (α := List Cond) (β := List Cond) (γ := List Cond) wsX50 []))
theorem gw_f_X5_of : v_f_X5_of.all goodWord = true := by decide +kernel
theorem i_f_X5_of_X5 : ∀ w ∈ wsX50, w ∈ v_f_X5_of := fun _ h => List.mem_cons_of_mem _ (List.mem_append_right _ (List.mem_append_left _ h))
theorem hd_X5_of : yX5_of.cls = RX5 ∧ yX5_of.cls ≠ "java/lang/invoke/MethodHandle" ∧ yX5_of.cls ≠ "java/lang/invoke/VarHandle" ∧ (parseMethodDescriptor yX5_of.desc).map (fun d => d.parameters.length) = some 2 := by decide +kernel
set_option maxHeartbeats 4000000 in
set_option maxRecDepth 100000 in
theorem f_X5_of (l : Launch) (E : EE) {a_ a_row a_partners a_share a_leftOver : Nat} {p1 : Int32} {p2 : Int32} {c_askedCount : Int32} {c_outcome : Int32} {c_row : Nat → Int32} {rr : Int32} (hF : F_X5_of p1 p2 c_row = some rr) : Met l yX5_of v_f_X5_of (({ frames := 0, cells := 0, slots := 0, locals := 0 } : Room)) (va_Pc [.ref a_, .int p1, .int p2] (pP E (w_X5_of E a_ a_row a_partners a_share a_leftOver c_askedCount c_outcome c_row))) (vp_Si (fun q : Int32 => q = rr)) 0 0 (fun _ => False) := by
  refine Met.ofW (cc := cX5_of) (maxL := 3) (ret := (some .int)) (by decide) rfl ?_
  intro p e s m args below meth c s₁ B hml hv
  obtain ⟨rfl, ⟨hK, hN⟩, hP⟩ := hv
  have hx := B.exec
  have hb := B.bytes
  have hr := B.returns
  have hts := atoms_spec (ws := v_f_X5_of) B.pre
  have hown : s.vm.findClass RX5 = some m.cls := own_of hd_X5_of.1 (findClass_of_methodNamed B.named)
  have hlocks : meth.locks = false := B.notSynchronized
  replace hP : va_P E.1 vwCl [(a_, .inr (6, [.ref a_row, .ref a_partners, .int c_askedCount, .int c_outcome, .ref a_share, .ref a_leftOver])), (a_row, .inl (E.2.1, 81, .inl c_row))] s.heap := hP
  have hl := lv_entry ([.ref a_, .int p1, .int p2]) (n := 3) (Nat.le_of_ble_eq_true rfl)
  rw [lg_entry_eq]
  generalize (lg_sl ([.ref a_, .int p1, .int p2]) ++ List.replicate (3 - (lg_sl ([.ref a_, .int p1, .int p2])).length) Slot.unset).toArray = ls at hl ⊢
  have hl : lv_has ls 3 [(0, .ref a_), (1, .int p1), (2, .int p2)] := hl
  obtain ⟨Q, hQ⟩ : ∃ Q : State → Prop, Q = MQ below (vp_Si (fun q : Int32 => q = rr)) #[Value.ref a_, Value.int p1, Value.int p2] s 0 0 (fun _ => False) := ⟨_, rfl⟩
  rw [← hQ]
  change W p l e ({ frames := 0, cells := 0, slots := 0, locals := 0 } : Room) s m #[Value.ref a_, Value.int p1, Value.int p2] below meth c s.heap [] 0 0 Q (F0 m 0 ls [])
  unfold F_X5_of at hF
  refine lv_iload_n hx hb dX5_of_0 rfl (lv_at hl 1 rfl) ?_
  refine lv_if_lt (tgt := 20) hx hb dX5_of_1 (by decide) (fun c_1 => ?_) (fun c_1 => ?_)
  ·
    replace hF := ip c_1 hF
    refine lv_iconst (v := 0) hx hb dX5_of_20 (by decide) ?_
    rw [hQ]
    obtain e9_0 := inj1 hF
    exact W.iret (v := (0 : Int32)) hx hb hr (fun tt ht hW => ⟨_, rfl, e9_0, ht⟩) (fun _ h => by cases h) dX5_of_21
  ·
    replace hF := inn c_1 hF
    refine lv_iload_n hx hb dX5_of_4 rfl (lv_at hl 1 rfl) ?_
    refine lv_bipush (v := 8) hx hb dX5_of_5 (by decide) ?_
    refine lv_icmp_ge (tgt := 20) hx hb dX5_of_7 (by decide) (fun c_2 => ?_) (fun c_2 => ?_)
    ·
      replace hF := ip c_2 hF
      refine lv_iconst (v := 0) hx hb dX5_of_20 (by decide) ?_
      rw [hQ]
      obtain e9_0 := inj1 hF
      exact W.iret (v := (0 : Int32)) hx hb hr (fun tt ht hW => ⟨_, rfl, e9_0, ht⟩) (fun _ h => by cases h) dX5_of_21
    ·
      replace hF := inn c_2 hF
      refine lv_iload_n hx hb dX5_of_10 rfl (lv_at hl 2 rfl) ?_
      refine lv_if_lt (tgt := 20) hx hb dX5_of_11 (by decide) (fun c_3 => ?_) (fun c_3 => ?_)
      ·
        replace hF := ip c_3 hF
        refine lv_iconst (v := 0) hx hb dX5_of_20 (by decide) ?_
        rw [hQ]
        obtain e9_0 := inj1 hF
        exact W.iret (v := (0 : Int32)) hx hb hr (fun tt ht hW => ⟨_, rfl, e9_0, ht⟩) (fun _ h => by cases h) dX5_of_21
      ·
        replace hF := inn c_3 hF
        refine lv_iload_n hx hb dX5_of_14 rfl (lv_at hl 2 rfl) ?_
        refine lv_bipush (v := 8) hx hb dX5_of_15 (by decide) ?_
        refine lv_icmp_lt (tgt := 22) hx hb dX5_of_17 (by decide) (fun c_4 => ?_) (fun c_4 => ?_)
        ·
          replace hF := ip c_4 hF
          refine lv_aload_n hx hb dX5_of_22 rfl (lv_at hl 0 rfl) ?_
          refine gt_X5_0 (v := .ref a_row) hx hb hts i_f_X5_of_X5 hown hK hP 0 rfl (hts (.fieldLink RX5 11 "HushWatch$State" "row" "[I") (List.mem_of_getElem? (i := 1) rfl)) rfl dX5_of_23 ?_
          refine lv_bipush (v := 17) hx hb dX5_of_26 (by decide) ?_
          refine lv_iload_n hx hb dX5_of_28 rfl (lv_at hl 1 rfl) ?_
          refine lv_bipush (v := 8) hx hb dX5_of_29 (by decide) ?_
          refine lv_imul hx hb dX5_of_31 ?_
          refine lv_iadd hx hb dX5_of_32 ?_
          refine lv_iload_n hx hb dX5_of_33 rfl (lv_at hl 2 rfl) ?_
          refine lv_iadd hx hb dX5_of_34 ?_
          replace hF := ix_s hF
          obtain ⟨hi_5, hF⟩ := hF
          refine va_iald hx hb hK hP 1 0 rfl rfl hi_5 dX5_of_35 ?_
          rw [hQ]
          obtain e9_0 := inj1 hF
          exact W.iret (v := c_row (((17 : Int32) + (p1 * (8 : Int32))) + p2).toNatClampNeg) hx hb hr (fun tt ht hW => ⟨_, rfl, e9_0, ht⟩) (fun _ h => by cases h) dX5_of_36
        ·
          replace hF := inn c_4 hF
          refine lv_iconst (v := 0) hx hb dX5_of_20 (by decide) ?_
          rw [hQ]
          obtain e9_0 := inj1 hF
          exact W.iret (v := (0 : Int32)) hx hb hr (fun tt ht hW => ⟨_, rfl, e9_0, ht⟩) (fun _ h => by cases h) dX5_of_21

def F_X5_isReached (c_row : Nat → Int32) : Option (Int32) :=
  if c_row 8 < c_row 2 then some (0 : Int32) else some (1 : Int32)
abbrev w_X5_isReached (E : EE) (a_ a_row a_partners a_share a_leftOver : Nat) (c_askedCount : Int32) (c_outcome : Int32) (c_row : Nat → Int32) : va_W := [(a_, .inr (6, [.ref a_row, .ref a_partners, .int c_askedCount, .int c_outcome, .ref a_share, .ref a_leftOver])), (a_row, .inl (E.2.1, 81, .inl c_row))]
def v_f_X5_isReached : List Cond := List.cons (.code yX5_isReached cX5_isReached 1 (some .boolean)) (HAppend.hAppend (α := List Cond) (β := List Cond) (γ := List Cond) [.fieldLink RX5 11 "HushWatch$State" "row" "[I"] (HAppend.hAppend (α := List Cond) (β := List Cond) (γ := List Cond) wsX50 []))
theorem gw_f_X5_isReached : v_f_X5_isReached.all goodWord = true := by decide +kernel
theorem i_f_X5_isReached_X5 : ∀ w ∈ wsX50, w ∈ v_f_X5_isReached := fun _ h => List.mem_cons_of_mem _ (List.mem_append_right _ (List.mem_append_left _ h))
theorem hd_X5_isReached : yX5_isReached.cls = RX5 ∧ yX5_isReached.cls ≠ "java/lang/invoke/MethodHandle" ∧ yX5_isReached.cls ≠ "java/lang/invoke/VarHandle" ∧ (parseMethodDescriptor yX5_isReached.desc).map (fun d => d.parameters.length) = some 0 := by decide +kernel
set_option maxHeartbeats 4000000 in
set_option maxRecDepth 100000 in
theorem f_X5_isReached (l : Launch) (E : EE) {a_ a_row a_partners a_share a_leftOver : Nat} {c_askedCount : Int32} {c_outcome : Int32} {c_row : Nat → Int32} {rr : Int32} (hF : F_X5_isReached c_row = some rr) : Met l yX5_isReached v_f_X5_isReached (({ frames := 0, cells := 0, slots := 0, locals := 0 } : Room)) (va_Pc [.ref a_] (pP E (w_X5_isReached E a_ a_row a_partners a_share a_leftOver c_askedCount c_outcome c_row))) (vp_Si (fun q : Int32 => q = rr ∧ (q = 0 ∨ q = 1))) 0 0 (fun _ => False) := by
  refine Met.ofW (cc := cX5_isReached) (maxL := 1) (ret := (some .boolean)) (by decide) rfl ?_
  intro p e s m args below meth c s₁ B hml hv
  obtain ⟨rfl, ⟨hK, hN⟩, hP⟩ := hv
  have hx := B.exec
  have hb := B.bytes
  have hr := B.returns
  have hts := atoms_spec (ws := v_f_X5_isReached) B.pre
  have hown : s.vm.findClass RX5 = some m.cls := own_of hd_X5_isReached.1 (findClass_of_methodNamed B.named)
  have hlocks : meth.locks = false := B.notSynchronized
  replace hP : va_P E.1 vwCl [(a_, .inr (6, [.ref a_row, .ref a_partners, .int c_askedCount, .int c_outcome, .ref a_share, .ref a_leftOver])), (a_row, .inl (E.2.1, 81, .inl c_row))] s.heap := hP
  have hl := lv_entry ([.ref a_]) (n := 1) (Nat.le_of_ble_eq_true rfl)
  rw [lg_entry_eq]
  generalize (lg_sl ([.ref a_]) ++ List.replicate (1 - (lg_sl ([.ref a_])).length) Slot.unset).toArray = ls at hl ⊢
  have hl : lv_has ls 1 [(0, .ref a_)] := hl
  obtain ⟨Q, hQ⟩ : ∃ Q : State → Prop, Q = MQ below (vp_Si (fun q : Int32 => q = rr ∧ (q = 0 ∨ q = 1))) #[Value.ref a_] s 0 0 (fun _ => False) := ⟨_, rfl⟩
  rw [← hQ]
  change W p l e ({ frames := 0, cells := 0, slots := 0, locals := 0 } : Room) s m #[Value.ref a_] below meth c s.heap [] 0 0 Q (F0 m 0 ls [])
  unfold F_X5_isReached at hF
  refine lv_aload_n hx hb dX5_isReached_0 rfl (lv_at hl 0 rfl) ?_
  refine gt_X5_0 (v := .ref a_row) hx hb hts i_f_X5_isReached_X5 hown hK hP 0 rfl (hts (.fieldLink RX5 11 "HushWatch$State" "row" "[I") (List.mem_of_getElem? (i := 1) rfl)) rfl dX5_isReached_1 ?_
  refine lv_bipush (v := 8) hx hb dX5_isReached_4 (by decide) ?_
  refine va_iald hx hb hK hP 1 0 rfl rfl (vin rfl) dX5_isReached_6 ?_
  refine W.eq (g2 := F0 m 7 ls [.int (c_row 8)]) rfl ?_
  refine lv_aload_n hx hb dX5_isReached_7 rfl (lv_at hl 0 rfl) ?_
  refine gt_X5_0 (v := .ref a_row) hx hb hts i_f_X5_isReached_X5 hown hK hP 0 rfl (hts (.fieldLink RX5 11 "HushWatch$State" "row" "[I") (List.mem_of_getElem? (i := 1) rfl)) rfl dX5_isReached_8 ?_
  refine lv_iconst (v := 2) hx hb dX5_isReached_11 (by decide) ?_
  refine va_iald hx hb hK hP 1 0 rfl rfl (vin rfl) dX5_isReached_12 ?_
  refine W.eq (g2 := F0 m 13 ls [.int (c_row 2), .int (c_row 8)]) rfl ?_
  refine lv_icmp_lt (tgt := 20) hx hb dX5_isReached_13 (by decide) (fun c_1 => ?_) (fun c_1 => ?_)
  ·
    replace hF := ip c_1 hF
    refine lv_iconst (v := 0) hx hb dX5_isReached_20 (by decide) ?_
    rw [hQ]
    obtain e9_0 := inj1 hF
    exact W.zret (v := (0 : Int32)) hx hb hr rfl (fun tt ht hW => ⟨_, rfl, ⟨e9_0, Or.inl rfl⟩, ht⟩) (fun _ h => by cases h) dX5_isReached_21
  ·
    replace hF := inn c_1 hF
    refine lv_iconst (v := 1) hx hb dX5_isReached_16 (by decide) ?_
    refine lv_goto (tgt := 21) hx hb dX5_isReached_17 (by decide) ?_
    rw [hQ]
    obtain e9_0 := inj1 hF
    exact W.zret (v := (1 : Int32)) hx hb hr rfl (fun tt ht hW => ⟨_, rfl, ⟨e9_0, Or.inr rfl⟩, ht⟩) (fun _ h => by cases h) dX5_isReached_21

def F_X5_addRefusal (p1 : Int32) (p2 : Int32) (c_row : Nat → Int32) : Option (Int32) :=
  bd1 (F_X5_hasSite p1 c_row) (fun r_1 => if r_1 = (0 : Int32) then some (0 : Int32) else if p2 < (1 : Int32) then some (1 : Int32) else if (999 : Int32) < p2 then some (1 : Int32) else bd1 (F_X5_of p1 (6 : Int32) c_row) (fun r_7 => if r_7 + p2 ≤ (99999 : Int32) then bd1 (F_X5_isReached c_row) (fun r_10 => if r_10 = (0 : Int32) then some (-1 : Int32) else some (2 : Int32)) else some (1 : Int32)))
abbrev w_X5_addRefusal (E : EE) (a_ a_row a_partners a_share a_leftOver : Nat) (c_askedCount : Int32) (c_outcome : Int32) (c_row : Nat → Int32) : va_W := [(a_, .inr (6, [.ref a_row, .ref a_partners, .int c_askedCount, .int c_outcome, .ref a_share, .ref a_leftOver])), (a_row, .inl (E.2.1, 81, .inl c_row))]
def v_f_X5_addRefusal : List Cond := List.cons (.code yX5_addRefusal cX5_addRefusal 3 (some .int)) (HAppend.hAppend (α := List Cond) (β := List Cond) (γ := List Cond) [.constant RX5 98 (99999), .methodLink RX5 79 yX5_hasSite, .instanceMethod yX5_hasSite, .selects RX5 yX5_hasSite yX5_hasSite, .initialized RX5, .methodLink RX5 69 yX5_of, .instanceMethod yX5_of, .selects RX5 yX5_of yX5_of, .methodLink RX5 134 yX5_isReached, .instanceMethod yX5_isReached, .selects RX5 yX5_isReached yX5_isReached] (HAppend.hAppend (α := List Cond) (β := List Cond) (γ := List Cond) v_f_X5_hasSite (HAppend.hAppend (α := List Cond) (β := List Cond) (γ := List Cond) v_f_X5_of (HAppend.hAppend (α := List Cond) (β := List Cond) (γ := List Cond) v_f_X5_isReached []))))
theorem gw_f_X5_addRefusal : v_f_X5_addRefusal.all goodWord = true := by decide +kernel
theorem g_f_X5_addRefusal_f_X5_hasSite_79 : GoodIn v_f_X5_addRefusal (wsV RX5 79 RX5 yX5_hasSite v_f_X5_hasSite) := goodIn_app (goodIn_of _ (by decide +kernel)) (goodIn_sub (fun _ h => List.mem_cons_of_mem _ (List.mem_append_right _ (List.mem_append_left _ h))) gw_f_X5_hasSite)
theorem g_f_X5_addRefusal_f_X5_of_69 : GoodIn v_f_X5_addRefusal (wsV RX5 69 RX5 yX5_of v_f_X5_of) := goodIn_app (goodIn_of _ (by decide +kernel)) (goodIn_sub (fun _ h => List.mem_cons_of_mem _ (List.mem_append_right _ (List.mem_append_right _ (List.mem_append_left _ h)))) gw_f_X5_of)
theorem g_f_X5_addRefusal_f_X5_isReached_134 : GoodIn v_f_X5_addRefusal (wsV RX5 134 RX5 yX5_isReached v_f_X5_isReached) := goodIn_app (goodIn_of _ (by decide +kernel)) (goodIn_sub (fun _ h => List.mem_cons_of_mem _ (List.mem_append_right _ (List.mem_append_right _ (List.mem_append_right _ (List.mem_append_left _ h))))) gw_f_X5_isReached)
theorem hd_X5_addRefusal : yX5_addRefusal.cls = RX5 ∧ yX5_addRefusal.cls ≠ "java/lang/invoke/MethodHandle" ∧ yX5_addRefusal.cls ≠ "java/lang/invoke/VarHandle" ∧ (parseMethodDescriptor yX5_addRefusal.desc).map (fun d => d.parameters.length) = some 2 := by decide +kernel
set_option maxHeartbeats 4000000 in
set_option maxRecDepth 100000 in
theorem f_X5_addRefusal (l : Launch) (E : EE) {a_ a_row a_partners a_share a_leftOver : Nat} {p1 : Int32} {p2 : Int32} {c_askedCount : Int32} {c_outcome : Int32} {c_row : Nat → Int32} {rr : Int32} (hF : F_X5_addRefusal p1 p2 c_row = some rr) : Met l yX5_addRefusal v_f_X5_addRefusal (({ frames := 1, cells := 0, slots := 0, locals := 22 } : Room)) (va_Pc [.ref a_, .int p1, .int p2] (pP E (w_X5_addRefusal E a_ a_row a_partners a_share a_leftOver c_askedCount c_outcome c_row))) (vp_Si (fun q : Int32 => q = rr)) 0 0 (fun _ => False) := by
  refine Met.ofW (cc := cX5_addRefusal) (maxL := 3) (ret := (some .int)) (by decide) rfl ?_
  intro p e s m args below meth c s₁ B hml hv
  obtain ⟨rfl, ⟨hK, hN⟩, hP⟩ := hv
  have hx := B.exec
  have hb := B.bytes
  have hr := B.returns
  have hts := atoms_spec (ws := v_f_X5_addRefusal) B.pre
  have hown : s.vm.findClass RX5 = some m.cls := own_of hd_X5_addRefusal.1 (findClass_of_methodNamed B.named)
  have hlocks : meth.locks = false := B.notSynchronized
  replace hP : va_P E.1 vwCl [(a_, .inr (6, [.ref a_row, .ref a_partners, .int c_askedCount, .int c_outcome, .ref a_share, .ref a_leftOver])), (a_row, .inl (E.2.1, 81, .inl c_row))] s.heap := hP
  have hl := lv_entry ([.ref a_, .int p1, .int p2]) (n := 3) (Nat.le_of_ble_eq_true rfl)
  rw [lg_entry_eq]
  generalize (lg_sl ([.ref a_, .int p1, .int p2]) ++ List.replicate (3 - (lg_sl ([.ref a_, .int p1, .int p2])).length) Slot.unset).toArray = ls at hl ⊢
  have hl : lv_has ls 3 [(0, .ref a_), (1, .int p1), (2, .int p2)] := hl
  obtain ⟨Q, hQ⟩ : ∃ Q : State → Prop, Q = MQ below (vp_Si (fun q : Int32 => q = rr)) #[Value.ref a_, Value.int p1, Value.int p2] s 0 0 (fun _ => False) := ⟨_, rfl⟩
  rw [← hQ]
  change W p l e ({ frames := 1, cells := 0, slots := 0, locals := 22 } : Room) s m #[Value.ref a_, Value.int p1, Value.int p2] below meth c s.heap [] 0 0 Q (F0 m 0 ls [])
  unfold F_X5_addRefusal at hF
  refine lv_aload_n hx hb dX5_addRefusal_0 rfl (lv_at hl 0 rfl) ?_
  refine lv_iload_n hx hb dX5_addRefusal_1 rfl (lv_at hl 1 rfl) ?_
  replace hF := bd1_s hF
  obtain ⟨r_1, hc_2, hF⟩ := hF
  have hPc : va_P E.1 vwCl (w_X5_hasSite E a_ a_row a_partners a_share a_leftOver c_askedCount c_outcome c_row) s.heap := hP.sub (ws' := [(a_, .inr (6, [.ref a_row, .ref a_partners, .int c_askedCount, .int c_outcome, .ref a_share, .ref a_leftOver])), (a_row, .inl (E.2.1, 81, .inl c_row))]) [0, 1] rfl
  have hrc := va_recv hK hPc (ci := 6) (q0 := 0) rfl rfl
  refine pE_z (va_runV (As := [.int p1]) (rest := [])  ⟨hx, hb, hml, hown, hts⟩ (f_X5_hasSite l E (a_ := a_) (a_row := a_row) (a_partners := a_partners) (a_share := a_share) (a_leftOver := a_leftOver) (p1 := p1) (c_askedCount := c_askedCount) (c_outcome := c_outcome) (c_row := c_row) hc_2) (cwV 1 hts g_f_X5_addRefusal_f_X5_hasSite_79 rfl rfl rfl hd_X5_hasSite ⟨Nat.le_of_ble_eq_true rfl, Nat.le_of_ble_eq_true rfl⟩) ⟨pP.blind, hrc, (pP.pre ⟨hK, hN⟩ hPc)⟩ rfl rfl hl.1 rfl (lv_room (Nat.le_of_ble_eq_true rfl)) dX5_addRefusal_2 ⟨Nat.le_of_ble_eq_true rfl, Nat.le_of_ble_eq_true rfl⟩) (fun hb_3 => ?_)
  refine lv_if_ne (tgt := 10) hx hb dX5_addRefusal_5 (by decide) (fun c_4 => ?_) (fun c_4 => ?_)
  ·
    replace hF := inn c_4 hF
    refine lv_iload_n hx hb dX5_addRefusal_10 rfl (lv_at hl 2 rfl) ?_
    refine lv_iconst (v := 1) hx hb dX5_addRefusal_11 (by decide) ?_
    refine lv_icmp_lt (tgt := 36) hx hb dX5_addRefusal_12 (by decide) (fun c_5 => ?_) (fun c_5 => ?_)
    ·
      replace hF := ip c_5 hF
      refine lv_iconst (v := 1) hx hb dX5_addRefusal_36 (by decide) ?_
      rw [hQ]
      obtain e9_0 := inj1 hF
      exact W.iret (v := (1 : Int32)) hx hb hr (fun tt ht hW => ⟨_, rfl, e9_0, ht⟩) (fun _ h => by cases h) dX5_addRefusal_37
    ·
      replace hF := inn c_5 hF
      refine lv_iload_n hx hb dX5_addRefusal_15 rfl (lv_at hl 2 rfl) ?_
      refine lv_sipush (v := 999) hx hb dX5_addRefusal_16 (by decide) ?_
      refine lv_icmp_gt (tgt := 36) hx hb dX5_addRefusal_19 (by decide) (fun c_6 => ?_) (fun c_6 => ?_)
      ·
        replace hF := ip c_6 hF
        refine lv_iconst (v := 1) hx hb dX5_addRefusal_36 (by decide) ?_
        rw [hQ]
        obtain e9_0 := inj1 hF
        exact W.iret (v := (1 : Int32)) hx hb hr (fun tt ht hW => ⟨_, rfl, e9_0, ht⟩) (fun _ h => by cases h) dX5_addRefusal_37
      ·
        replace hF := inn c_6 hF
        refine lv_aload_n hx hb dX5_addRefusal_22 rfl (lv_at hl 0 rfl) ?_
        refine lv_iload_n hx hb dX5_addRefusal_23 rfl (lv_at hl 1 rfl) ?_
        refine lv_bipush (v := 6) hx hb dX5_addRefusal_24 (by decide) ?_
        replace hF := bd1_s hF
        obtain ⟨r_7, hc_8, hF⟩ := hF
        have hPc : va_P E.1 vwCl (w_X5_of E a_ a_row a_partners a_share a_leftOver c_askedCount c_outcome c_row) s.heap := hP.sub (ws' := [(a_, .inr (6, [.ref a_row, .ref a_partners, .int c_askedCount, .int c_outcome, .ref a_share, .ref a_leftOver])), (a_row, .inl (E.2.1, 81, .inl c_row))]) [0, 1] rfl
        have hrc := va_recv hK hPc (ci := 6) (q0 := 0) rfl rfl
        refine pE_i (va_runV (As := [.int p1, .int (6 : Int32)]) (rest := [])  ⟨hx, hb, hml, hown, hts⟩ (f_X5_of l E (a_ := a_) (a_row := a_row) (a_partners := a_partners) (a_share := a_share) (a_leftOver := a_leftOver) (p1 := p1) (p2 := (6 : Int32)) (c_askedCount := c_askedCount) (c_outcome := c_outcome) (c_row := c_row) hc_8) (cwV 2 hts g_f_X5_addRefusal_f_X5_of_69 rfl rfl rfl hd_X5_of ⟨Nat.le_of_ble_eq_true rfl, Nat.le_of_ble_eq_true rfl⟩) ⟨pP.blind, hrc, (pP.pre ⟨hK, hN⟩ hPc)⟩ rfl rfl hl.1 rfl (lv_room (Nat.le_of_ble_eq_true rfl)) dX5_addRefusal_26 ⟨Nat.le_of_ble_eq_true rfl, Nat.le_of_ble_eq_true rfl⟩) ?_
        refine lv_iload_n hx hb dX5_addRefusal_29 rfl (lv_at hl 2 rfl) ?_
        refine lv_iadd hx hb dX5_addRefusal_30 ?_
        refine lv_ldc (v := 99999) hx hb hown (hts (.constant RX5 98 (99999)) (List.mem_of_getElem? (i := 1) rfl)) dX5_addRefusal_31 ?_
        refine lv_icmp_le (tgt := 38) hx hb dX5_addRefusal_33 (by decide) (fun c_9 => ?_) (fun c_9 => ?_)
        ·
          replace hF := ip c_9 hF
          refine lv_aload_n hx hb dX5_addRefusal_38 rfl (lv_at hl 0 rfl) ?_
          replace hF := bd1_s hF
          obtain ⟨r_10, hc_11, hF⟩ := hF
          have hPc : va_P E.1 vwCl (w_X5_isReached E a_ a_row a_partners a_share a_leftOver c_askedCount c_outcome c_row) s.heap := hP.sub (ws' := [(a_, .inr (6, [.ref a_row, .ref a_partners, .int c_askedCount, .int c_outcome, .ref a_share, .ref a_leftOver])), (a_row, .inl (E.2.1, 81, .inl c_row))]) [0, 1] rfl
          have hrc := va_recv hK hPc (ci := 6) (q0 := 0) rfl rfl
          refine pE_z (va_runV (As := []) (rest := [])  ⟨hx, hb, hml, hown, hts⟩ (f_X5_isReached l E (a_ := a_) (a_row := a_row) (a_partners := a_partners) (a_share := a_share) (a_leftOver := a_leftOver) (c_askedCount := c_askedCount) (c_outcome := c_outcome) (c_row := c_row) hc_11) (cwV 0 hts g_f_X5_addRefusal_f_X5_isReached_134 rfl rfl rfl hd_X5_isReached ⟨Nat.le_of_ble_eq_true rfl, Nat.le_of_ble_eq_true rfl⟩) ⟨pP.blind, hrc, (pP.pre ⟨hK, hN⟩ hPc)⟩ rfl rfl hl.1 rfl (lv_room (Nat.le_of_ble_eq_true rfl)) dX5_addRefusal_39 ⟨Nat.le_of_ble_eq_true rfl, Nat.le_of_ble_eq_true rfl⟩) (fun hb_12 => ?_)
          refine lv_if_eq (tgt := 49) hx hb dX5_addRefusal_42 (by decide) (fun c_13 => ?_) (fun c_13 => ?_)
          ·
            replace hF := ip c_13 hF
            refine lv_iconst (v := -1) hx hb dX5_addRefusal_49 (by decide) ?_
            rw [hQ]
            obtain e9_0 := inj1 hF
            exact W.iret (v := (-1 : Int32)) hx hb hr (fun tt ht hW => ⟨_, rfl, e9_0, ht⟩) (fun _ h => by cases h) dX5_addRefusal_50
          ·
            replace hF := inn c_13 hF
            refine lv_iconst (v := 2) hx hb dX5_addRefusal_45 (by decide) ?_
            refine lv_goto (tgt := 50) hx hb dX5_addRefusal_46 (by decide) ?_
            rw [hQ]
            obtain e9_0 := inj1 hF
            exact W.iret (v := (2 : Int32)) hx hb hr (fun tt ht hW => ⟨_, rfl, e9_0, ht⟩) (fun _ h => by cases h) dX5_addRefusal_50
        ·
          replace hF := inn c_9 hF
          refine lv_iconst (v := 1) hx hb dX5_addRefusal_36 (by decide) ?_
          rw [hQ]
          obtain e9_0 := inj1 hF
          exact W.iret (v := (1 : Int32)) hx hb hr (fun tt ht hW => ⟨_, rfl, e9_0, ht⟩) (fun _ h => by cases h) dX5_addRefusal_37
  ·
    replace hF := ip c_4 hF
    refine lv_iconst (v := 0) hx hb dX5_addRefusal_8 (by decide) ?_
    rw [hQ]
    obtain e9_0 := inj1 hF
    exact W.iret (v := (0 : Int32)) hx hb hr (fun tt ht hW => ⟨_, rfl, e9_0, ht⟩) (fun _ h => by cases h) dX5_addRefusal_9

def F_X5_put (p1 : Int32) (p2 : Int32) (p3 : Int32) (c_row : Nat → Int32) : Option ((Nat → Int32)) :=
  if p1 < (0 : Int32) then some c_row else if (8 : Int32) ≤ p1 then some c_row else if p2 < (0 : Int32) then some c_row else if (8 : Int32) ≤ p2 then some c_row else ixF (((17 : Int32) + (p1 * (8 : Int32))) + p2) 81 (nmF (upd c_row (((17 : Int32) + (p1 * (8 : Int32))) + p2).toNatClampNeg p3) (fun f_6 => some f_6))
abbrev w_X5_put (E : EE) (a_ a_row a_partners a_share a_leftOver : Nat) (c_askedCount : Int32) (c_outcome : Int32) (c_row : Nat → Int32) : va_W := [(a_, .inr (6, [.ref a_row, .ref a_partners, .int c_askedCount, .int c_outcome, .ref a_share, .ref a_leftOver])), (a_row, .inl (E.2.1, 81, .inl c_row))]
def v_f_X5_put : List Cond := List.cons (.code yX5_put cX5_put 4 none) (HAppend.hAppend (α := List Cond) (β := List Cond) (γ := List Cond) [.fieldLink RX5 11 "HushWatch$State" "row" "[I"] (HAppend.hAppend (α := List Cond) (β := List Cond) (γ := List Cond) wsX50 []))
theorem gw_f_X5_put : v_f_X5_put.all goodWord = true := by decide +kernel
theorem i_f_X5_put_X5 : ∀ w ∈ wsX50, w ∈ v_f_X5_put := fun _ h => List.mem_cons_of_mem _ (List.mem_append_right _ (List.mem_append_left _ h))
theorem hd_X5_put : yX5_put.cls = RX5 ∧ yX5_put.cls ≠ "java/lang/invoke/MethodHandle" ∧ yX5_put.cls ≠ "java/lang/invoke/VarHandle" ∧ (parseMethodDescriptor yX5_put.desc).map (fun d => d.parameters.length) = some 3 := by decide +kernel
set_option maxHeartbeats 4000000 in
set_option maxRecDepth 100000 in
theorem f_X5_put (l : Launch) (E : EE) (sz : Nat) {a_ a_row a_partners a_share a_leftOver : Nat} {p1 : Int32} {p2 : Int32} {p3 : Int32} {c_askedCount : Int32} {c_outcome : Int32} {c_row : Nat → Int32} {n_row : Nat → Int32} (hF : F_X5_put p1 p2 p3 c_row = some n_row) : Met l yX5_put v_f_X5_put (({ frames := 0, cells := 0, slots := 0, locals := 0 } : Room)) (va_Pc [.ref a_, .int p1, .int p2, .int p3] (pW E sz (w_X5_put E a_ a_row a_partners a_share a_leftOver c_askedCount c_outcome c_row))) (va_Qv (fun (_u : Unit) => True) (fun (_u : Unit) tt => va_P E.1 vwCl (w_X5_put E a_ a_row a_partners a_share a_leftOver c_askedCount c_outcome n_row) tt.heap ∧ va_D (va_A (w_X5_put E a_ a_row a_partners a_share a_leftOver c_askedCount c_outcome c_row) sz) (w_X5_put E a_ a_row a_partners a_share a_leftOver c_askedCount c_outcome n_row)) (va_A (w_X5_put E a_ a_row a_partners a_share a_leftOver c_askedCount c_outcome c_row) sz)) 0 0 (va_A (w_X5_put E a_ a_row a_partners a_share a_leftOver c_askedCount c_outcome c_row) sz) := by
  refine Met.ofW (cc := cX5_put) (maxL := 4) (ret := none) (by decide) rfl ?_
  intro p e s m args below meth c s₁ B hml hv
  obtain ⟨rfl, hsz, ⟨hK, hN⟩, hP, hD0⟩ := hv
  have hx := B.exec
  have hb := B.bytes
  have hr := B.returns
  have hts := atoms_spec (ws := v_f_X5_put) B.pre
  have hown : s.vm.findClass RX5 = some m.cls := own_of hd_X5_put.1 (findClass_of_methodNamed B.named)
  have hlocks : meth.locks = false := B.notSynchronized
  subst hsz
  have hD := hD0.self (sz := s.heap.size)
  generalize hAe : va_A (w_X5_put E a_ a_row a_partners a_share a_leftOver c_askedCount c_outcome c_row) s.heap.size = A at hD ⊢
  have hA : ∀ q : Nat, s.heap.size ≤ q → A q := fun q h => by rw [← hAe]; exact Or.inr h
  have hS : va_S A s.heap s.heap [] := va_S.rf
  have hl := lv_entry ([.ref a_, .int p1, .int p2, .int p3]) (n := 4) (Nat.le_of_ble_eq_true rfl)
  rw [lg_entry_eq]
  generalize (lg_sl ([.ref a_, .int p1, .int p2, .int p3]) ++ List.replicate (4 - (lg_sl ([.ref a_, .int p1, .int p2, .int p3])).length) Slot.unset).toArray = ls at hl ⊢
  have hl : lv_has ls 4 [(0, .ref a_), (1, .int p1), (2, .int p2), (3, .int p3)] := hl
  obtain ⟨Q, hQ⟩ : ∃ Q : State → Prop, Q = MQ below (va_Qv (fun (_u : Unit) => True) (fun (_u : Unit) tt => va_P E.1 vwCl (w_X5_put E a_ a_row a_partners a_share a_leftOver c_askedCount c_outcome n_row) tt.heap ∧ va_D A (w_X5_put E a_ a_row a_partners a_share a_leftOver c_askedCount c_outcome n_row)) A) #[Value.ref a_, Value.int p1, Value.int p2, Value.int p3] s 0 0 A := ⟨_, rfl⟩
  rw [← hQ]
  change W p l e ({ frames := 0, cells := 0, slots := 0, locals := 0 } : Room) s m #[Value.ref a_, Value.int p1, Value.int p2, Value.int p3] below meth c s.heap [] 0 0 Q (F0 m 0 ls [])
  suffices hh9 : ∀ (H : Heap) (locs : List Loc), va_P E.1 vwCl (w_X5_put E a_ a_row a_partners a_share a_leftOver c_askedCount c_outcome c_row) H → va_D A (w_X5_put E a_ a_row a_partners a_share a_leftOver c_askedCount c_outcome c_row) → va_S A s.heap H locs → W p l e ({ frames := 0, cells := 0, slots := 0, locals := 0 } : Room) s m #[Value.ref a_, Value.int p1, Value.int p2, Value.int p3] below meth c H locs 0 0 Q (F0 m 0 ls []) from hh9 s.heap [] hP hD hS
  clear hP hD hS
  intro H locs hP hD hS
  replace hP : va_P E.1 vwCl [(a_, .inr (6, [.ref a_row, .ref a_partners, .int c_askedCount, .int c_outcome, .ref a_share, .ref a_leftOver])), (a_row, .inl (E.2.1, 81, .inl c_row))] H := hP
  replace hD : va_D A [(a_, .inr (6, [.ref a_row, .ref a_partners, .int c_askedCount, .int c_outcome, .ref a_share, .ref a_leftOver])), (a_row, .inl (E.2.1, 81, .inl c_row))] := hD
  unfold F_X5_put at hF
  refine lv_iload_n hx hb dX5_put_0 rfl (lv_at hl 1 rfl) ?_
  refine lv_if_lt (tgt := 35) hx hb dX5_put_1 (by decide) (fun c_1 => ?_) (fun c_1 => ?_)
  ·
    replace hF := ip c_1 hF
    rw [hQ]
    have h9 := fin9 (P := fun u9 : (Nat → Int32) => va_P E.1 vwCl (w_X5_put E a_ a_row a_partners a_share a_leftOver c_askedCount c_outcome u9) H ∧ va_D A (w_X5_put E a_ a_row a_partners a_share a_leftOver c_askedCount c_outcome u9)) hF ⟨hP, hD⟩
    obtain ⟨hP9, hD9⟩ := h9
    exact W.vret hx hb hr (fun tt ht hW => ⟨⟨(), rfl, trivial, ht ▸ hP9, hD9⟩, hS.F ht⟩) hS.2.2 dX5_put_35
  ·
    replace hF := inn c_1 hF
    refine lv_iload_n hx hb dX5_put_4 rfl (lv_at hl 1 rfl) ?_
    refine lv_bipush (v := 8) hx hb dX5_put_5 (by decide) ?_
    refine lv_icmp_ge (tgt := 35) hx hb dX5_put_7 (by decide) (fun c_2 => ?_) (fun c_2 => ?_)
    ·
      replace hF := ip c_2 hF
      rw [hQ]
      have h9 := fin9 (P := fun u9 : (Nat → Int32) => va_P E.1 vwCl (w_X5_put E a_ a_row a_partners a_share a_leftOver c_askedCount c_outcome u9) H ∧ va_D A (w_X5_put E a_ a_row a_partners a_share a_leftOver c_askedCount c_outcome u9)) hF ⟨hP, hD⟩
      obtain ⟨hP9, hD9⟩ := h9
      exact W.vret hx hb hr (fun tt ht hW => ⟨⟨(), rfl, trivial, ht ▸ hP9, hD9⟩, hS.F ht⟩) hS.2.2 dX5_put_35
    ·
      replace hF := inn c_2 hF
      refine lv_iload_n hx hb dX5_put_10 rfl (lv_at hl 2 rfl) ?_
      refine lv_if_lt (tgt := 35) hx hb dX5_put_11 (by decide) (fun c_3 => ?_) (fun c_3 => ?_)
      ·
        replace hF := ip c_3 hF
        rw [hQ]
        have h9 := fin9 (P := fun u9 : (Nat → Int32) => va_P E.1 vwCl (w_X5_put E a_ a_row a_partners a_share a_leftOver c_askedCount c_outcome u9) H ∧ va_D A (w_X5_put E a_ a_row a_partners a_share a_leftOver c_askedCount c_outcome u9)) hF ⟨hP, hD⟩
        obtain ⟨hP9, hD9⟩ := h9
        exact W.vret hx hb hr (fun tt ht hW => ⟨⟨(), rfl, trivial, ht ▸ hP9, hD9⟩, hS.F ht⟩) hS.2.2 dX5_put_35
      ·
        replace hF := inn c_3 hF
        refine lv_iload_n hx hb dX5_put_14 rfl (lv_at hl 2 rfl) ?_
        refine lv_bipush (v := 8) hx hb dX5_put_15 (by decide) ?_
        refine lv_icmp_ge (tgt := 35) hx hb dX5_put_17 (by decide) (fun c_4 => ?_) (fun c_4 => ?_)
        ·
          replace hF := ip c_4 hF
          rw [hQ]
          have h9 := fin9 (P := fun u9 : (Nat → Int32) => va_P E.1 vwCl (w_X5_put E a_ a_row a_partners a_share a_leftOver c_askedCount c_outcome u9) H ∧ va_D A (w_X5_put E a_ a_row a_partners a_share a_leftOver c_askedCount c_outcome u9)) hF ⟨hP, hD⟩
          obtain ⟨hP9, hD9⟩ := h9
          exact W.vret hx hb hr (fun tt ht hW => ⟨⟨(), rfl, trivial, ht ▸ hP9, hD9⟩, hS.F ht⟩) hS.2.2 dX5_put_35
        ·
          replace hF := inn c_4 hF
          refine lv_aload_n hx hb dX5_put_20 rfl (lv_at hl 0 rfl) ?_
          refine gt_X5_0 (v := .ref a_row) hx hb hts i_f_X5_put_X5 hown hK hP 0 rfl (hts (.fieldLink RX5 11 "HushWatch$State" "row" "[I") (List.mem_of_getElem? (i := 1) rfl)) rfl dX5_put_21 ?_
          refine lv_bipush (v := 17) hx hb dX5_put_24 (by decide) ?_
          refine lv_iload_n hx hb dX5_put_26 rfl (lv_at hl 1 rfl) ?_
          refine lv_bipush (v := 8) hx hb dX5_put_27 (by decide) ?_
          refine lv_imul hx hb dX5_put_29 ?_
          refine lv_iadd hx hb dX5_put_30 ?_
          refine lv_iload_n hx hb dX5_put_31 rfl (lv_at hl 2 rfl) ?_
          refine lv_iadd hx hb dX5_put_32 ?_
          refine lv_iload_n hx hb dX5_put_33 rfl (lv_at hl 3 rfl) ?_
          replace hF := ix_s hF
          obtain ⟨hi_5, hF⟩ := hF
          refine va_iast hx hb hK hP hD hS 1 0 rfl rfl hi_5 dX5_put_34 (fun H locs hP hD hS => ?_)
          replace hP : va_P E.1 vwCl [(a_, .inr (6, [.ref a_row, .ref a_partners, .int c_askedCount, .int c_outcome, .ref a_share, .ref a_leftOver])), (a_row, .inl (E.2.1, 81, .inl (upd c_row (((17 : Int32) + (p1 * (8 : Int32))) + p2).toNatClampNeg p3)))] H := hP
          replace hD : va_D A [(a_, .inr (6, [.ref a_row, .ref a_partners, .int c_askedCount, .int c_outcome, .ref a_share, .ref a_leftOver])), (a_row, .inl (E.2.1, 81, .inl (upd c_row (((17 : Int32) + (p1 * (8 : Int32))) + p2).toNatClampNeg p3)))] := hD
          replace hF := nm_s hF
          obtain ⟨f_6, hf_6, hF⟩ := hF
          rw [← hf_6] at hP hD
          rw [hQ]
          have h9 := fin9 (P := fun u9 : (Nat → Int32) => va_P E.1 vwCl (w_X5_put E a_ a_row a_partners a_share a_leftOver c_askedCount c_outcome u9) H ∧ va_D A (w_X5_put E a_ a_row a_partners a_share a_leftOver c_askedCount c_outcome u9)) hF ⟨hP, hD⟩
          obtain ⟨hP9, hD9⟩ := h9
          exact W.vret hx hb hr (fun tt ht hW => ⟨⟨(), rfl, trivial, ht ▸ hP9, hD9⟩, hS.F ht⟩) hS.2.2 dX5_put_35

def F_X5_stepFrom (p1 : Int32) (c_row : Nat → Int32) : Option (Int32) :=
  if (2 : Int32) * (c_row 3) ≤ (0 : Int32) then some (0 : Int32) else if p1 < c_row 2 then nzI ((2 : Int32) * (c_row 3)) (some (((c_row 2) - p1) / ((2 : Int32) * (c_row 3)))) else some (0 : Int32)
abbrev w_X5_stepFrom (E : EE) (a_ a_row a_partners a_share a_leftOver : Nat) (c_askedCount : Int32) (c_outcome : Int32) (c_row : Nat → Int32) : va_W := [(a_, .inr (6, [.ref a_row, .ref a_partners, .int c_askedCount, .int c_outcome, .ref a_share, .ref a_leftOver])), (a_row, .inl (E.2.1, 81, .inl c_row))]
def v_f_X5_stepFrom : List Cond := List.cons (.code yX5_stepFrom cX5_stepFrom 3 (some .int)) (HAppend.hAppend (α := List Cond) (β := List Cond) (γ := List Cond) [.fieldLink RX5 11 "HushWatch$State" "row" "[I"] (HAppend.hAppend (α := List Cond) (β := List Cond) (γ := List Cond) wsX50 []))
theorem gw_f_X5_stepFrom : v_f_X5_stepFrom.all goodWord = true := by decide +kernel
theorem i_f_X5_stepFrom_X5 : ∀ w ∈ wsX50, w ∈ v_f_X5_stepFrom := fun _ h => List.mem_cons_of_mem _ (List.mem_append_right _ (List.mem_append_left _ h))
theorem hd_X5_stepFrom : yX5_stepFrom.cls = RX5 ∧ yX5_stepFrom.cls ≠ "java/lang/invoke/MethodHandle" ∧ yX5_stepFrom.cls ≠ "java/lang/invoke/VarHandle" ∧ (parseMethodDescriptor yX5_stepFrom.desc).map (fun d => d.parameters.length) = some 1 := by decide +kernel
set_option maxHeartbeats 4000000 in
set_option maxRecDepth 100000 in
theorem f_X5_stepFrom (l : Launch) (E : EE) {a_ a_row a_partners a_share a_leftOver : Nat} {p1 : Int32} {c_askedCount : Int32} {c_outcome : Int32} {c_row : Nat → Int32} {rr : Int32} (hF : F_X5_stepFrom p1 c_row = some rr) : Met l yX5_stepFrom v_f_X5_stepFrom (({ frames := 0, cells := 0, slots := 0, locals := 0 } : Room)) (va_Pc [.ref a_, .int p1] (pP E (w_X5_stepFrom E a_ a_row a_partners a_share a_leftOver c_askedCount c_outcome c_row))) (vp_Si (fun q : Int32 => q = rr)) 0 0 (fun _ => False) := by
  refine Met.ofW (cc := cX5_stepFrom) (maxL := 3) (ret := (some .int)) (by decide) rfl ?_
  intro p e s m args below meth c s₁ B hml hv
  obtain ⟨rfl, ⟨hK, hN⟩, hP⟩ := hv
  have hx := B.exec
  have hb := B.bytes
  have hr := B.returns
  have hts := atoms_spec (ws := v_f_X5_stepFrom) B.pre
  have hown : s.vm.findClass RX5 = some m.cls := own_of hd_X5_stepFrom.1 (findClass_of_methodNamed B.named)
  have hlocks : meth.locks = false := B.notSynchronized
  replace hP : va_P E.1 vwCl [(a_, .inr (6, [.ref a_row, .ref a_partners, .int c_askedCount, .int c_outcome, .ref a_share, .ref a_leftOver])), (a_row, .inl (E.2.1, 81, .inl c_row))] s.heap := hP
  have hl := lv_entry ([.ref a_, .int p1]) (n := 3) (Nat.le_of_ble_eq_true rfl)
  rw [lg_entry_eq]
  generalize (lg_sl ([.ref a_, .int p1]) ++ List.replicate (3 - (lg_sl ([.ref a_, .int p1])).length) Slot.unset).toArray = ls at hl ⊢
  have hl : lv_has ls 3 [(0, .ref a_), (1, .int p1)] := hl
  obtain ⟨Q, hQ⟩ : ∃ Q : State → Prop, Q = MQ below (vp_Si (fun q : Int32 => q = rr)) #[Value.ref a_, Value.int p1] s 0 0 (fun _ => False) := ⟨_, rfl⟩
  rw [← hQ]
  change W p l e ({ frames := 0, cells := 0, slots := 0, locals := 0 } : Room) s m #[Value.ref a_, Value.int p1] below meth c s.heap [] 0 0 Q (F0 m 0 ls [])
  unfold F_X5_stepFrom at hF
  refine lv_iconst (v := 2) hx hb dX5_stepFrom_0 (by decide) ?_
  refine lv_aload_n hx hb dX5_stepFrom_1 rfl (lv_at hl 0 rfl) ?_
  refine gt_X5_0 (v := .ref a_row) hx hb hts i_f_X5_stepFrom_X5 hown hK hP 0 rfl (hts (.fieldLink RX5 11 "HushWatch$State" "row" "[I") (List.mem_of_getElem? (i := 1) rfl)) rfl dX5_stepFrom_2 ?_
  refine lv_iconst (v := 3) hx hb dX5_stepFrom_5 (by decide) ?_
  refine va_iald hx hb hK hP 1 0 rfl rfl (vin rfl) dX5_stepFrom_6 ?_
  refine W.eq (g2 := F0 m 7 ls [.int (c_row 3), .int (2 : Int32)]) rfl ?_
  refine lv_imul hx hb dX5_stepFrom_7 ?_
  refine lv_istore_n (lv' := [(2, .int ((2 : Int32) * (c_row 3))), (0, .ref a_), (1, .int p1)]) hx hb dX5_stepFrom_8 rfl hl (by decide) rfl (fun ls hl => ?_)
  refine lv_iload_n hx hb dX5_stepFrom_9 rfl (lv_at hl 0 rfl) ?_
  refine lv_if_le (tgt := 23) hx hb dX5_stepFrom_10 (by decide) (fun c_1 => ?_) (fun c_1 => ?_)
  ·
    replace hF := ip c_1 hF
    refine lv_iconst (v := 0) hx hb dX5_stepFrom_23 (by decide) ?_
    refine lv_goto (tgt := 37) hx hb dX5_stepFrom_24 (by decide) ?_
    rw [hQ]
    obtain e9_0 := inj1 hF
    exact W.iret (v := (0 : Int32)) hx hb hr (fun tt ht hW => ⟨_, rfl, e9_0, ht⟩) (fun _ h => by cases h) dX5_stepFrom_37
  ·
    replace hF := inn c_1 hF
    refine lv_iload_n hx hb dX5_stepFrom_13 rfl (lv_at hl 2 rfl) ?_
    refine lv_aload_n hx hb dX5_stepFrom_14 rfl (lv_at hl 1 rfl) ?_
    refine gt_X5_0 (v := .ref a_row) hx hb hts i_f_X5_stepFrom_X5 hown hK hP 0 rfl (hts (.fieldLink RX5 11 "HushWatch$State" "row" "[I") (List.mem_of_getElem? (i := 1) rfl)) rfl dX5_stepFrom_15 ?_
    refine lv_iconst (v := 2) hx hb dX5_stepFrom_18 (by decide) ?_
    refine va_iald hx hb hK hP 1 0 rfl rfl (vin rfl) dX5_stepFrom_19 ?_
    refine W.eq (g2 := F0 m 20 ls [.int (c_row 2), .int p1]) rfl ?_
    refine lv_icmp_lt (tgt := 27) hx hb dX5_stepFrom_20 (by decide) (fun c_2 => ?_) (fun c_2 => ?_)
    ·
      replace hF := ip c_2 hF
      refine lv_aload_n hx hb dX5_stepFrom_27 rfl (lv_at hl 1 rfl) ?_
      refine gt_X5_0 (v := .ref a_row) hx hb hts i_f_X5_stepFrom_X5 hown hK hP 0 rfl (hts (.fieldLink RX5 11 "HushWatch$State" "row" "[I") (List.mem_of_getElem? (i := 1) rfl)) rfl dX5_stepFrom_28 ?_
      refine lv_iconst (v := 2) hx hb dX5_stepFrom_31 (by decide) ?_
      refine va_iald hx hb hK hP 1 0 rfl rfl (vin rfl) dX5_stepFrom_32 ?_
      refine W.eq (g2 := F0 m 33 ls [.int (c_row 2)]) rfl ?_
      refine lv_iload_n hx hb dX5_stepFrom_33 rfl (lv_at hl 2 rfl) ?_
      refine lv_isub hx hb dX5_stepFrom_34 ?_
      refine lv_iload_n hx hb dX5_stepFrom_35 rfl (lv_at hl 0 rfl) ?_
      replace hF := nzI_s hF
      obtain ⟨hz_3, hF⟩ := hF
      refine lv_idiv hx hb dX5_stepFrom_36 (hz_3) ?_
      rw [hQ]
      obtain e9_0 := inj1 hF
      exact W.iret (v := ((c_row 2) - p1) / ((2 : Int32) * (c_row 3))) hx hb hr (fun tt ht hW => ⟨_, rfl, e9_0, ht⟩) (fun _ h => by cases h) dX5_stepFrom_37
    ·
      replace hF := inn c_2 hF
      refine lv_iconst (v := 0) hx hb dX5_stepFrom_23 (by decide) ?_
      refine lv_goto (tgt := 37) hx hb dX5_stepFrom_24 (by decide) ?_
      rw [hQ]
      obtain e9_0 := inj1 hF
      exact W.iret (v := (0 : Int32)) hx hb hr (fun tt ht hW => ⟨_, rfl, e9_0, ht⟩) (fun _ h => by cases h) dX5_stepFrom_37

def F_X5_sites (c_row : Nat → Int32) : Option (Int32) :=
  some (c_row 3)
abbrev w_X5_sites (E : EE) (a_ a_row a_partners a_share a_leftOver : Nat) (c_askedCount : Int32) (c_outcome : Int32) (c_row : Nat → Int32) : va_W := [(a_, .inr (6, [.ref a_row, .ref a_partners, .int c_askedCount, .int c_outcome, .ref a_share, .ref a_leftOver])), (a_row, .inl (E.2.1, 81, .inl c_row))]
def v_f_X5_sites : List Cond := List.cons (.code yX5_sites cX5_sites 1 (some .int)) (HAppend.hAppend (α := List Cond) (β := List Cond) (γ := List Cond) [.fieldLink RX5 11 "HushWatch$State" "row" "[I"] (HAppend.hAppend (α := List Cond) (β := List Cond) (γ := List Cond) wsX50 []))
theorem gw_f_X5_sites : v_f_X5_sites.all goodWord = true := by decide +kernel
theorem i_f_X5_sites_X5 : ∀ w ∈ wsX50, w ∈ v_f_X5_sites := fun _ h => List.mem_cons_of_mem _ (List.mem_append_right _ (List.mem_append_left _ h))
theorem hd_X5_sites : yX5_sites.cls = RX5 ∧ yX5_sites.cls ≠ "java/lang/invoke/MethodHandle" ∧ yX5_sites.cls ≠ "java/lang/invoke/VarHandle" ∧ (parseMethodDescriptor yX5_sites.desc).map (fun d => d.parameters.length) = some 0 := by decide +kernel
set_option maxHeartbeats 4000000 in
set_option maxRecDepth 100000 in
theorem f_X5_sites (l : Launch) (E : EE) {a_ a_row a_partners a_share a_leftOver : Nat} {c_askedCount : Int32} {c_outcome : Int32} {c_row : Nat → Int32} {rr : Int32} (hF : F_X5_sites c_row = some rr) : Met l yX5_sites v_f_X5_sites (({ frames := 0, cells := 0, slots := 0, locals := 0 } : Room)) (va_Pc [.ref a_] (pP E (w_X5_sites E a_ a_row a_partners a_share a_leftOver c_askedCount c_outcome c_row))) (vp_Si (fun q : Int32 => q = rr)) 0 0 (fun _ => False) := by
  refine Met.ofW (cc := cX5_sites) (maxL := 1) (ret := (some .int)) (by decide) rfl ?_
  intro p e s m args below meth c s₁ B hml hv
  obtain ⟨rfl, ⟨hK, hN⟩, hP⟩ := hv
  have hx := B.exec
  have hb := B.bytes
  have hr := B.returns
  have hts := atoms_spec (ws := v_f_X5_sites) B.pre
  have hown : s.vm.findClass RX5 = some m.cls := own_of hd_X5_sites.1 (findClass_of_methodNamed B.named)
  have hlocks : meth.locks = false := B.notSynchronized
  replace hP : va_P E.1 vwCl [(a_, .inr (6, [.ref a_row, .ref a_partners, .int c_askedCount, .int c_outcome, .ref a_share, .ref a_leftOver])), (a_row, .inl (E.2.1, 81, .inl c_row))] s.heap := hP
  have hl := lv_entry ([.ref a_]) (n := 1) (Nat.le_of_ble_eq_true rfl)
  rw [lg_entry_eq]
  generalize (lg_sl ([.ref a_]) ++ List.replicate (1 - (lg_sl ([.ref a_])).length) Slot.unset).toArray = ls at hl ⊢
  have hl : lv_has ls 1 [(0, .ref a_)] := hl
  obtain ⟨Q, hQ⟩ : ∃ Q : State → Prop, Q = MQ below (vp_Si (fun q : Int32 => q = rr)) #[Value.ref a_] s 0 0 (fun _ => False) := ⟨_, rfl⟩
  rw [← hQ]
  change W p l e ({ frames := 0, cells := 0, slots := 0, locals := 0 } : Room) s m #[Value.ref a_] below meth c s.heap [] 0 0 Q (F0 m 0 ls [])
  unfold F_X5_sites at hF
  refine lv_aload_n hx hb dX5_sites_0 rfl (lv_at hl 0 rfl) ?_
  refine gt_X5_0 (v := .ref a_row) hx hb hts i_f_X5_sites_X5 hown hK hP 0 rfl (hts (.fieldLink RX5 11 "HushWatch$State" "row" "[I") (List.mem_of_getElem? (i := 1) rfl)) rfl dX5_sites_1 ?_
  refine lv_iconst (v := 3) hx hb dX5_sites_4 (by decide) ?_
  refine va_iald hx hb hK hP 1 0 rfl rfl (vin rfl) dX5_sites_5 ?_
  refine W.eq (g2 := F0 m 6 ls [.int (c_row 3)]) rfl ?_
  rw [hQ]
  obtain e9_0 := inj1 hF
  exact W.iret (v := c_row 3) hx hb hr (fun tt ht hW => ⟨_, rfl, e9_0, ht⟩) (fun _ h => by cases h) dX5_sites_6

def B_X5_total_4 (p1 : Int32) (c_row : Nat → Int32) (x2 : Int32) (x3 : Int32) : Option ((Int32 × Int32) ⊕ (Int32)) :=
  bd1 (F_X5_sites c_row) (fun r_1 => if r_1 ≤ x3 then some (.inr x2) else bd1 (F_X5_of x3 p1 c_row) (fun r_4 => some (.inl (x2 + r_4, x3 + (1 : Int32)))))
def F_X5_total (K : Nat) (p1 : Int32) (c_row : Nat → Int32) : Option (Int32) :=
  bd1 (lpF (fun u9 : Int32 × Int32 => B_X5_total_4 p1 c_row u9.1 u9.2) K ((0 : Int32), (0 : Int32))) (fun x2_6 => some x2_6)
abbrev w_X5_total (E : EE) (a_ a_row a_partners a_share a_leftOver : Nat) (c_askedCount : Int32) (c_outcome : Int32) (c_row : Nat → Int32) : va_W := [(a_, .inr (6, [.ref a_row, .ref a_partners, .int c_askedCount, .int c_outcome, .ref a_share, .ref a_leftOver])), (a_row, .inl (E.2.1, 81, .inl c_row))]
def v_f_X5_total : List Cond := List.cons (.code yX5_total cX5_total 4 (some .int)) (HAppend.hAppend (α := List Cond) (β := List Cond) (γ := List Cond) [.methodLink RX5 45 yX5_sites, .instanceMethod yX5_sites, .selects RX5 yX5_sites yX5_sites, .initialized RX5, .methodLink RX5 69 yX5_of, .instanceMethod yX5_of, .selects RX5 yX5_of yX5_of] (HAppend.hAppend (α := List Cond) (β := List Cond) (γ := List Cond) v_f_X5_sites (HAppend.hAppend (α := List Cond) (β := List Cond) (γ := List Cond) v_f_X5_of [])))
theorem gw_f_X5_total : v_f_X5_total.all goodWord = true := by decide +kernel
theorem g_f_X5_total_f_X5_sites_45 : GoodIn v_f_X5_total (wsV RX5 45 RX5 yX5_sites v_f_X5_sites) := goodIn_app (goodIn_of _ (by decide +kernel)) (goodIn_sub (fun _ h => List.mem_cons_of_mem _ (List.mem_append_right _ (List.mem_append_left _ h))) gw_f_X5_sites)
theorem g_f_X5_total_f_X5_of_69 : GoodIn v_f_X5_total (wsV RX5 69 RX5 yX5_of v_f_X5_of) := goodIn_app (goodIn_of _ (by decide +kernel)) (goodIn_sub (fun _ h => List.mem_cons_of_mem _ (List.mem_append_right _ (List.mem_append_right _ (List.mem_append_left _ h)))) gw_f_X5_of)
theorem hd_X5_total : yX5_total.cls = RX5 ∧ yX5_total.cls ≠ "java/lang/invoke/MethodHandle" ∧ yX5_total.cls ≠ "java/lang/invoke/VarHandle" ∧ (parseMethodDescriptor yX5_total.desc).map (fun d => d.parameters.length) = some 1 := by decide +kernel
set_option maxHeartbeats 4000000 in
set_option maxRecDepth 100000 in
theorem wb_X5_total_4 {p : Program} (l : Launch) {e : Env} {s : State} {m : MethodId} {below : List Frame} {meth : Method} {c : Code} {Q : State → Prop} (E : EE) (K : Nat) {a_ a_row a_partners a_share a_leftOver : Nat} {p1 : Int32} {c_askedCount : Int32} {c_outcome : Int32} {c_row : Nat → Int32} {x2 : Int32} {x3 : Int32} (hx : p.tables.exec = Jvm.exec) (hb : c.code = cX5_total) (hml : c.maxLocals = 4) (hown : s.vm.findClass RX5 = some m.cls) (hts : ∀ w ∈ v_f_X5_total, w.before #[Value.ref a_, Value.int p1] s = true) (hK : va_K E.1 vwCl (TY E) s) (hN : NX s) {xx : (Int32 × Int32) ⊕ (Int32)} (hC : ∀ (x2 : Int32), ∀ (x3 : Int32), xx = .inl (x2, x3) → ∀ (ls : Array Slot), lv_has ls 4 [(0, .ref a_), (1, .int p1), (2, .int x2), (3, .int x3)] → W p l e ({ frames := 1, cells := 0, slots := 0, locals := 22 } : Room) s m #[Value.ref a_, Value.int p1] below meth c s.heap [] 0 0 Q (F0 m 4 ls [])) (hE : ∀ (x2 : Int32), xx = .inr x2 → ((∀ (ls : Array Slot), lv_has ls 4 [(2, .int x2)] → W p l e ({ frames := 1, cells := 0, slots := 0, locals := 22 } : Room) s m #[Value.ref a_, Value.int p1] below meth c s.heap [] 0 0 Q (F0 m 27 ls [])))) (hF : B_X5_total_4 p1 c_row x2 x3 = some xx) (hP : va_P E.1 vwCl (w_X5_total E a_ a_row a_partners a_share a_leftOver c_askedCount c_outcome c_row) s.heap) : ∀ (ls : Array Slot), lv_has ls 4 [(0, .ref a_), (1, .int p1), (2, .int x2), (3, .int x3)] → W p l e ({ frames := 1, cells := 0, slots := 0, locals := 22 } : Room) s m #[Value.ref a_, Value.int p1] below meth c s.heap [] 0 0 Q (F0 m 4 ls []) := by
  unfold B_X5_total_4 at hF
  replace hP : va_P E.1 vwCl [(a_, .inr (6, [.ref a_row, .ref a_partners, .int c_askedCount, .int c_outcome, .ref a_share, .ref a_leftOver])), (a_row, .inl (E.2.1, 81, .inl c_row))] s.heap := hP
  intro ls hl
  refine lv_iload_n hx hb dX5_total_4 rfl (lv_at hl 3 rfl) ?_
  refine lv_aload_n hx hb dX5_total_5 rfl (lv_at hl 0 rfl) ?_
  replace hF := bd1_s hF
  obtain ⟨r_1, hc_2, hF⟩ := hF
  have hPc : va_P E.1 vwCl (w_X5_sites E a_ a_row a_partners a_share a_leftOver c_askedCount c_outcome c_row) s.heap := hP.sub (ws' := [(a_, .inr (6, [.ref a_row, .ref a_partners, .int c_askedCount, .int c_outcome, .ref a_share, .ref a_leftOver])), (a_row, .inl (E.2.1, 81, .inl c_row))]) [0, 1] rfl
  have hrc := va_recv hK hPc (ci := 6) (q0 := 0) rfl rfl
  refine pE_i (va_runV (As := []) (rest := [.int x3])  ⟨hx, hb, hml, hown, hts⟩ (f_X5_sites l E (a_ := a_) (a_row := a_row) (a_partners := a_partners) (a_share := a_share) (a_leftOver := a_leftOver) (c_askedCount := c_askedCount) (c_outcome := c_outcome) (c_row := c_row) hc_2) (cwV 0 hts g_f_X5_total_f_X5_sites_45 rfl rfl rfl hd_X5_sites ⟨Nat.le_of_ble_eq_true rfl, Nat.le_of_ble_eq_true rfl⟩) ⟨pP.blind, hrc, (pP.pre ⟨hK, hN⟩ hPc)⟩ rfl rfl hl.1 rfl (lv_room (Nat.le_of_ble_eq_true rfl)) dX5_total_6 ⟨Nat.le_of_ble_eq_true rfl, Nat.le_of_ble_eq_true rfl⟩) ?_
  refine lv_icmp_ge (tgt := 27) hx hb dX5_total_9 (by decide) (fun c_3 => ?_) (fun c_3 => ?_)
  ·
    replace hF := ip c_3 hF
    cases hF
    exact hE x2 rfl ls (lv_sub hl [2] rfl)
  ·
    replace hF := inn c_3 hF
    refine lv_iload_n hx hb dX5_total_12 rfl (lv_at hl 2 rfl) ?_
    refine lv_aload_n hx hb dX5_total_13 rfl (lv_at hl 0 rfl) ?_
    refine lv_iload_n hx hb dX5_total_14 rfl (lv_at hl 3 rfl) ?_
    refine lv_iload_n hx hb dX5_total_15 rfl (lv_at hl 1 rfl) ?_
    replace hF := bd1_s hF
    obtain ⟨r_4, hc_5, hF⟩ := hF
    have hPc : va_P E.1 vwCl (w_X5_of E a_ a_row a_partners a_share a_leftOver c_askedCount c_outcome c_row) s.heap := hP.sub (ws' := [(a_, .inr (6, [.ref a_row, .ref a_partners, .int c_askedCount, .int c_outcome, .ref a_share, .ref a_leftOver])), (a_row, .inl (E.2.1, 81, .inl c_row))]) [0, 1] rfl
    have hrc := va_recv hK hPc (ci := 6) (q0 := 0) rfl rfl
    refine pE_i (va_runV (As := [.int x3, .int p1]) (rest := [.int x2])  ⟨hx, hb, hml, hown, hts⟩ (f_X5_of l E (a_ := a_) (a_row := a_row) (a_partners := a_partners) (a_share := a_share) (a_leftOver := a_leftOver) (p1 := x3) (p2 := p1) (c_askedCount := c_askedCount) (c_outcome := c_outcome) (c_row := c_row) hc_5) (cwV 2 hts g_f_X5_total_f_X5_of_69 rfl rfl rfl hd_X5_of ⟨Nat.le_of_ble_eq_true rfl, Nat.le_of_ble_eq_true rfl⟩) ⟨pP.blind, hrc, (pP.pre ⟨hK, hN⟩ hPc)⟩ rfl rfl hl.1 rfl (lv_room (Nat.le_of_ble_eq_true rfl)) dX5_total_16 ⟨Nat.le_of_ble_eq_true rfl, Nat.le_of_ble_eq_true rfl⟩) ?_
    refine lv_iadd hx hb dX5_total_19 ?_
    refine lv_istore_n (lv' := [(2, .int (x2 + r_4)), (0, .ref a_), (1, .int p1), (3, .int x3)]) hx hb dX5_total_20 rfl hl (by decide) rfl (fun ls hl => ?_)
    refine lv_iinc (v := x3 + (1 : Int32)) (lv' := [(3, .int (x3 + (1 : Int32))), (2, .int (x2 + r_4)), (0, .ref a_), (1, .int p1)]) hx hb dX5_total_21 hl (k := 3) rfl (rfl) (by decide) rfl (fun ls hl => ?_)
    refine lv_goto (tgt := 4) hx hb dX5_total_24 (by decide) ?_
    cases hF
    exact hC (x2 + r_4) (x3 + (1 : Int32)) rfl ls (lv_sub hl [2, 3, 1, 0] rfl)

set_option maxHeartbeats 4000000 in
set_option maxRecDepth 100000 in
theorem lw_X5_total_4 {p : Program} (l : Launch) {e : Env} {s : State} {m : MethodId} {below : List Frame} {meth : Method} {c : Code} {Q : State → Prop} (E : EE) (K : Nat) {a_ a_row a_partners a_share a_leftOver : Nat} {p1 : Int32} {c_askedCount : Int32} {c_outcome : Int32} {c_row : Nat → Int32} (hx : p.tables.exec = Jvm.exec) (hb : c.code = cX5_total) (hml : c.maxLocals = 4) (hown : s.vm.findClass RX5 = some m.cls) (hts : ∀ w ∈ v_f_X5_total, w.before #[Value.ref a_, Value.int p1] s = true) (hK : va_K E.1 vwCl (TY E) s) (hN : NX s) (hP : va_P E.1 vwCl (w_X5_total E a_ a_row a_partners a_share a_leftOver c_askedCount c_outcome c_row) s.heap) (j9 : Nat) (x2 : Int32) (x3 : Int32) (x2' : Int32) (hL : lpF (fun u9 : Int32 × Int32 => B_X5_total_4 p1 c_row u9.1 u9.2) j9 (x2, x3) = some x2') (hX : (∀ (ls : Array Slot), lv_has ls 4 [(2, .int x2')] → W p l e ({ frames := 1, cells := 0, slots := 0, locals := 22 } : Room) s m #[Value.ref a_, Value.int p1] below meth c s.heap [] 0 0 Q (F0 m 27 ls []))) : ∀ (ls : Array Slot), lv_has ls 4 [(0, .ref a_), (1, .int p1), (2, .int x2), (3, .int x3)] → W p l e ({ frames := 1, cells := 0, slots := 0, locals := 22 } : Room) s m #[Value.ref a_, Value.int p1] below meth c s.heap [] 0 0 Q (F0 m 4 ls []) := by
  exact lp_rule (P := (fun u9 : Int32 × Int32 => ∀ (ls : Array Slot), lv_has ls 4 [(0, .ref a_), (1, .int p1), (2, .int u9.1), (3, .int u9.2)] → W p l e ({ frames := 1, cells := 0, slots := 0, locals := 22 } : Room) s m #[Value.ref a_, Value.int p1] below meth c s.heap [] 0 0 Q (F0 m 4 ls []))) (R := (fun r9 : Int32 => (∀ (ls : Array Slot), lv_has ls 4 [(2, .int r9)] → W p l e ({ frames := 1, cells := 0, slots := 0, locals := 22 } : Room) s m #[Value.ref a_, Value.int p1] below meth c s.heap [] 0 0 Q (F0 m 27 ls [])))) (fun u9 xx hF hC hE => wb_X5_total_4 l E K (p1 := p1) (c_askedCount := c_askedCount) (c_outcome := c_outcome) (c_row := c_row) (x2 := u9.1) (x3 := u9.2) hx hb hml hown hts hK hN (fun x2 x3 q9 => hC _ q9) (fun x2 q9 => hE _ q9) hF hP) j9 (x2, x3) x2' hL hX

set_option maxHeartbeats 4000000 in
set_option maxRecDepth 100000 in
theorem f_X5_total (l : Launch) (E : EE) (K : Nat) {a_ a_row a_partners a_share a_leftOver : Nat} {p1 : Int32} {c_askedCount : Int32} {c_outcome : Int32} {c_row : Nat → Int32} {rr : Int32} (hF : F_X5_total K p1 c_row = some rr) : Met l yX5_total v_f_X5_total (({ frames := 1, cells := 0, slots := 0, locals := 22 } : Room)) (va_Pc [.ref a_, .int p1] (pP E (w_X5_total E a_ a_row a_partners a_share a_leftOver c_askedCount c_outcome c_row))) (vp_Si (fun q : Int32 => q = rr)) 0 0 (fun _ => False) := by
  refine Met.ofW (cc := cX5_total) (maxL := 4) (ret := (some .int)) (by decide) rfl ?_
  intro p e s m args below meth c s₁ B hml hv
  obtain ⟨rfl, ⟨hK, hN⟩, hP⟩ := hv
  have hx := B.exec
  have hb := B.bytes
  have hr := B.returns
  have hts := atoms_spec (ws := v_f_X5_total) B.pre
  have hown : s.vm.findClass RX5 = some m.cls := own_of hd_X5_total.1 (findClass_of_methodNamed B.named)
  have hlocks : meth.locks = false := B.notSynchronized
  replace hP : va_P E.1 vwCl [(a_, .inr (6, [.ref a_row, .ref a_partners, .int c_askedCount, .int c_outcome, .ref a_share, .ref a_leftOver])), (a_row, .inl (E.2.1, 81, .inl c_row))] s.heap := hP
  have hl := lv_entry ([.ref a_, .int p1]) (n := 4) (Nat.le_of_ble_eq_true rfl)
  rw [lg_entry_eq]
  generalize (lg_sl ([.ref a_, .int p1]) ++ List.replicate (4 - (lg_sl ([.ref a_, .int p1])).length) Slot.unset).toArray = ls at hl ⊢
  have hl : lv_has ls 4 [(0, .ref a_), (1, .int p1)] := hl
  obtain ⟨Q, hQ⟩ : ∃ Q : State → Prop, Q = MQ below (vp_Si (fun q : Int32 => q = rr)) #[Value.ref a_, Value.int p1] s 0 0 (fun _ => False) := ⟨_, rfl⟩
  rw [← hQ]
  change W p l e ({ frames := 1, cells := 0, slots := 0, locals := 22 } : Room) s m #[Value.ref a_, Value.int p1] below meth c s.heap [] 0 0 Q (F0 m 0 ls [])
  unfold F_X5_total at hF
  refine lv_iconst (v := 0) hx hb dX5_total_0 (by decide) ?_
  refine lv_istore_n (lv' := [(2, .int (0 : Int32)), (0, .ref a_), (1, .int p1)]) hx hb dX5_total_1 rfl hl (by decide) rfl (fun ls hl => ?_)
  refine lv_iconst (v := 0) hx hb dX5_total_2 (by decide) ?_
  refine lv_istore_n (lv' := [(3, .int (0 : Int32)), (2, .int (0 : Int32)), (0, .ref a_), (1, .int p1)]) hx hb dX5_total_3 rfl hl (by decide) rfl (fun ls hl => ?_)
  replace hF := bd1_s hF
  obtain ⟨x2_6, hL_7, hF⟩ := hF
  refine lw_X5_total_4 l E K (p1 := p1) (c_askedCount := c_askedCount) (c_outcome := c_outcome) (c_row := c_row) hx hb hml hown hts hK hN hP K (0 : Int32) (0 : Int32) x2_6 hL_7 ?_ ls (lv_sub hl [2, 3, 1, 0] rfl)
  ·
    intro ls hl
    refine lv_iload_n hx hb dX5_total_27 rfl (lv_at hl 0 rfl) ?_
    rw [hQ]
    obtain e9_0 := inj1 hF
    exact W.iret (v := x2_6) hx hb hr (fun tt ht hW => ⟨_, rfl, e9_0, ht⟩) (fun _ h => by cases h) dX5_total_28

def B_X5_endRound_34 (x1 : Int32) (c_row : Nat → Int32) : Option ((Int32 × (Nat → Int32)) ⊕ ((Nat → Int32))) :=
  bd1 (F_X5_sites c_row) (fun r_6 => if r_6 ≤ x1 then some (.inr c_row) else bd1 (F_X5_put x1 (7 : Int32) (0 : Int32) c_row) (fun w_9 => some (.inl (x1 + (1 : Int32), w_9))))
def F_X5_endRound (K : Nat) (c_row : Nat → Int32) : Option ((Nat → Int32)) :=
  bd1 (F_X5_total K (6 : Int32) c_row) (fun r_1 => nmF (upd c_row 8 r_1) (fun f_3 => nmF (upd f_3 9 (0 : Int32)) (fun f_4 => nmF (upd f_4 10 ((f_4 10) + (1 : Int32))) (fun f_5 => bd1 (lpF (fun u9 : Int32 × (Nat → Int32) => B_X5_endRound_34  u9.1 u9.2) K ((0 : Int32), f_5)) (fun c_row_11 => some c_row_11)))))
abbrev w_X5_endRound (E : EE) (a_ a_row a_partners a_share a_leftOver : Nat) (c_askedCount : Int32) (c_outcome : Int32) (c_row : Nat → Int32) : va_W := [(a_, .inr (6, [.ref a_row, .ref a_partners, .int c_askedCount, .int c_outcome, .ref a_share, .ref a_leftOver])), (a_row, .inl (E.2.1, 81, .inl c_row))]
def v_f_X5_endRound : List Cond := List.cons (.code yX5_endRound cX5_endRound 2 none) (HAppend.hAppend (α := List Cond) (β := List Cond) (γ := List Cond) [.fieldLink RX5 11 "HushWatch$State" "row" "[I", .methodLink RX5 188 yX5_total, .instanceMethod yX5_total, .selects RX5 yX5_total yX5_total, .initialized RX5, .methodLink RX5 45 yX5_sites, .instanceMethod yX5_sites, .selects RX5 yX5_sites yX5_sites, .methodLink RX5 52 yX5_put, .instanceMethod yX5_put, .selects RX5 yX5_put yX5_put] (HAppend.hAppend (α := List Cond) (β := List Cond) (γ := List Cond) wsX50 (HAppend.hAppend (α := List Cond) (β := List Cond) (γ := List Cond) v_f_X5_total (HAppend.hAppend (α := List Cond) (β := List Cond) (γ := List Cond) v_f_X5_sites (HAppend.hAppend (α := List Cond) (β := List Cond) (γ := List Cond) v_f_X5_put [])))))
theorem gw_f_X5_endRound : v_f_X5_endRound.all goodWord = true := by decide +kernel
theorem i_f_X5_endRound_X5 : ∀ w ∈ wsX50, w ∈ v_f_X5_endRound := fun _ h => List.mem_cons_of_mem _ (List.mem_append_right _ (List.mem_append_left _ h))
theorem g_f_X5_endRound_f_X5_total_188 : GoodIn v_f_X5_endRound (wsV RX5 188 RX5 yX5_total v_f_X5_total) := goodIn_app (goodIn_of _ (by decide +kernel)) (goodIn_sub (fun _ h => List.mem_cons_of_mem _ (List.mem_append_right _ (List.mem_append_right _ (List.mem_append_left _ h)))) gw_f_X5_total)
theorem g_f_X5_endRound_f_X5_sites_45 : GoodIn v_f_X5_endRound (wsV RX5 45 RX5 yX5_sites v_f_X5_sites) := goodIn_app (goodIn_of _ (by decide +kernel)) (goodIn_sub (fun _ h => List.mem_cons_of_mem _ (List.mem_append_right _ (List.mem_append_right _ (List.mem_append_right _ (List.mem_append_left _ h))))) gw_f_X5_sites)
theorem g_f_X5_endRound_f_X5_put_52 : GoodIn v_f_X5_endRound (wsV RX5 52 RX5 yX5_put v_f_X5_put) := goodIn_app (goodIn_of _ (by decide +kernel)) (goodIn_sub (fun _ h => List.mem_cons_of_mem _ (List.mem_append_right _ (List.mem_append_right _ (List.mem_append_right _ (List.mem_append_right _ (List.mem_append_left _ h)))))) gw_f_X5_put)
theorem hd_X5_endRound : yX5_endRound.cls = RX5 ∧ yX5_endRound.cls ≠ "java/lang/invoke/MethodHandle" ∧ yX5_endRound.cls ≠ "java/lang/invoke/VarHandle" ∧ (parseMethodDescriptor yX5_endRound.desc).map (fun d => d.parameters.length) = some 0 := by decide +kernel
set_option maxHeartbeats 4000000 in
set_option maxRecDepth 100000 in
theorem wb_X5_endRound_34 {p : Program} (l : Launch) {e : Env} {s : State} {m : MethodId} {below : List Frame} {meth : Method} {c : Code} {Q : State → Prop} (E : EE) (K : Nat) {a_ a_row a_partners a_share a_leftOver : Nat} {c_askedCount : Int32} {c_outcome : Int32} {x1 : Int32} {c_row : Nat → Int32} (hx : p.tables.exec = Jvm.exec) (hb : c.code = cX5_endRound) (hml : c.maxLocals = 2) (hown : s.vm.findClass RX5 = some m.cls) (hts : ∀ w ∈ v_f_X5_endRound, w.before #[Value.ref a_] s = true) (hK : va_K E.1 vwCl (TY E) s) (hN : NX s) {A : Nat → Prop} (hA : ∀ q : Nat, s.heap.size ≤ q → A q) {xx : (Int32 × (Nat → Int32)) ⊕ ((Nat → Int32))} (hC : ∀ (x1 : Int32), ∀ (c_row : Nat → Int32), xx = .inl (x1, c_row) → ∀ (H : Heap) (locs : List Loc) (ls : Array Slot), va_P E.1 vwCl (w_X5_endRound E a_ a_row a_partners a_share a_leftOver c_askedCount c_outcome c_row) H → va_D A (w_X5_endRound E a_ a_row a_partners a_share a_leftOver c_askedCount c_outcome c_row) → va_S A s.heap H locs → lv_has ls 2 [(0, .ref a_), (1, .int x1)] → W p l e ({ frames := 2, cells := 0, slots := 0, locals := 45 } : Room) s m #[Value.ref a_] below meth c H locs 0 0 Q (F0 m 34 ls [])) (hE : ∀ (c_row : Nat → Int32), xx = .inr c_row → ((∀ (H : Heap) (locs : List Loc) (ls : Array Slot), va_P E.1 vwCl (w_X5_endRound E a_ a_row a_partners a_share a_leftOver c_askedCount c_outcome c_row) H → va_D A (w_X5_endRound E a_ a_row a_partners a_share a_leftOver c_askedCount c_outcome c_row) → va_S A s.heap H locs → lv_has ls 2 [] → W p l e ({ frames := 2, cells := 0, slots := 0, locals := 45 } : Room) s m #[Value.ref a_] below meth c H locs 0 0 Q (F0 m 56 ls [])))) (hF : B_X5_endRound_34  x1 c_row = some xx) : ∀ (H : Heap) (locs : List Loc) (ls : Array Slot), va_P E.1 vwCl (w_X5_endRound E a_ a_row a_partners a_share a_leftOver c_askedCount c_outcome c_row) H → va_D A (w_X5_endRound E a_ a_row a_partners a_share a_leftOver c_askedCount c_outcome c_row) → va_S A s.heap H locs → lv_has ls 2 [(0, .ref a_), (1, .int x1)] → W p l e ({ frames := 2, cells := 0, slots := 0, locals := 45 } : Room) s m #[Value.ref a_] below meth c H locs 0 0 Q (F0 m 34 ls []) := by
  unfold B_X5_endRound_34 at hF
  intro H locs ls hP hD hS hl
  replace hP : va_P E.1 vwCl [(a_, .inr (6, [.ref a_row, .ref a_partners, .int c_askedCount, .int c_outcome, .ref a_share, .ref a_leftOver])), (a_row, .inl (E.2.1, 81, .inl c_row))] H := hP
  replace hD : va_D A [(a_, .inr (6, [.ref a_row, .ref a_partners, .int c_askedCount, .int c_outcome, .ref a_share, .ref a_leftOver])), (a_row, .inl (E.2.1, 81, .inl c_row))] := hD
  refine lv_iload_n hx hb dX5_endRound_34 rfl (lv_at hl 1 rfl) ?_
  refine lv_aload_n hx hb dX5_endRound_35 rfl (lv_at hl 0 rfl) ?_
  replace hF := bd1_s hF
  obtain ⟨r_6, hc_7, hF⟩ := hF
  have hPc : va_P E.1 vwCl (w_X5_sites E a_ a_row a_partners a_share a_leftOver c_askedCount c_outcome c_row) H := hP.sub (ws' := [(a_, .inr (6, [.ref a_row, .ref a_partners, .int c_askedCount, .int c_outcome, .ref a_share, .ref a_leftOver])), (a_row, .inl (E.2.1, 81, .inl c_row))]) [0, 1] rfl
  have hrc := va_recv hK hPc (ci := 6) (q0 := 0) rfl rfl
  refine pE_i (va_runV (As := []) (rest := [.int x1])  ⟨hx, hb, hml, hown, hts⟩ (f_X5_sites l E (a_ := a_) (a_row := a_row) (a_partners := a_partners) (a_share := a_share) (a_leftOver := a_leftOver) (c_askedCount := c_askedCount) (c_outcome := c_outcome) (c_row := c_row) hc_7) (cwV 0 hts g_f_X5_endRound_f_X5_sites_45 rfl rfl rfl hd_X5_sites ⟨Nat.le_of_ble_eq_true rfl, Nat.le_of_ble_eq_true rfl⟩) ⟨pP.blind, hrc, (pP.pre ⟨hK, hN⟩ hPc)⟩ rfl rfl hl.1 rfl (lv_room (Nat.le_of_ble_eq_true rfl)) dX5_endRound_36 ⟨Nat.le_of_ble_eq_true rfl, Nat.le_of_ble_eq_true rfl⟩) ?_
  refine lv_icmp_ge (tgt := 56) hx hb dX5_endRound_39 (by decide) (fun c_8 => ?_) (fun c_8 => ?_)
  ·
    replace hF := ip c_8 hF
    cases hF
    exact hE c_row rfl H locs ls (hP.sub [0, 1] rfl) (hD.sub [0, 1] (by decide) rfl) hS (lv_sub hl [] rfl)
  ·
    replace hF := inn c_8 hF
    refine lv_aload_n hx hb dX5_endRound_42 rfl (lv_at hl 0 rfl) ?_
    refine lv_iload_n hx hb dX5_endRound_43 rfl (lv_at hl 1 rfl) ?_
    refine lv_bipush (v := 7) hx hb dX5_endRound_44 (by decide) ?_
    refine lv_iconst (v := 0) hx hb dX5_endRound_46 (by decide) ?_
    replace hF := bd1_s hF
    obtain ⟨w_9, hc_10, hF⟩ := hF
    obtain ⟨hPc, hDc, hFc⟩ := wcut (wc := (w_X5_put E a_ a_row a_partners a_share a_leftOver c_askedCount c_outcome c_row)) hP hD hS hA [0, 1] (by decide) rfl
    have hrc := va_recv hK hPc (ci := 6) (q0 := 0) rfl rfl
    refine cE_v (wc := (w_X5_put E a_ a_row a_partners a_share a_leftOver c_askedCount c_outcome c_row)) (wr := []) (w1 := (w_X5_put E a_ a_row a_partners a_share a_leftOver c_askedCount c_outcome w_9)) (va_runV (As := [.int x1, .int (7 : Int32), .int (0 : Int32)]) (rest := [])  ⟨hx, hb, hml, hown, hts⟩ (f_X5_put l E H.size (a_ := a_) (a_row := a_row) (a_partners := a_partners) (a_share := a_share) (a_leftOver := a_leftOver) (p1 := x1) (p2 := (7 : Int32)) (p3 := (0 : Int32)) (c_askedCount := c_askedCount) (c_outcome := c_outcome) (c_row := c_row) hc_10) (cwV 3 hts g_f_X5_endRound_f_X5_put_52 rfl rfl rfl hd_X5_put ⟨Nat.le_of_ble_eq_true rfl, Nat.le_of_ble_eq_true rfl⟩) ⟨pW.blind, hrc, (pW.pre ⟨hK, hN⟩ hPc hDc)⟩ rfl rfl hl.1 rfl (lv_room (Nat.le_of_ble_eq_true rfl)) dX5_endRound_47 ⟨Nat.le_of_ble_eq_true rfl, Nat.le_of_ble_eq_true rfl⟩) hS hFc hP hD [0, 1] [] rfl rfl (by decide) (by decide) (fun H locs hP hD hS => ?_)
    replace hP : va_P E.1 vwCl [(a_, .inr (6, [.ref a_row, .ref a_partners, .int c_askedCount, .int c_outcome, .ref a_share, .ref a_leftOver])), (a_row, .inl (E.2.1, 81, .inl w_9))] H := hP
    replace hD : va_D A [(a_, .inr (6, [.ref a_row, .ref a_partners, .int c_askedCount, .int c_outcome, .ref a_share, .ref a_leftOver])), (a_row, .inl (E.2.1, 81, .inl w_9))] := hD
    refine lv_iinc (v := x1 + (1 : Int32)) (lv' := [(1, .int (x1 + (1 : Int32))), (0, .ref a_)]) hx hb dX5_endRound_50 hl (k := 1) rfl (rfl) (by decide) rfl (fun ls hl => ?_)
    refine lv_goto (tgt := 34) hx hb dX5_endRound_53 (by decide) ?_
    cases hF
    exact hC (x1 + (1 : Int32)) w_9 rfl H locs ls (hP.sub [0, 1] rfl) (hD.sub [0, 1] (by decide) rfl) hS (lv_sub hl [1, 0] rfl)

set_option maxHeartbeats 4000000 in
set_option maxRecDepth 100000 in
theorem lw_X5_endRound_34 {p : Program} (l : Launch) {e : Env} {s : State} {m : MethodId} {below : List Frame} {meth : Method} {c : Code} {Q : State → Prop} (E : EE) (K : Nat) {a_ a_row a_partners a_share a_leftOver : Nat} {c_askedCount : Int32} {c_outcome : Int32} (hx : p.tables.exec = Jvm.exec) (hb : c.code = cX5_endRound) (hml : c.maxLocals = 2) (hown : s.vm.findClass RX5 = some m.cls) (hts : ∀ w ∈ v_f_X5_endRound, w.before #[Value.ref a_] s = true) (hK : va_K E.1 vwCl (TY E) s) (hN : NX s) {A : Nat → Prop} (hA : ∀ q : Nat, s.heap.size ≤ q → A q) (j9 : Nat) (x1 : Int32) (c_row : Nat → Int32) (c_row' : Nat → Int32) (hL : lpF (fun u9 : Int32 × (Nat → Int32) => B_X5_endRound_34  u9.1 u9.2) j9 (x1, c_row) = some c_row') (hX : (∀ (H : Heap) (locs : List Loc) (ls : Array Slot), va_P E.1 vwCl (w_X5_endRound E a_ a_row a_partners a_share a_leftOver c_askedCount c_outcome c_row') H → va_D A (w_X5_endRound E a_ a_row a_partners a_share a_leftOver c_askedCount c_outcome c_row') → va_S A s.heap H locs → lv_has ls 2 [] → W p l e ({ frames := 2, cells := 0, slots := 0, locals := 45 } : Room) s m #[Value.ref a_] below meth c H locs 0 0 Q (F0 m 56 ls []))) : ∀ (H : Heap) (locs : List Loc) (ls : Array Slot), va_P E.1 vwCl (w_X5_endRound E a_ a_row a_partners a_share a_leftOver c_askedCount c_outcome c_row) H → va_D A (w_X5_endRound E a_ a_row a_partners a_share a_leftOver c_askedCount c_outcome c_row) → va_S A s.heap H locs → lv_has ls 2 [(0, .ref a_), (1, .int x1)] → W p l e ({ frames := 2, cells := 0, slots := 0, locals := 45 } : Room) s m #[Value.ref a_] below meth c H locs 0 0 Q (F0 m 34 ls []) := by
  exact lp_rule (P := (fun u9 : Int32 × (Nat → Int32) => ∀ (H : Heap) (locs : List Loc) (ls : Array Slot), va_P E.1 vwCl (w_X5_endRound E a_ a_row a_partners a_share a_leftOver c_askedCount c_outcome u9.2) H → va_D A (w_X5_endRound E a_ a_row a_partners a_share a_leftOver c_askedCount c_outcome u9.2) → va_S A s.heap H locs → lv_has ls 2 [(0, .ref a_), (1, .int u9.1)] → W p l e ({ frames := 2, cells := 0, slots := 0, locals := 45 } : Room) s m #[Value.ref a_] below meth c H locs 0 0 Q (F0 m 34 ls []))) (R := (fun r9 : (Nat → Int32) => (∀ (H : Heap) (locs : List Loc) (ls : Array Slot), va_P E.1 vwCl (w_X5_endRound E a_ a_row a_partners a_share a_leftOver c_askedCount c_outcome r9) H → va_D A (w_X5_endRound E a_ a_row a_partners a_share a_leftOver c_askedCount c_outcome r9) → va_S A s.heap H locs → lv_has ls 2 [] → W p l e ({ frames := 2, cells := 0, slots := 0, locals := 45 } : Room) s m #[Value.ref a_] below meth c H locs 0 0 Q (F0 m 56 ls [])))) (fun u9 xx hF hC hE => wb_X5_endRound_34 l E K (c_askedCount := c_askedCount) (c_outcome := c_outcome) (x1 := u9.1) (c_row := u9.2) hx hb hml hown hts hK hN hA (fun x1 c_row q9 => hC _ q9) (fun c_row q9 => hE _ q9) hF) j9 (x1, c_row) c_row' hL hX

set_option maxHeartbeats 4000000 in
set_option maxRecDepth 100000 in
theorem f_X5_endRound (l : Launch) (E : EE) (sz : Nat) (K : Nat) {a_ a_row a_partners a_share a_leftOver : Nat} {c_askedCount : Int32} {c_outcome : Int32} {c_row : Nat → Int32} {n_row : Nat → Int32} (hF : F_X5_endRound K c_row = some n_row) : Met l yX5_endRound v_f_X5_endRound (({ frames := 2, cells := 0, slots := 0, locals := 45 } : Room)) (va_Pc [.ref a_] (pW E sz (w_X5_endRound E a_ a_row a_partners a_share a_leftOver c_askedCount c_outcome c_row))) (va_Qv (fun (_u : Unit) => True) (fun (_u : Unit) tt => va_P E.1 vwCl (w_X5_endRound E a_ a_row a_partners a_share a_leftOver c_askedCount c_outcome n_row) tt.heap ∧ va_D (va_A (w_X5_endRound E a_ a_row a_partners a_share a_leftOver c_askedCount c_outcome c_row) sz) (w_X5_endRound E a_ a_row a_partners a_share a_leftOver c_askedCount c_outcome n_row)) (va_A (w_X5_endRound E a_ a_row a_partners a_share a_leftOver c_askedCount c_outcome c_row) sz)) 0 0 (va_A (w_X5_endRound E a_ a_row a_partners a_share a_leftOver c_askedCount c_outcome c_row) sz) := by
  refine Met.ofW (cc := cX5_endRound) (maxL := 2) (ret := none) (by decide) rfl ?_
  intro p e s m args below meth c s₁ B hml hv
  obtain ⟨rfl, hsz, ⟨hK, hN⟩, hP, hD0⟩ := hv
  have hx := B.exec
  have hb := B.bytes
  have hr := B.returns
  have hts := atoms_spec (ws := v_f_X5_endRound) B.pre
  have hown : s.vm.findClass RX5 = some m.cls := own_of hd_X5_endRound.1 (findClass_of_methodNamed B.named)
  have hlocks : meth.locks = false := B.notSynchronized
  subst hsz
  have hD := hD0.self (sz := s.heap.size)
  generalize hAe : va_A (w_X5_endRound E a_ a_row a_partners a_share a_leftOver c_askedCount c_outcome c_row) s.heap.size = A at hD ⊢
  have hA : ∀ q : Nat, s.heap.size ≤ q → A q := fun q h => by rw [← hAe]; exact Or.inr h
  have hS : va_S A s.heap s.heap [] := va_S.rf
  have hl := lv_entry ([.ref a_]) (n := 2) (Nat.le_of_ble_eq_true rfl)
  rw [lg_entry_eq]
  generalize (lg_sl ([.ref a_]) ++ List.replicate (2 - (lg_sl ([.ref a_])).length) Slot.unset).toArray = ls at hl ⊢
  have hl : lv_has ls 2 [(0, .ref a_)] := hl
  obtain ⟨Q, hQ⟩ : ∃ Q : State → Prop, Q = MQ below (va_Qv (fun (_u : Unit) => True) (fun (_u : Unit) tt => va_P E.1 vwCl (w_X5_endRound E a_ a_row a_partners a_share a_leftOver c_askedCount c_outcome n_row) tt.heap ∧ va_D A (w_X5_endRound E a_ a_row a_partners a_share a_leftOver c_askedCount c_outcome n_row)) A) #[Value.ref a_] s 0 0 A := ⟨_, rfl⟩
  rw [← hQ]
  change W p l e ({ frames := 2, cells := 0, slots := 0, locals := 45 } : Room) s m #[Value.ref a_] below meth c s.heap [] 0 0 Q (F0 m 0 ls [])
  suffices hh9 : ∀ (H : Heap) (locs : List Loc), va_P E.1 vwCl (w_X5_endRound E a_ a_row a_partners a_share a_leftOver c_askedCount c_outcome c_row) H → va_D A (w_X5_endRound E a_ a_row a_partners a_share a_leftOver c_askedCount c_outcome c_row) → va_S A s.heap H locs → W p l e ({ frames := 2, cells := 0, slots := 0, locals := 45 } : Room) s m #[Value.ref a_] below meth c H locs 0 0 Q (F0 m 0 ls []) from hh9 s.heap [] hP hD hS
  clear hP hD hS
  intro H locs hP hD hS
  replace hP : va_P E.1 vwCl [(a_, .inr (6, [.ref a_row, .ref a_partners, .int c_askedCount, .int c_outcome, .ref a_share, .ref a_leftOver])), (a_row, .inl (E.2.1, 81, .inl c_row))] H := hP
  replace hD : va_D A [(a_, .inr (6, [.ref a_row, .ref a_partners, .int c_askedCount, .int c_outcome, .ref a_share, .ref a_leftOver])), (a_row, .inl (E.2.1, 81, .inl c_row))] := hD
  unfold F_X5_endRound at hF
  refine lv_aload_n hx hb dX5_endRound_0 rfl (lv_at hl 0 rfl) ?_
  refine gt_X5_0 (v := .ref a_row) hx hb hts i_f_X5_endRound_X5 hown hK hP 0 rfl (hts (.fieldLink RX5 11 "HushWatch$State" "row" "[I") (List.mem_of_getElem? (i := 1) rfl)) rfl dX5_endRound_1 ?_
  refine lv_bipush (v := 8) hx hb dX5_endRound_4 (by decide) ?_
  refine lv_aload_n hx hb dX5_endRound_6 rfl (lv_at hl 0 rfl) ?_
  refine lv_bipush (v := 6) hx hb dX5_endRound_7 (by decide) ?_
  replace hF := bd1_s hF
  obtain ⟨r_1, hc_2, hF⟩ := hF
  have hPc : va_P E.1 vwCl (w_X5_total E a_ a_row a_partners a_share a_leftOver c_askedCount c_outcome c_row) H := hP.sub (ws' := [(a_, .inr (6, [.ref a_row, .ref a_partners, .int c_askedCount, .int c_outcome, .ref a_share, .ref a_leftOver])), (a_row, .inl (E.2.1, 81, .inl c_row))]) [0, 1] rfl
  have hrc := va_recv hK hPc (ci := 6) (q0 := 0) rfl rfl
  refine pE_i (va_runV (As := [.int (6 : Int32)]) (rest := [.int (8 : Int32), .ref a_row])  ⟨hx, hb, hml, hown, hts⟩ (f_X5_total l E K (a_ := a_) (a_row := a_row) (a_partners := a_partners) (a_share := a_share) (a_leftOver := a_leftOver) (p1 := (6 : Int32)) (c_askedCount := c_askedCount) (c_outcome := c_outcome) (c_row := c_row) hc_2) (cwV 1 hts g_f_X5_endRound_f_X5_total_188 rfl rfl rfl hd_X5_total ⟨Nat.le_of_ble_eq_true rfl, Nat.le_of_ble_eq_true rfl⟩) ⟨pP.blind, hrc, (pP.pre ⟨hK, hN⟩ hPc)⟩ rfl rfl hl.1 rfl (lv_room (Nat.le_of_ble_eq_true rfl)) dX5_endRound_9 ⟨Nat.le_of_ble_eq_true rfl, Nat.le_of_ble_eq_true rfl⟩) ?_
  refine va_iast hx hb hK hP hD hS 1 0 rfl rfl (vin rfl) dX5_endRound_12 (fun H locs hP hD hS => ?_)
  replace hP : va_P E.1 vwCl [(a_, .inr (6, [.ref a_row, .ref a_partners, .int c_askedCount, .int c_outcome, .ref a_share, .ref a_leftOver])), (a_row, .inl (E.2.1, 81, .inl (upd c_row 8 r_1)))] H := hP
  replace hD : va_D A [(a_, .inr (6, [.ref a_row, .ref a_partners, .int c_askedCount, .int c_outcome, .ref a_share, .ref a_leftOver])), (a_row, .inl (E.2.1, 81, .inl (upd c_row 8 r_1)))] := hD
  replace hF := nm_s hF
  obtain ⟨f_3, hf_3, hF⟩ := hF
  rw [← hf_3] at hP hD
  refine lv_aload_n hx hb dX5_endRound_13 rfl (lv_at hl 0 rfl) ?_
  refine gt_X5_0 (v := .ref a_row) hx hb hts i_f_X5_endRound_X5 hown hK hP 0 rfl (hts (.fieldLink RX5 11 "HushWatch$State" "row" "[I") (List.mem_of_getElem? (i := 1) rfl)) rfl dX5_endRound_14 ?_
  refine lv_bipush (v := 9) hx hb dX5_endRound_17 (by decide) ?_
  refine lv_iconst (v := 0) hx hb dX5_endRound_19 (by decide) ?_
  refine va_iast hx hb hK hP hD hS 1 0 rfl rfl (vin rfl) dX5_endRound_20 (fun H locs hP hD hS => ?_)
  replace hP : va_P E.1 vwCl [(a_, .inr (6, [.ref a_row, .ref a_partners, .int c_askedCount, .int c_outcome, .ref a_share, .ref a_leftOver])), (a_row, .inl (E.2.1, 81, .inl (upd f_3 9 (0 : Int32))))] H := hP
  replace hD : va_D A [(a_, .inr (6, [.ref a_row, .ref a_partners, .int c_askedCount, .int c_outcome, .ref a_share, .ref a_leftOver])), (a_row, .inl (E.2.1, 81, .inl (upd f_3 9 (0 : Int32))))] := hD
  replace hF := nm_s hF
  obtain ⟨f_4, hf_4, hF⟩ := hF
  rw [← hf_4] at hP hD
  refine lv_aload_n hx hb dX5_endRound_21 rfl (lv_at hl 0 rfl) ?_
  refine gt_X5_0 (v := .ref a_row) hx hb hts i_f_X5_endRound_X5 hown hK hP 0 rfl (hts (.fieldLink RX5 11 "HushWatch$State" "row" "[I") (List.mem_of_getElem? (i := 1) rfl)) rfl dX5_endRound_22 ?_
  refine lv_bipush (v := 10) hx hb dX5_endRound_25 (by decide) ?_
  refine lv_dup2_11 hx hb dX5_endRound_27 rfl rfl ?_
  refine va_iald hx hb hK hP 1 0 rfl rfl (vin rfl) dX5_endRound_28 ?_
  refine W.eq (g2 := F0 m 29 ls [.int (f_4 10), .int (10 : Int32), .ref a_row]) rfl ?_
  refine lv_iconst (v := 1) hx hb dX5_endRound_29 (by decide) ?_
  refine lv_iadd hx hb dX5_endRound_30 ?_
  refine va_iast hx hb hK hP hD hS 1 0 rfl rfl (vin rfl) dX5_endRound_31 (fun H locs hP hD hS => ?_)
  replace hP : va_P E.1 vwCl [(a_, .inr (6, [.ref a_row, .ref a_partners, .int c_askedCount, .int c_outcome, .ref a_share, .ref a_leftOver])), (a_row, .inl (E.2.1, 81, .inl (upd f_4 10 ((f_4 10) + (1 : Int32)))))] H := hP
  replace hD : va_D A [(a_, .inr (6, [.ref a_row, .ref a_partners, .int c_askedCount, .int c_outcome, .ref a_share, .ref a_leftOver])), (a_row, .inl (E.2.1, 81, .inl (upd f_4 10 ((f_4 10) + (1 : Int32)))))] := hD
  replace hF := nm_s hF
  obtain ⟨f_5, hf_5, hF⟩ := hF
  rw [← hf_5] at hP hD
  refine lv_iconst (v := 0) hx hb dX5_endRound_32 (by decide) ?_
  refine lv_istore_n (lv' := [(1, .int (0 : Int32)), (0, .ref a_)]) hx hb dX5_endRound_33 rfl hl (by decide) rfl (fun ls hl => ?_)
  replace hF := bd1_s hF
  obtain ⟨c_row_11, hL_12, hF⟩ := hF
  refine lw_X5_endRound_34 l E K (c_askedCount := c_askedCount) (c_outcome := c_outcome) hx hb hml hown hts hK hN hA K (0 : Int32) f_5 c_row_11 hL_12 ?_ H locs ls (hP.sub [0, 1] rfl) (hD.sub [0, 1] (by decide) rfl) hS (lv_sub hl [1, 0] rfl)
  ·
    intro H locs ls hP hD hS hl
    replace hP : va_P E.1 vwCl [(a_, .inr (6, [.ref a_row, .ref a_partners, .int c_askedCount, .int c_outcome, .ref a_share, .ref a_leftOver])), (a_row, .inl (E.2.1, 81, .inl c_row_11))] H := hP
    replace hD : va_D A [(a_, .inr (6, [.ref a_row, .ref a_partners, .int c_askedCount, .int c_outcome, .ref a_share, .ref a_leftOver])), (a_row, .inl (E.2.1, 81, .inl c_row_11))] := hD
    rw [hQ]
    have h9 := fin9 (P := fun u9 : (Nat → Int32) => va_P E.1 vwCl (w_X5_endRound E a_ a_row a_partners a_share a_leftOver c_askedCount c_outcome u9) H ∧ va_D A (w_X5_endRound E a_ a_row a_partners a_share a_leftOver c_askedCount c_outcome u9)) hF ⟨hP, hD⟩
    obtain ⟨hP9, hD9⟩ := h9
    exact W.vret hx hb hr (fun tt ht hW => ⟨⟨(), rfl, trivial, ht ▸ hP9, hD9⟩, hS.F ht⟩) hS.2.2 dX5_endRound_56

def B_X5_addTo_67 (p1 : Int32) (x3 : Int32) (x4 : Int32) (x5 : Int32) (c_row : Nat → Int32) : Option ((Int32 × Int32 × (Nat → Int32)) ⊕ (Nat × Int32 × (Nat → Int32))) :=
  if (8 : Int32) ≤ x5 then some (.inr (1, x4, c_row)) else bd1 (F_X5_of p1 (7 : Int32) c_row) (fun r_13 => if r_13 < x3 then some (.inr (1, x4, c_row)) else bd1 (F_X5_of p1 (7 : Int32) c_row) (fun r_16 => bd1 (F_X5_put p1 (7 : Int32) (r_16 - x3) c_row) (fun w_18 => nmF (upd w_18 9 ((w_18 9) + (1 : Int32))) (fun f_20 => if f_20 9 < f_20 3 then some (.inl (x4 + (1 : Int32), x5 + (1 : Int32), f_20)) else some (.inr (0, x4 + (1 : Int32), f_20))))))
def F_X5_addTo (K : Nat) (p1 : Int32) (p2 : Int32) (c_row : Nat → Int32) : Option (Int32 × (Nat → Int32)) :=
  bd1 (F_X5_of p1 (6 : Int32) c_row) (fun r_1 => bd1 (F_X5_put p1 (6 : Int32) (r_1 + p2) c_row) (fun w_3 => bd1 (F_X5_stepFrom (w_3 8) w_3) (fun r_5 => if r_5 = (0 : Int32) then nmF (upd w_3 8 ((w_3 8) + p2)) (fun f_28 => some ((1 : Int32), f_28)) else bd1 (F_X5_of p1 (7 : Int32) w_3) (fun r_8 => bd1 (F_X5_put p1 (7 : Int32) (r_8 + p2) w_3) (fun w_10 => bd3 (lpF (fun u9 : Int32 × Int32 × (Nat → Int32) => B_X5_addTo_67 p1 r_5 u9.1 u9.2.1 u9.2.2) K ((0 : Int32), (0 : Int32), w_10)) (fun t_22 x4_23 c_row_24 => if t_22 = 0 then bd1 (F_X5_endRound K c_row_24) (fun w_26 => some (x4_23 + ((2 : Int32) * (w_26 3)), w_26)) else if t_22 = 1 then some (x4_23, c_row_24) else none))))))
abbrev w_X5_addTo (E : EE) (a_ a_row a_partners a_share a_leftOver : Nat) (c_askedCount : Int32) (c_outcome : Int32) (c_row : Nat → Int32) : va_W := [(a_, .inr (6, [.ref a_row, .ref a_partners, .int c_askedCount, .int c_outcome, .ref a_share, .ref a_leftOver])), (a_row, .inl (E.2.1, 81, .inl c_row))]
def v_f_X5_addTo : List Cond := List.cons (.code yX5_addTo cX5_addTo 6 (some .int)) (HAppend.hAppend (α := List Cond) (β := List Cond) (γ := List Cond) [.fieldLink RX5 11 "HushWatch$State" "row" "[I", .methodLink RX5 69 yX5_of, .instanceMethod yX5_of, .selects RX5 yX5_of yX5_of, .initialized RX5, .methodLink RX5 52 yX5_put, .instanceMethod yX5_put, .selects RX5 yX5_put yX5_put, .methodLink RX5 182 yX5_stepFrom, .instanceMethod yX5_stepFrom, .selects RX5 yX5_stepFrom yX5_stepFrom, .methodLink RX5 185 yX5_endRound, .instanceMethod yX5_endRound, .selects RX5 yX5_endRound yX5_endRound] (HAppend.hAppend (α := List Cond) (β := List Cond) (γ := List Cond) v_f_X5_of (HAppend.hAppend (α := List Cond) (β := List Cond) (γ := List Cond) v_f_X5_put (HAppend.hAppend (α := List Cond) (β := List Cond) (γ := List Cond) wsX50 (HAppend.hAppend (α := List Cond) (β := List Cond) (γ := List Cond) v_f_X5_stepFrom (HAppend.hAppend (α := List Cond) (β := List Cond) (γ := List Cond) v_f_X5_endRound []))))))
theorem gw_f_X5_addTo : v_f_X5_addTo.all goodWord = true := by decide +kernel
theorem i_f_X5_addTo_X5 : ∀ w ∈ wsX50, w ∈ v_f_X5_addTo := fun _ h => List.mem_cons_of_mem _ (List.mem_append_right _ (List.mem_append_right _ (List.mem_append_right _ (List.mem_append_left _ h))))
theorem g_f_X5_addTo_f_X5_of_69 : GoodIn v_f_X5_addTo (wsV RX5 69 RX5 yX5_of v_f_X5_of) := goodIn_app (goodIn_of _ (by decide +kernel)) (goodIn_sub (fun _ h => List.mem_cons_of_mem _ (List.mem_append_right _ (List.mem_append_left _ h))) gw_f_X5_of)
theorem g_f_X5_addTo_f_X5_put_52 : GoodIn v_f_X5_addTo (wsV RX5 52 RX5 yX5_put v_f_X5_put) := goodIn_app (goodIn_of _ (by decide +kernel)) (goodIn_sub (fun _ h => List.mem_cons_of_mem _ (List.mem_append_right _ (List.mem_append_right _ (List.mem_append_left _ h)))) gw_f_X5_put)
theorem g_f_X5_addTo_f_X5_stepFrom_182 : GoodIn v_f_X5_addTo (wsV RX5 182 RX5 yX5_stepFrom v_f_X5_stepFrom) := goodIn_app (goodIn_of _ (by decide +kernel)) (goodIn_sub (fun _ h => List.mem_cons_of_mem _ (List.mem_append_right _ (List.mem_append_right _ (List.mem_append_right _ (List.mem_append_right _ (List.mem_append_left _ h)))))) gw_f_X5_stepFrom)
theorem g_f_X5_addTo_f_X5_endRound_185 : GoodIn v_f_X5_addTo (wsV RX5 185 RX5 yX5_endRound v_f_X5_endRound) := goodIn_app (goodIn_of _ (by decide +kernel)) (goodIn_sub (fun _ h => List.mem_cons_of_mem _ (List.mem_append_right _ (List.mem_append_right _ (List.mem_append_right _ (List.mem_append_right _ (List.mem_append_right _ (List.mem_append_left _ h))))))) gw_f_X5_endRound)
theorem hd_X5_addTo : yX5_addTo.cls = RX5 ∧ yX5_addTo.cls ≠ "java/lang/invoke/MethodHandle" ∧ yX5_addTo.cls ≠ "java/lang/invoke/VarHandle" ∧ (parseMethodDescriptor yX5_addTo.desc).map (fun d => d.parameters.length) = some 2 := by decide +kernel
set_option maxHeartbeats 4000000 in
set_option maxRecDepth 100000 in
theorem wb_X5_addTo_67 {p : Program} (l : Launch) {e : Env} {s : State} {m : MethodId} {below : List Frame} {meth : Method} {c : Code} {Q : State → Prop} (E : EE) (K : Nat) {a_ a_row a_partners a_share a_leftOver : Nat} {p1 : Int32} {p2 : Int32} {c_askedCount : Int32} {c_outcome : Int32} {x3 : Int32} {x4 : Int32} {x5 : Int32} {c_row : Nat → Int32} (hx : p.tables.exec = Jvm.exec) (hb : c.code = cX5_addTo) (hml : c.maxLocals = 6) (hown : s.vm.findClass RX5 = some m.cls) (hts : ∀ w ∈ v_f_X5_addTo, w.before #[Value.ref a_, Value.int p1, Value.int p2] s = true) (hK : va_K E.1 vwCl (TY E) s) (hN : NX s) {A : Nat → Prop} (hA : ∀ q : Nat, s.heap.size ≤ q → A q) {xx : (Int32 × Int32 × (Nat → Int32)) ⊕ (Nat × Int32 × (Nat → Int32))} (hC : ∀ (x4 : Int32), ∀ (x5 : Int32), ∀ (c_row : Nat → Int32), xx = .inl (x4, x5, c_row) → ∀ (H : Heap) (locs : List Loc) (ls : Array Slot), va_P E.1 vwCl (w_X5_addTo E a_ a_row a_partners a_share a_leftOver c_askedCount c_outcome c_row) H → va_D A (w_X5_addTo E a_ a_row a_partners a_share a_leftOver c_askedCount c_outcome c_row) → va_S A s.heap H locs → lv_has ls 6 [(0, .ref a_), (1, .int p1), (3, .int x3), (4, .int x4), (5, .int x5)] → W p l e ({ frames := 3, cells := 0, slots := 0, locals := 66 } : Room) s m #[Value.ref a_, Value.int p1, Value.int p2] below meth c H locs 0 0 Q (F0 m 67 ls [])) (hE : ∀ (t9 : Nat), ∀ (x4 : Int32), ∀ (c_row : Nat → Int32), xx = .inr (t9, x4, c_row) → ((t9 = 0 → ∀ (H : Heap) (locs : List Loc) (ls : Array Slot), va_P E.1 vwCl (w_X5_addTo E a_ a_row a_partners a_share a_leftOver c_askedCount c_outcome c_row) H → va_D A (w_X5_addTo E a_ a_row a_partners a_share a_leftOver c_askedCount c_outcome c_row) → va_S A s.heap H locs → lv_has ls 6 [(0, .ref a_), (4, .int x4)] → W p l e ({ frames := 3, cells := 0, slots := 0, locals := 66 } : Room) s m #[Value.ref a_, Value.int p1, Value.int p2] below meth c H locs 0 0 Q (F0 m 131 ls [])) ∧ (t9 = 1 → ∀ (H : Heap) (locs : List Loc) (ls : Array Slot), va_P E.1 vwCl (w_X5_addTo E a_ a_row a_partners a_share a_leftOver c_askedCount c_outcome c_row) H → va_D A (w_X5_addTo E a_ a_row a_partners a_share a_leftOver c_askedCount c_outcome c_row) → va_S A s.heap H locs → lv_has ls 6 [(4, .int x4)] → W p l e ({ frames := 3, cells := 0, slots := 0, locals := 66 } : Room) s m #[Value.ref a_, Value.int p1, Value.int p2] below meth c H locs 0 0 Q (F0 m 153 ls [])))) (hF : B_X5_addTo_67 p1 x3 x4 x5 c_row = some xx) : ∀ (H : Heap) (locs : List Loc) (ls : Array Slot), va_P E.1 vwCl (w_X5_addTo E a_ a_row a_partners a_share a_leftOver c_askedCount c_outcome c_row) H → va_D A (w_X5_addTo E a_ a_row a_partners a_share a_leftOver c_askedCount c_outcome c_row) → va_S A s.heap H locs → lv_has ls 6 [(0, .ref a_), (1, .int p1), (3, .int x3), (4, .int x4), (5, .int x5)] → W p l e ({ frames := 3, cells := 0, slots := 0, locals := 66 } : Room) s m #[Value.ref a_, Value.int p1, Value.int p2] below meth c H locs 0 0 Q (F0 m 67 ls []) := by
  unfold B_X5_addTo_67 at hF
  intro H locs ls hP hD hS hl
  replace hP : va_P E.1 vwCl [(a_, .inr (6, [.ref a_row, .ref a_partners, .int c_askedCount, .int c_outcome, .ref a_share, .ref a_leftOver])), (a_row, .inl (E.2.1, 81, .inl c_row))] H := hP
  replace hD : va_D A [(a_, .inr (6, [.ref a_row, .ref a_partners, .int c_askedCount, .int c_outcome, .ref a_share, .ref a_leftOver])), (a_row, .inl (E.2.1, 81, .inl c_row))] := hD
  refine lv_iload hx hb dX5_addTo_67 (lv_at hl 4 rfl) ?_
  refine lv_bipush (v := 8) hx hb dX5_addTo_69 (by decide) ?_
  refine lv_icmp_ge (tgt := 153) hx hb dX5_addTo_71 (by decide) (fun c_12 => ?_) (fun c_12 => ?_)
  ·
    replace hF := ip c_12 hF
    cases hF
    exact (hE 1 x4 c_row rfl).2 rfl H locs ls (hP.sub [0, 1] rfl) (hD.sub [0, 1] (by decide) rfl) hS (lv_sub hl [3] rfl)
  ·
    replace hF := inn c_12 hF
    refine lv_aload_n hx hb dX5_addTo_74 rfl (lv_at hl 0 rfl) ?_
    refine lv_iload_n hx hb dX5_addTo_75 rfl (lv_at hl 1 rfl) ?_
    refine lv_bipush (v := 7) hx hb dX5_addTo_76 (by decide) ?_
    replace hF := bd1_s hF
    obtain ⟨r_13, hc_14, hF⟩ := hF
    have hPc : va_P E.1 vwCl (w_X5_of E a_ a_row a_partners a_share a_leftOver c_askedCount c_outcome c_row) H := hP.sub (ws' := [(a_, .inr (6, [.ref a_row, .ref a_partners, .int c_askedCount, .int c_outcome, .ref a_share, .ref a_leftOver])), (a_row, .inl (E.2.1, 81, .inl c_row))]) [0, 1] rfl
    have hrc := va_recv hK hPc (ci := 6) (q0 := 0) rfl rfl
    refine pE_i (va_runV (As := [.int p1, .int (7 : Int32)]) (rest := [])  ⟨hx, hb, hml, hown, hts⟩ (f_X5_of l E (a_ := a_) (a_row := a_row) (a_partners := a_partners) (a_share := a_share) (a_leftOver := a_leftOver) (p1 := p1) (p2 := (7 : Int32)) (c_askedCount := c_askedCount) (c_outcome := c_outcome) (c_row := c_row) hc_14) (cwV 2 hts g_f_X5_addTo_f_X5_of_69 rfl rfl rfl hd_X5_of ⟨Nat.le_of_ble_eq_true rfl, Nat.le_of_ble_eq_true rfl⟩) ⟨pP.blind, hrc, (pP.pre ⟨hK, hN⟩ hPc)⟩ rfl rfl hl.1 rfl (lv_room (Nat.le_of_ble_eq_true rfl)) dX5_addTo_78 ⟨Nat.le_of_ble_eq_true rfl, Nat.le_of_ble_eq_true rfl⟩) ?_
    refine lv_iload_n hx hb dX5_addTo_81 rfl (lv_at hl 2 rfl) ?_
    refine lv_icmp_lt (tgt := 153) hx hb dX5_addTo_82 (by decide) (fun c_15 => ?_) (fun c_15 => ?_)
    ·
      replace hF := ip c_15 hF
      cases hF
      exact (hE 1 x4 c_row rfl).2 rfl H locs ls (hP.sub [0, 1] rfl) (hD.sub [0, 1] (by decide) rfl) hS (lv_sub hl [3] rfl)
    ·
      replace hF := inn c_15 hF
      refine lv_aload_n hx hb dX5_addTo_85 rfl (lv_at hl 0 rfl) ?_
      refine lv_iload_n hx hb dX5_addTo_86 rfl (lv_at hl 1 rfl) ?_
      refine lv_bipush (v := 7) hx hb dX5_addTo_87 (by decide) ?_
      refine lv_aload_n hx hb dX5_addTo_89 rfl (lv_at hl 0 rfl) ?_
      refine lv_iload_n hx hb dX5_addTo_90 rfl (lv_at hl 1 rfl) ?_
      refine lv_bipush (v := 7) hx hb dX5_addTo_91 (by decide) ?_
      replace hF := bd1_s hF
      obtain ⟨r_16, hc_17, hF⟩ := hF
      have hPc : va_P E.1 vwCl (w_X5_of E a_ a_row a_partners a_share a_leftOver c_askedCount c_outcome c_row) H := hP.sub (ws' := [(a_, .inr (6, [.ref a_row, .ref a_partners, .int c_askedCount, .int c_outcome, .ref a_share, .ref a_leftOver])), (a_row, .inl (E.2.1, 81, .inl c_row))]) [0, 1] rfl
      have hrc := va_recv hK hPc (ci := 6) (q0 := 0) rfl rfl
      refine pE_i (va_runV (As := [.int p1, .int (7 : Int32)]) (rest := [.int (7 : Int32), .int p1, .ref a_])  ⟨hx, hb, hml, hown, hts⟩ (f_X5_of l E (a_ := a_) (a_row := a_row) (a_partners := a_partners) (a_share := a_share) (a_leftOver := a_leftOver) (p1 := p1) (p2 := (7 : Int32)) (c_askedCount := c_askedCount) (c_outcome := c_outcome) (c_row := c_row) hc_17) (cwV 2 hts g_f_X5_addTo_f_X5_of_69 rfl rfl rfl hd_X5_of ⟨Nat.le_of_ble_eq_true rfl, Nat.le_of_ble_eq_true rfl⟩) ⟨pP.blind, hrc, (pP.pre ⟨hK, hN⟩ hPc)⟩ rfl rfl hl.1 rfl (lv_room (Nat.le_of_ble_eq_true rfl)) dX5_addTo_93 ⟨Nat.le_of_ble_eq_true rfl, Nat.le_of_ble_eq_true rfl⟩) ?_
      refine lv_iload_n hx hb dX5_addTo_96 rfl (lv_at hl 2 rfl) ?_
      refine lv_isub hx hb dX5_addTo_97 ?_
      replace hF := bd1_s hF
      obtain ⟨w_18, hc_19, hF⟩ := hF
      obtain ⟨hPc, hDc, hFc⟩ := wcut (wc := (w_X5_put E a_ a_row a_partners a_share a_leftOver c_askedCount c_outcome c_row)) hP hD hS hA [0, 1] (by decide) rfl
      have hrc := va_recv hK hPc (ci := 6) (q0 := 0) rfl rfl
      refine cE_v (wc := (w_X5_put E a_ a_row a_partners a_share a_leftOver c_askedCount c_outcome c_row)) (wr := []) (w1 := (w_X5_put E a_ a_row a_partners a_share a_leftOver c_askedCount c_outcome w_18)) (va_runV (As := [.int p1, .int (7 : Int32), .int (r_16 - x3)]) (rest := [])  ⟨hx, hb, hml, hown, hts⟩ (f_X5_put l E H.size (a_ := a_) (a_row := a_row) (a_partners := a_partners) (a_share := a_share) (a_leftOver := a_leftOver) (p1 := p1) (p2 := (7 : Int32)) (p3 := r_16 - x3) (c_askedCount := c_askedCount) (c_outcome := c_outcome) (c_row := c_row) hc_19) (cwV 3 hts g_f_X5_addTo_f_X5_put_52 rfl rfl rfl hd_X5_put ⟨Nat.le_of_ble_eq_true rfl, Nat.le_of_ble_eq_true rfl⟩) ⟨pW.blind, hrc, (pW.pre ⟨hK, hN⟩ hPc hDc)⟩ rfl rfl hl.1 rfl (lv_room (Nat.le_of_ble_eq_true rfl)) dX5_addTo_98 ⟨Nat.le_of_ble_eq_true rfl, Nat.le_of_ble_eq_true rfl⟩) hS hFc hP hD [0, 1] [] rfl rfl (by decide) (by decide) (fun H locs hP hD hS => ?_)
      replace hP : va_P E.1 vwCl [(a_, .inr (6, [.ref a_row, .ref a_partners, .int c_askedCount, .int c_outcome, .ref a_share, .ref a_leftOver])), (a_row, .inl (E.2.1, 81, .inl w_18))] H := hP
      replace hD : va_D A [(a_, .inr (6, [.ref a_row, .ref a_partners, .int c_askedCount, .int c_outcome, .ref a_share, .ref a_leftOver])), (a_row, .inl (E.2.1, 81, .inl w_18))] := hD
      refine lv_aload_n hx hb dX5_addTo_101 rfl (lv_at hl 0 rfl) ?_
      refine gt_X5_0 (v := .ref a_row) hx hb hts i_f_X5_addTo_X5 hown hK hP 0 rfl (hts (.fieldLink RX5 11 "HushWatch$State" "row" "[I") (List.mem_of_getElem? (i := 1) rfl)) rfl dX5_addTo_102 ?_
      refine lv_bipush (v := 9) hx hb dX5_addTo_105 (by decide) ?_
      refine lv_dup2_11 hx hb dX5_addTo_107 rfl rfl ?_
      refine va_iald hx hb hK hP 1 0 rfl rfl (vin rfl) dX5_addTo_108 ?_
      refine W.eq (g2 := F0 m 109 ls [.int (w_18 9), .int (9 : Int32), .ref a_row]) rfl ?_
      refine lv_iconst (v := 1) hx hb dX5_addTo_109 (by decide) ?_
      refine lv_iadd hx hb dX5_addTo_110 ?_
      refine va_iast hx hb hK hP hD hS 1 0 rfl rfl (vin rfl) dX5_addTo_111 (fun H locs hP hD hS => ?_)
      replace hP : va_P E.1 vwCl [(a_, .inr (6, [.ref a_row, .ref a_partners, .int c_askedCount, .int c_outcome, .ref a_share, .ref a_leftOver])), (a_row, .inl (E.2.1, 81, .inl (upd w_18 9 ((w_18 9) + (1 : Int32)))))] H := hP
      replace hD : va_D A [(a_, .inr (6, [.ref a_row, .ref a_partners, .int c_askedCount, .int c_outcome, .ref a_share, .ref a_leftOver])), (a_row, .inl (E.2.1, 81, .inl (upd w_18 9 ((w_18 9) + (1 : Int32)))))] := hD
      replace hF := nm_s hF
      obtain ⟨f_20, hf_20, hF⟩ := hF
      rw [← hf_20] at hP hD
      refine lv_iinc (v := x4 + (1 : Int32)) (lv' := [(4, .int (x4 + (1 : Int32))), (0, .ref a_), (1, .int p1), (3, .int x3), (5, .int x5)]) hx hb dX5_addTo_112 hl (k := 3) rfl (rfl) (by decide) rfl (fun ls hl => ?_)
      refine lv_aload_n hx hb dX5_addTo_115 rfl (lv_at hl 1 rfl) ?_
      refine gt_X5_0 (v := .ref a_row) hx hb hts i_f_X5_addTo_X5 hown hK hP 0 rfl (hts (.fieldLink RX5 11 "HushWatch$State" "row" "[I") (List.mem_of_getElem? (i := 1) rfl)) rfl dX5_addTo_116 ?_
      refine lv_bipush (v := 9) hx hb dX5_addTo_119 (by decide) ?_
      refine va_iald hx hb hK hP 1 0 rfl rfl (vin rfl) dX5_addTo_121 ?_
      refine W.eq (g2 := F0 m 122 ls [.int (f_20 9)]) rfl ?_
      refine lv_aload_n hx hb dX5_addTo_122 rfl (lv_at hl 1 rfl) ?_
      refine gt_X5_0 (v := .ref a_row) hx hb hts i_f_X5_addTo_X5 hown hK hP 0 rfl (hts (.fieldLink RX5 11 "HushWatch$State" "row" "[I") (List.mem_of_getElem? (i := 1) rfl)) rfl dX5_addTo_123 ?_
      refine lv_iconst (v := 3) hx hb dX5_addTo_126 (by decide) ?_
      refine va_iald hx hb hK hP 1 0 rfl rfl (vin rfl) dX5_addTo_127 ?_
      refine W.eq (g2 := F0 m 128 ls [.int (f_20 3), .int (f_20 9)]) rfl ?_
      refine lv_icmp_lt (tgt := 147) hx hb dX5_addTo_128 (by decide) (fun c_21 => ?_) (fun c_21 => ?_)
      ·
        replace hF := ip c_21 hF
        refine lv_iinc (v := x5 + (1 : Int32)) (lv' := [(5, .int (x5 + (1 : Int32))), (4, .int (x4 + (1 : Int32))), (0, .ref a_), (1, .int p1), (3, .int x3)]) hx hb dX5_addTo_147 hl (k := 4) rfl (rfl) (by decide) rfl (fun ls hl => ?_)
        refine lv_goto (tgt := 67) hx hb dX5_addTo_150 (by decide) ?_
        cases hF
        exact hC (x4 + (1 : Int32)) (x5 + (1 : Int32)) f_20 rfl H locs ls (hP.sub [0, 1] rfl) (hD.sub [0, 1] (by decide) rfl) hS (lv_sub hl [2, 3, 4, 1, 0] rfl)
      ·
        replace hF := inn c_21 hF
        cases hF
        exact (hE 0 (x4 + (1 : Int32)) f_20 rfl).1 rfl H locs ls (hP.sub [0, 1] rfl) (hD.sub [0, 1] (by decide) rfl) hS (lv_sub hl [1, 0] rfl)

set_option maxHeartbeats 4000000 in
set_option maxRecDepth 100000 in
theorem lw_X5_addTo_67 {p : Program} (l : Launch) {e : Env} {s : State} {m : MethodId} {below : List Frame} {meth : Method} {c : Code} {Q : State → Prop} (E : EE) (K : Nat) {a_ a_row a_partners a_share a_leftOver : Nat} {p1 : Int32} {p2 : Int32} {c_askedCount : Int32} {c_outcome : Int32} {x3 : Int32} (hx : p.tables.exec = Jvm.exec) (hb : c.code = cX5_addTo) (hml : c.maxLocals = 6) (hown : s.vm.findClass RX5 = some m.cls) (hts : ∀ w ∈ v_f_X5_addTo, w.before #[Value.ref a_, Value.int p1, Value.int p2] s = true) (hK : va_K E.1 vwCl (TY E) s) (hN : NX s) {A : Nat → Prop} (hA : ∀ q : Nat, s.heap.size ≤ q → A q) (j9 : Nat) (x4 : Int32) (x5 : Int32) (c_row : Nat → Int32) (t9' : Nat) (x4' : Int32) (c_row' : Nat → Int32) (hL : lpF (fun u9 : Int32 × Int32 × (Nat → Int32) => B_X5_addTo_67 p1 x3 u9.1 u9.2.1 u9.2.2) j9 (x4, x5, c_row) = some (t9', x4', c_row')) (hX : (t9' = 0 → ∀ (H : Heap) (locs : List Loc) (ls : Array Slot), va_P E.1 vwCl (w_X5_addTo E a_ a_row a_partners a_share a_leftOver c_askedCount c_outcome c_row') H → va_D A (w_X5_addTo E a_ a_row a_partners a_share a_leftOver c_askedCount c_outcome c_row') → va_S A s.heap H locs → lv_has ls 6 [(0, .ref a_), (4, .int x4')] → W p l e ({ frames := 3, cells := 0, slots := 0, locals := 66 } : Room) s m #[Value.ref a_, Value.int p1, Value.int p2] below meth c H locs 0 0 Q (F0 m 131 ls [])) ∧ (t9' = 1 → ∀ (H : Heap) (locs : List Loc) (ls : Array Slot), va_P E.1 vwCl (w_X5_addTo E a_ a_row a_partners a_share a_leftOver c_askedCount c_outcome c_row') H → va_D A (w_X5_addTo E a_ a_row a_partners a_share a_leftOver c_askedCount c_outcome c_row') → va_S A s.heap H locs → lv_has ls 6 [(4, .int x4')] → W p l e ({ frames := 3, cells := 0, slots := 0, locals := 66 } : Room) s m #[Value.ref a_, Value.int p1, Value.int p2] below meth c H locs 0 0 Q (F0 m 153 ls []))) : ∀ (H : Heap) (locs : List Loc) (ls : Array Slot), va_P E.1 vwCl (w_X5_addTo E a_ a_row a_partners a_share a_leftOver c_askedCount c_outcome c_row) H → va_D A (w_X5_addTo E a_ a_row a_partners a_share a_leftOver c_askedCount c_outcome c_row) → va_S A s.heap H locs → lv_has ls 6 [(0, .ref a_), (1, .int p1), (3, .int x3), (4, .int x4), (5, .int x5)] → W p l e ({ frames := 3, cells := 0, slots := 0, locals := 66 } : Room) s m #[Value.ref a_, Value.int p1, Value.int p2] below meth c H locs 0 0 Q (F0 m 67 ls []) := by
  exact lp_rule (P := (fun u9 : Int32 × Int32 × (Nat → Int32) => ∀ (H : Heap) (locs : List Loc) (ls : Array Slot), va_P E.1 vwCl (w_X5_addTo E a_ a_row a_partners a_share a_leftOver c_askedCount c_outcome u9.2.2) H → va_D A (w_X5_addTo E a_ a_row a_partners a_share a_leftOver c_askedCount c_outcome u9.2.2) → va_S A s.heap H locs → lv_has ls 6 [(0, .ref a_), (1, .int p1), (3, .int x3), (4, .int u9.1), (5, .int u9.2.1)] → W p l e ({ frames := 3, cells := 0, slots := 0, locals := 66 } : Room) s m #[Value.ref a_, Value.int p1, Value.int p2] below meth c H locs 0 0 Q (F0 m 67 ls []))) (R := (fun r9 : Nat × Int32 × (Nat → Int32) => (r9.1 = 0 → ∀ (H : Heap) (locs : List Loc) (ls : Array Slot), va_P E.1 vwCl (w_X5_addTo E a_ a_row a_partners a_share a_leftOver c_askedCount c_outcome r9.2.2) H → va_D A (w_X5_addTo E a_ a_row a_partners a_share a_leftOver c_askedCount c_outcome r9.2.2) → va_S A s.heap H locs → lv_has ls 6 [(0, .ref a_), (4, .int r9.2.1)] → W p l e ({ frames := 3, cells := 0, slots := 0, locals := 66 } : Room) s m #[Value.ref a_, Value.int p1, Value.int p2] below meth c H locs 0 0 Q (F0 m 131 ls [])) ∧ (r9.1 = 1 → ∀ (H : Heap) (locs : List Loc) (ls : Array Slot), va_P E.1 vwCl (w_X5_addTo E a_ a_row a_partners a_share a_leftOver c_askedCount c_outcome r9.2.2) H → va_D A (w_X5_addTo E a_ a_row a_partners a_share a_leftOver c_askedCount c_outcome r9.2.2) → va_S A s.heap H locs → lv_has ls 6 [(4, .int r9.2.1)] → W p l e ({ frames := 3, cells := 0, slots := 0, locals := 66 } : Room) s m #[Value.ref a_, Value.int p1, Value.int p2] below meth c H locs 0 0 Q (F0 m 153 ls [])))) (fun u9 xx hF hC hE => wb_X5_addTo_67 l E K (p1 := p1) (p2 := p2) (c_askedCount := c_askedCount) (c_outcome := c_outcome) (x3 := x3) (x4 := u9.1) (x5 := u9.2.1) (c_row := u9.2.2) hx hb hml hown hts hK hN hA (fun x4 x5 c_row q9 => hC _ q9) (fun t9 x4 c_row q9 => hE _ q9) hF) j9 (x4, x5, c_row) (t9', x4', c_row') hL hX

set_option maxHeartbeats 4000000 in
set_option maxRecDepth 100000 in
theorem f_X5_addTo (l : Launch) (E : EE) (sz : Nat) (K : Nat) {a_ a_row a_partners a_share a_leftOver : Nat} {p1 : Int32} {p2 : Int32} {c_askedCount : Int32} {c_outcome : Int32} {c_row : Nat → Int32} {rr : Int32} {n_row : Nat → Int32} (hF : F_X5_addTo K p1 p2 c_row = some (rr, n_row)) : Met l yX5_addTo v_f_X5_addTo (({ frames := 3, cells := 0, slots := 0, locals := 66 } : Room)) (va_Pc [.ref a_, .int p1, .int p2] (pW E sz (w_X5_addTo E a_ a_row a_partners a_share a_leftOver c_askedCount c_outcome c_row))) (va_Qi (fun (q : Int32) (_u : Unit) => q = rr) (fun (_u : Unit) tt => va_P E.1 vwCl (w_X5_addTo E a_ a_row a_partners a_share a_leftOver c_askedCount c_outcome n_row) tt.heap ∧ va_D (va_A (w_X5_addTo E a_ a_row a_partners a_share a_leftOver c_askedCount c_outcome c_row) sz) (w_X5_addTo E a_ a_row a_partners a_share a_leftOver c_askedCount c_outcome n_row)) (va_A (w_X5_addTo E a_ a_row a_partners a_share a_leftOver c_askedCount c_outcome c_row) sz)) 0 0 (va_A (w_X5_addTo E a_ a_row a_partners a_share a_leftOver c_askedCount c_outcome c_row) sz) := by
  refine Met.ofW (cc := cX5_addTo) (maxL := 6) (ret := (some .int)) (by decide) rfl ?_
  intro p e s m args below meth c s₁ B hml hv
  obtain ⟨rfl, hsz, ⟨hK, hN⟩, hP, hD0⟩ := hv
  have hx := B.exec
  have hb := B.bytes
  have hr := B.returns
  have hts := atoms_spec (ws := v_f_X5_addTo) B.pre
  have hown : s.vm.findClass RX5 = some m.cls := own_of hd_X5_addTo.1 (findClass_of_methodNamed B.named)
  have hlocks : meth.locks = false := B.notSynchronized
  subst hsz
  have hD := hD0.self (sz := s.heap.size)
  generalize hAe : va_A (w_X5_addTo E a_ a_row a_partners a_share a_leftOver c_askedCount c_outcome c_row) s.heap.size = A at hD ⊢
  have hA : ∀ q : Nat, s.heap.size ≤ q → A q := fun q h => by rw [← hAe]; exact Or.inr h
  have hS : va_S A s.heap s.heap [] := va_S.rf
  have hl := lv_entry ([.ref a_, .int p1, .int p2]) (n := 6) (Nat.le_of_ble_eq_true rfl)
  rw [lg_entry_eq]
  generalize (lg_sl ([.ref a_, .int p1, .int p2]) ++ List.replicate (6 - (lg_sl ([.ref a_, .int p1, .int p2])).length) Slot.unset).toArray = ls at hl ⊢
  have hl : lv_has ls 6 [(0, .ref a_), (1, .int p1), (2, .int p2)] := hl
  obtain ⟨Q, hQ⟩ : ∃ Q : State → Prop, Q = MQ below (va_Qi (fun (q : Int32) (_u : Unit) => q = rr) (fun (_u : Unit) tt => va_P E.1 vwCl (w_X5_addTo E a_ a_row a_partners a_share a_leftOver c_askedCount c_outcome n_row) tt.heap ∧ va_D A (w_X5_addTo E a_ a_row a_partners a_share a_leftOver c_askedCount c_outcome n_row)) A) #[Value.ref a_, Value.int p1, Value.int p2] s 0 0 A := ⟨_, rfl⟩
  rw [← hQ]
  change W p l e ({ frames := 3, cells := 0, slots := 0, locals := 66 } : Room) s m #[Value.ref a_, Value.int p1, Value.int p2] below meth c s.heap [] 0 0 Q (F0 m 0 ls [])
  suffices hh9 : ∀ (H : Heap) (locs : List Loc), va_P E.1 vwCl (w_X5_addTo E a_ a_row a_partners a_share a_leftOver c_askedCount c_outcome c_row) H → va_D A (w_X5_addTo E a_ a_row a_partners a_share a_leftOver c_askedCount c_outcome c_row) → va_S A s.heap H locs → W p l e ({ frames := 3, cells := 0, slots := 0, locals := 66 } : Room) s m #[Value.ref a_, Value.int p1, Value.int p2] below meth c H locs 0 0 Q (F0 m 0 ls []) from hh9 s.heap [] hP hD hS
  clear hP hD hS
  intro H locs hP hD hS
  replace hP : va_P E.1 vwCl [(a_, .inr (6, [.ref a_row, .ref a_partners, .int c_askedCount, .int c_outcome, .ref a_share, .ref a_leftOver])), (a_row, .inl (E.2.1, 81, .inl c_row))] H := hP
  replace hD : va_D A [(a_, .inr (6, [.ref a_row, .ref a_partners, .int c_askedCount, .int c_outcome, .ref a_share, .ref a_leftOver])), (a_row, .inl (E.2.1, 81, .inl c_row))] := hD
  unfold F_X5_addTo at hF
  refine lv_aload_n hx hb dX5_addTo_0 rfl (lv_at hl 0 rfl) ?_
  refine lv_iload_n hx hb dX5_addTo_1 rfl (lv_at hl 1 rfl) ?_
  refine lv_bipush (v := 6) hx hb dX5_addTo_2 (by decide) ?_
  refine lv_aload_n hx hb dX5_addTo_4 rfl (lv_at hl 0 rfl) ?_
  refine lv_iload_n hx hb dX5_addTo_5 rfl (lv_at hl 1 rfl) ?_
  refine lv_bipush (v := 6) hx hb dX5_addTo_6 (by decide) ?_
  replace hF := bd1_s hF
  obtain ⟨r_1, hc_2, hF⟩ := hF
  have hPc : va_P E.1 vwCl (w_X5_of E a_ a_row a_partners a_share a_leftOver c_askedCount c_outcome c_row) H := hP.sub (ws' := [(a_, .inr (6, [.ref a_row, .ref a_partners, .int c_askedCount, .int c_outcome, .ref a_share, .ref a_leftOver])), (a_row, .inl (E.2.1, 81, .inl c_row))]) [0, 1] rfl
  have hrc := va_recv hK hPc (ci := 6) (q0 := 0) rfl rfl
  refine pE_i (va_runV (As := [.int p1, .int (6 : Int32)]) (rest := [.int (6 : Int32), .int p1, .ref a_])  ⟨hx, hb, hml, hown, hts⟩ (f_X5_of l E (a_ := a_) (a_row := a_row) (a_partners := a_partners) (a_share := a_share) (a_leftOver := a_leftOver) (p1 := p1) (p2 := (6 : Int32)) (c_askedCount := c_askedCount) (c_outcome := c_outcome) (c_row := c_row) hc_2) (cwV 2 hts g_f_X5_addTo_f_X5_of_69 rfl rfl rfl hd_X5_of ⟨Nat.le_of_ble_eq_true rfl, Nat.le_of_ble_eq_true rfl⟩) ⟨pP.blind, hrc, (pP.pre ⟨hK, hN⟩ hPc)⟩ rfl rfl hl.1 rfl (lv_room (Nat.le_of_ble_eq_true rfl)) dX5_addTo_8 ⟨Nat.le_of_ble_eq_true rfl, Nat.le_of_ble_eq_true rfl⟩) ?_
  refine lv_iload_n hx hb dX5_addTo_11 rfl (lv_at hl 2 rfl) ?_
  refine lv_iadd hx hb dX5_addTo_12 ?_
  replace hF := bd1_s hF
  obtain ⟨w_3, hc_4, hF⟩ := hF
  obtain ⟨hPc, hDc, hFc⟩ := wcut (wc := (w_X5_put E a_ a_row a_partners a_share a_leftOver c_askedCount c_outcome c_row)) hP hD hS hA [0, 1] (by decide) rfl
  have hrc := va_recv hK hPc (ci := 6) (q0 := 0) rfl rfl
  refine cE_v (wc := (w_X5_put E a_ a_row a_partners a_share a_leftOver c_askedCount c_outcome c_row)) (wr := []) (w1 := (w_X5_put E a_ a_row a_partners a_share a_leftOver c_askedCount c_outcome w_3)) (va_runV (As := [.int p1, .int (6 : Int32), .int (r_1 + p2)]) (rest := [])  ⟨hx, hb, hml, hown, hts⟩ (f_X5_put l E H.size (a_ := a_) (a_row := a_row) (a_partners := a_partners) (a_share := a_share) (a_leftOver := a_leftOver) (p1 := p1) (p2 := (6 : Int32)) (p3 := r_1 + p2) (c_askedCount := c_askedCount) (c_outcome := c_outcome) (c_row := c_row) hc_4) (cwV 3 hts g_f_X5_addTo_f_X5_put_52 rfl rfl rfl hd_X5_put ⟨Nat.le_of_ble_eq_true rfl, Nat.le_of_ble_eq_true rfl⟩) ⟨pW.blind, hrc, (pW.pre ⟨hK, hN⟩ hPc hDc)⟩ rfl rfl hl.1 rfl (lv_room (Nat.le_of_ble_eq_true rfl)) dX5_addTo_13 ⟨Nat.le_of_ble_eq_true rfl, Nat.le_of_ble_eq_true rfl⟩) hS hFc hP hD [0, 1] [] rfl rfl (by decide) (by decide) (fun H locs hP hD hS => ?_)
  replace hP : va_P E.1 vwCl [(a_, .inr (6, [.ref a_row, .ref a_partners, .int c_askedCount, .int c_outcome, .ref a_share, .ref a_leftOver])), (a_row, .inl (E.2.1, 81, .inl w_3))] H := hP
  replace hD : va_D A [(a_, .inr (6, [.ref a_row, .ref a_partners, .int c_askedCount, .int c_outcome, .ref a_share, .ref a_leftOver])), (a_row, .inl (E.2.1, 81, .inl w_3))] := hD
  refine lv_aload_n hx hb dX5_addTo_16 rfl (lv_at hl 0 rfl) ?_
  refine lv_aload_n hx hb dX5_addTo_17 rfl (lv_at hl 0 rfl) ?_
  refine gt_X5_0 (v := .ref a_row) hx hb hts i_f_X5_addTo_X5 hown hK hP 0 rfl (hts (.fieldLink RX5 11 "HushWatch$State" "row" "[I") (List.mem_of_getElem? (i := 1) rfl)) rfl dX5_addTo_18 ?_
  refine lv_bipush (v := 8) hx hb dX5_addTo_21 (by decide) ?_
  refine va_iald hx hb hK hP 1 0 rfl rfl (vin rfl) dX5_addTo_23 ?_
  refine W.eq (g2 := F0 m 24 ls [.int (w_3 8), .ref a_]) rfl ?_
  replace hF := bd1_s hF
  obtain ⟨r_5, hc_6, hF⟩ := hF
  have hPc : va_P E.1 vwCl (w_X5_stepFrom E a_ a_row a_partners a_share a_leftOver c_askedCount c_outcome w_3) H := hP.sub (ws' := [(a_, .inr (6, [.ref a_row, .ref a_partners, .int c_askedCount, .int c_outcome, .ref a_share, .ref a_leftOver])), (a_row, .inl (E.2.1, 81, .inl w_3))]) [0, 1] rfl
  have hrc := va_recv hK hPc (ci := 6) (q0 := 0) rfl rfl
  refine pE_i (va_runV (As := [.int (w_3 8)]) (rest := [])  ⟨hx, hb, hml, hown, hts⟩ (f_X5_stepFrom l E (a_ := a_) (a_row := a_row) (a_partners := a_partners) (a_share := a_share) (a_leftOver := a_leftOver) (p1 := w_3 8) (c_askedCount := c_askedCount) (c_outcome := c_outcome) (c_row := w_3) hc_6) (cwV 1 hts g_f_X5_addTo_f_X5_stepFrom_182 rfl rfl rfl hd_X5_stepFrom ⟨Nat.le_of_ble_eq_true rfl, Nat.le_of_ble_eq_true rfl⟩) ⟨pP.blind, hrc, (pP.pre ⟨hK, hN⟩ hPc)⟩ rfl rfl hl.1 rfl (lv_room (Nat.le_of_ble_eq_true rfl)) dX5_addTo_24 ⟨Nat.le_of_ble_eq_true rfl, Nat.le_of_ble_eq_true rfl⟩) ?_
  refine lv_istore_n (lv' := [(3, .int r_5), (0, .ref a_), (1, .int p1), (2, .int p2)]) hx hb dX5_addTo_27 rfl hl (by decide) rfl (fun ls hl => ?_)
  refine lv_iload_n hx hb dX5_addTo_28 rfl (lv_at hl 0 rfl) ?_
  refine lv_if_ne (tgt := 45) hx hb dX5_addTo_29 (by decide) (fun c_7 => ?_) (fun c_7 => ?_)
  ·
    replace hF := inn c_7 hF
    refine lv_aload_n hx hb dX5_addTo_45 rfl (lv_at hl 1 rfl) ?_
    refine lv_iload_n hx hb dX5_addTo_46 rfl (lv_at hl 2 rfl) ?_
    refine lv_bipush (v := 7) hx hb dX5_addTo_47 (by decide) ?_
    refine lv_aload_n hx hb dX5_addTo_49 rfl (lv_at hl 1 rfl) ?_
    refine lv_iload_n hx hb dX5_addTo_50 rfl (lv_at hl 2 rfl) ?_
    refine lv_bipush (v := 7) hx hb dX5_addTo_51 (by decide) ?_
    replace hF := bd1_s hF
    obtain ⟨r_8, hc_9, hF⟩ := hF
    have hPc : va_P E.1 vwCl (w_X5_of E a_ a_row a_partners a_share a_leftOver c_askedCount c_outcome w_3) H := hP.sub (ws' := [(a_, .inr (6, [.ref a_row, .ref a_partners, .int c_askedCount, .int c_outcome, .ref a_share, .ref a_leftOver])), (a_row, .inl (E.2.1, 81, .inl w_3))]) [0, 1] rfl
    have hrc := va_recv hK hPc (ci := 6) (q0 := 0) rfl rfl
    refine pE_i (va_runV (As := [.int p1, .int (7 : Int32)]) (rest := [.int (7 : Int32), .int p1, .ref a_])  ⟨hx, hb, hml, hown, hts⟩ (f_X5_of l E (a_ := a_) (a_row := a_row) (a_partners := a_partners) (a_share := a_share) (a_leftOver := a_leftOver) (p1 := p1) (p2 := (7 : Int32)) (c_askedCount := c_askedCount) (c_outcome := c_outcome) (c_row := w_3) hc_9) (cwV 2 hts g_f_X5_addTo_f_X5_of_69 rfl rfl rfl hd_X5_of ⟨Nat.le_of_ble_eq_true rfl, Nat.le_of_ble_eq_true rfl⟩) ⟨pP.blind, hrc, (pP.pre ⟨hK, hN⟩ hPc)⟩ rfl rfl hl.1 rfl (lv_room (Nat.le_of_ble_eq_true rfl)) dX5_addTo_53 ⟨Nat.le_of_ble_eq_true rfl, Nat.le_of_ble_eq_true rfl⟩) ?_
    refine lv_iload_n hx hb dX5_addTo_56 rfl (lv_at hl 3 rfl) ?_
    refine lv_iadd hx hb dX5_addTo_57 ?_
    replace hF := bd1_s hF
    obtain ⟨w_10, hc_11, hF⟩ := hF
    obtain ⟨hPc, hDc, hFc⟩ := wcut (wc := (w_X5_put E a_ a_row a_partners a_share a_leftOver c_askedCount c_outcome w_3)) hP hD hS hA [0, 1] (by decide) rfl
    have hrc := va_recv hK hPc (ci := 6) (q0 := 0) rfl rfl
    refine cE_v (wc := (w_X5_put E a_ a_row a_partners a_share a_leftOver c_askedCount c_outcome w_3)) (wr := []) (w1 := (w_X5_put E a_ a_row a_partners a_share a_leftOver c_askedCount c_outcome w_10)) (va_runV (As := [.int p1, .int (7 : Int32), .int (r_8 + p2)]) (rest := [])  ⟨hx, hb, hml, hown, hts⟩ (f_X5_put l E H.size (a_ := a_) (a_row := a_row) (a_partners := a_partners) (a_share := a_share) (a_leftOver := a_leftOver) (p1 := p1) (p2 := (7 : Int32)) (p3 := r_8 + p2) (c_askedCount := c_askedCount) (c_outcome := c_outcome) (c_row := w_3) hc_11) (cwV 3 hts g_f_X5_addTo_f_X5_put_52 rfl rfl rfl hd_X5_put ⟨Nat.le_of_ble_eq_true rfl, Nat.le_of_ble_eq_true rfl⟩) ⟨pW.blind, hrc, (pW.pre ⟨hK, hN⟩ hPc hDc)⟩ rfl rfl hl.1 rfl (lv_room (Nat.le_of_ble_eq_true rfl)) dX5_addTo_58 ⟨Nat.le_of_ble_eq_true rfl, Nat.le_of_ble_eq_true rfl⟩) hS hFc hP hD [0, 1] [] rfl rfl (by decide) (by decide) (fun H locs hP hD hS => ?_)
    replace hP : va_P E.1 vwCl [(a_, .inr (6, [.ref a_row, .ref a_partners, .int c_askedCount, .int c_outcome, .ref a_share, .ref a_leftOver])), (a_row, .inl (E.2.1, 81, .inl w_10))] H := hP
    replace hD : va_D A [(a_, .inr (6, [.ref a_row, .ref a_partners, .int c_askedCount, .int c_outcome, .ref a_share, .ref a_leftOver])), (a_row, .inl (E.2.1, 81, .inl w_10))] := hD
    refine lv_iconst (v := 0) hx hb dX5_addTo_61 (by decide) ?_
    refine lv_istore (lv' := [(4, .int (0 : Int32)), (3, .int r_5), (0, .ref a_), (1, .int p1), (2, .int p2)]) hx hb dX5_addTo_62 hl (by decide) rfl (fun ls hl => ?_)
    refine lv_iconst (v := 0) hx hb dX5_addTo_64 (by decide) ?_
    refine lv_istore (lv' := [(5, .int (0 : Int32)), (4, .int (0 : Int32)), (3, .int r_5), (0, .ref a_), (1, .int p1), (2, .int p2)]) hx hb dX5_addTo_65 hl (by decide) rfl (fun ls hl => ?_)
    replace hF := bd3_s hF
    obtain ⟨t_22, x4_23, c_row_24, hL_25, hF⟩ := hF
    refine lw_X5_addTo_67 l E K (p1 := p1) (p2 := p2) (c_askedCount := c_askedCount) (c_outcome := c_outcome) (x3 := r_5) hx hb hml hown hts hK hN hA K (0 : Int32) (0 : Int32) w_10 t_22 x4_23 c_row_24 hL_25 ⟨?_, ?_⟩ H locs ls (hP.sub [0, 1] rfl) (hD.sub [0, 1] (by decide) rfl) hS (lv_sub hl [3, 4, 2, 1, 0] rfl)
    ·
      intro t9
      replace hF := ip t9 hF
      intro H locs ls hP hD hS hl
      replace hP : va_P E.1 vwCl [(a_, .inr (6, [.ref a_row, .ref a_partners, .int c_askedCount, .int c_outcome, .ref a_share, .ref a_leftOver])), (a_row, .inl (E.2.1, 81, .inl c_row_24))] H := hP
      replace hD : va_D A [(a_, .inr (6, [.ref a_row, .ref a_partners, .int c_askedCount, .int c_outcome, .ref a_share, .ref a_leftOver])), (a_row, .inl (E.2.1, 81, .inl c_row_24))] := hD
      refine lv_aload_n hx hb dX5_addTo_131 rfl (lv_at hl 0 rfl) ?_
      replace hF := bd1_s hF
      obtain ⟨w_26, hc_27, hF⟩ := hF
      obtain ⟨hPc, hDc, hFc⟩ := wcut (wc := (w_X5_endRound E a_ a_row a_partners a_share a_leftOver c_askedCount c_outcome c_row_24)) hP hD hS hA [0, 1] (by decide) rfl
      have hrc := va_recv hK hPc (ci := 6) (q0 := 0) rfl rfl
      refine cE_v (wc := (w_X5_endRound E a_ a_row a_partners a_share a_leftOver c_askedCount c_outcome c_row_24)) (wr := []) (w1 := (w_X5_endRound E a_ a_row a_partners a_share a_leftOver c_askedCount c_outcome w_26)) (va_runV (As := []) (rest := [])  ⟨hx, hb, hml, hown, hts⟩ (f_X5_endRound l E H.size K (a_ := a_) (a_row := a_row) (a_partners := a_partners) (a_share := a_share) (a_leftOver := a_leftOver) (c_askedCount := c_askedCount) (c_outcome := c_outcome) (c_row := c_row_24) hc_27) (cwV 0 hts g_f_X5_addTo_f_X5_endRound_185 rfl rfl rfl hd_X5_endRound ⟨Nat.le_of_ble_eq_true rfl, Nat.le_of_ble_eq_true rfl⟩) ⟨pW.blind, hrc, (pW.pre ⟨hK, hN⟩ hPc hDc)⟩ rfl rfl hl.1 rfl (lv_room (Nat.le_of_ble_eq_true rfl)) dX5_addTo_132 ⟨Nat.le_of_ble_eq_true rfl, Nat.le_of_ble_eq_true rfl⟩) hS hFc hP hD [0, 1] [] rfl rfl (by decide) (by decide) (fun H locs hP hD hS => ?_)
      replace hP : va_P E.1 vwCl [(a_, .inr (6, [.ref a_row, .ref a_partners, .int c_askedCount, .int c_outcome, .ref a_share, .ref a_leftOver])), (a_row, .inl (E.2.1, 81, .inl w_26))] H := hP
      replace hD : va_D A [(a_, .inr (6, [.ref a_row, .ref a_partners, .int c_askedCount, .int c_outcome, .ref a_share, .ref a_leftOver])), (a_row, .inl (E.2.1, 81, .inl w_26))] := hD
      refine lv_iload hx hb dX5_addTo_135 (lv_at hl 1 rfl) ?_
      refine lv_iconst (v := 2) hx hb dX5_addTo_137 (by decide) ?_
      refine lv_aload_n hx hb dX5_addTo_138 rfl (lv_at hl 0 rfl) ?_
      refine gt_X5_0 (v := .ref a_row) hx hb hts i_f_X5_addTo_X5 hown hK hP 0 rfl (hts (.fieldLink RX5 11 "HushWatch$State" "row" "[I") (List.mem_of_getElem? (i := 1) rfl)) rfl dX5_addTo_139 ?_
      refine lv_iconst (v := 3) hx hb dX5_addTo_142 (by decide) ?_
      refine va_iald hx hb hK hP 1 0 rfl rfl (vin rfl) dX5_addTo_143 ?_
      refine W.eq (g2 := F0 m 144 ls [.int (w_26 3), .int (2 : Int32), .int x4_23]) rfl ?_
      refine lv_imul hx hb dX5_addTo_144 ?_
      refine lv_iadd hx hb dX5_addTo_145 ?_
      rw [hQ]
      have h9 := fin9 (P := fun u9 : Int32 × (Nat → Int32) => (x4_23 + ((2 : Int32) * (w_26 3))) = u9.1 ∧ va_P E.1 vwCl (w_X5_addTo E a_ a_row a_partners a_share a_leftOver c_askedCount c_outcome u9.2) H ∧ va_D A (w_X5_addTo E a_ a_row a_partners a_share a_leftOver c_askedCount c_outcome u9.2)) hF ⟨rfl, hP, hD⟩
      obtain ⟨e9_0, hP9, hD9⟩ := h9
      exact W.iret (v := x4_23 + ((2 : Int32) * (w_26 3))) hx hb hr (fun tt ht hW => ⟨⟨_, (), rfl, e9_0, ht ▸ hP9, hD9⟩, hS.F ht⟩) hS.2.2 dX5_addTo_146
    ·
      intro t9
      replace hF := inn (show ¬ t_22 = 0 by omega) hF
      replace hF := ip t9 hF
      intro H locs ls hP hD hS hl
      replace hP : va_P E.1 vwCl [(a_, .inr (6, [.ref a_row, .ref a_partners, .int c_askedCount, .int c_outcome, .ref a_share, .ref a_leftOver])), (a_row, .inl (E.2.1, 81, .inl c_row_24))] H := hP
      replace hD : va_D A [(a_, .inr (6, [.ref a_row, .ref a_partners, .int c_askedCount, .int c_outcome, .ref a_share, .ref a_leftOver])), (a_row, .inl (E.2.1, 81, .inl c_row_24))] := hD
      refine lv_iload hx hb dX5_addTo_153 (lv_at hl 0 rfl) ?_
      rw [hQ]
      have h9 := fin9 (P := fun u9 : Int32 × (Nat → Int32) => x4_23 = u9.1 ∧ va_P E.1 vwCl (w_X5_addTo E a_ a_row a_partners a_share a_leftOver c_askedCount c_outcome u9.2) H ∧ va_D A (w_X5_addTo E a_ a_row a_partners a_share a_leftOver c_askedCount c_outcome u9.2)) hF ⟨rfl, hP, hD⟩
      obtain ⟨e9_0, hP9, hD9⟩ := h9
      exact W.iret (v := x4_23) hx hb hr (fun tt ht hW => ⟨⟨_, (), rfl, e9_0, ht ▸ hP9, hD9⟩, hS.F ht⟩) hS.2.2 dX5_addTo_155
  ·
    replace hF := ip c_7 hF
    refine lv_aload_n hx hb dX5_addTo_32 rfl (lv_at hl 1 rfl) ?_
    refine gt_X5_0 (v := .ref a_row) hx hb hts i_f_X5_addTo_X5 hown hK hP 0 rfl (hts (.fieldLink RX5 11 "HushWatch$State" "row" "[I") (List.mem_of_getElem? (i := 1) rfl)) rfl dX5_addTo_33 ?_
    refine lv_bipush (v := 8) hx hb dX5_addTo_36 (by decide) ?_
    refine lv_dup2_11 hx hb dX5_addTo_38 rfl rfl ?_
    refine va_iald hx hb hK hP 1 0 rfl rfl (vin rfl) dX5_addTo_39 ?_
    refine W.eq (g2 := F0 m 40 ls [.int (w_3 8), .int (8 : Int32), .ref a_row]) rfl ?_
    refine lv_iload_n hx hb dX5_addTo_40 rfl (lv_at hl 3 rfl) ?_
    refine lv_iadd hx hb dX5_addTo_41 ?_
    refine va_iast hx hb hK hP hD hS 1 0 rfl rfl (vin rfl) dX5_addTo_42 (fun H locs hP hD hS => ?_)
    replace hP : va_P E.1 vwCl [(a_, .inr (6, [.ref a_row, .ref a_partners, .int c_askedCount, .int c_outcome, .ref a_share, .ref a_leftOver])), (a_row, .inl (E.2.1, 81, .inl (upd w_3 8 ((w_3 8) + p2))))] H := hP
    replace hD : va_D A [(a_, .inr (6, [.ref a_row, .ref a_partners, .int c_askedCount, .int c_outcome, .ref a_share, .ref a_leftOver])), (a_row, .inl (E.2.1, 81, .inl (upd w_3 8 ((w_3 8) + p2))))] := hD
    replace hF := nm_s hF
    obtain ⟨f_28, hf_28, hF⟩ := hF
    rw [← hf_28] at hP hD
    refine lv_iconst (v := 1) hx hb dX5_addTo_43 (by decide) ?_
    rw [hQ]
    have h9 := fin9 (P := fun u9 : Int32 × (Nat → Int32) => (1 : Int32) = u9.1 ∧ va_P E.1 vwCl (w_X5_addTo E a_ a_row a_partners a_share a_leftOver c_askedCount c_outcome u9.2) H ∧ va_D A (w_X5_addTo E a_ a_row a_partners a_share a_leftOver c_askedCount c_outcome u9.2)) hF ⟨rfl, hP, hD⟩
    obtain ⟨e9_0, hP9, hD9⟩ := h9
    exact W.iret (v := (1 : Int32)) hx hb hr (fun tt ht hW => ⟨⟨_, (), rfl, e9_0, ht ▸ hP9, hD9⟩, hS.F ht⟩) hS.2.2 dX5_addTo_44

def J_X5_valueOf_26 (p1 : Int64) (p2 : Int64) (c_row : Nat → Int32) (k0 : Int64) (x5 : Int64) : Option (Int64) :=
  if (c_row 0) = (1 : Int32) then some ((p1 * p1) + (p2 * p2)) else if (c_row 0) = (2 : Int32) then if lg_cmp x5 k0 ≤ (0 : Int32) then some k0 else some x5 else if (c_row 0) = (3 : Int32) then some (x5 + k0) else some (p1 + p2)
def J_X5_valueOf_12 (p1 : Int64) (p2 : Int64) (c_row : Nat → Int32) (k0 : Int64) : Option (Int64) :=
  if (0 : Int32) ≤ lg_cmp p2 (0 : Int64) then J_X5_valueOf_26 p1 p2 c_row p2 k0 else J_X5_valueOf_26 p1 p2 c_row (-p2) k0
def F_X5_valueOf (p1 : Int64) (p2 : Int64) (c_row : Nat → Int32) : Option (Int64) :=
  if (0 : Int32) ≤ lg_cmp p1 (0 : Int64) then J_X5_valueOf_12 p1 p2 c_row p1 else J_X5_valueOf_12 p1 p2 c_row (-p1)
abbrev w_X5_valueOf (E : EE) (a_ a_row a_partners a_share a_leftOver : Nat) (c_askedCount : Int32) (c_outcome : Int32) (c_row : Nat → Int32) : va_W := [(a_, .inr (6, [.ref a_row, .ref a_partners, .int c_askedCount, .int c_outcome, .ref a_share, .ref a_leftOver])), (a_row, .inl (E.2.1, 81, .inl c_row))]
def v_f_X5_valueOf : List Cond := List.cons (.code yX5_valueOf cX5_valueOf 9 (some .long)) (HAppend.hAppend (α := List Cond) (β := List Cond) (γ := List Cond) [.fieldLink RX5 11 "HushWatch$State" "row" "[I"] (HAppend.hAppend (α := List Cond) (β := List Cond) (γ := List Cond) wsX50 []))
theorem gw_f_X5_valueOf : v_f_X5_valueOf.all goodWord = true := by decide +kernel
theorem i_f_X5_valueOf_X5 : ∀ w ∈ wsX50, w ∈ v_f_X5_valueOf := fun _ h => List.mem_cons_of_mem _ (List.mem_append_right _ (List.mem_append_left _ h))
theorem hd_X5_valueOf : yX5_valueOf.cls = RX5 ∧ yX5_valueOf.cls ≠ "java/lang/invoke/MethodHandle" ∧ yX5_valueOf.cls ≠ "java/lang/invoke/VarHandle" ∧ (parseMethodDescriptor yX5_valueOf.desc).map (fun d => d.parameters.length) = some 2 := by decide +kernel
set_option maxHeartbeats 4000000 in
set_option maxRecDepth 100000 in
theorem j_X5_valueOf_26 {p : Program} (l : Launch) {e : Env} {s : State} {m : MethodId} {below : List Frame} {meth : Method} {c : Code} {Q : State → Prop} (E : EE) {a_ a_row a_partners a_share a_leftOver : Nat} {p1 : Int64} {p2 : Int64} {c_askedCount : Int32} {c_outcome : Int32} {c_row : Nat → Int32} {k0 : Int64} {x5 : Int64} (hx : p.tables.exec = Jvm.exec) (hb : c.code = cX5_valueOf) (hml : c.maxLocals = 9) (hown : s.vm.findClass RX5 = some m.cls) (hts : ∀ w ∈ v_f_X5_valueOf, w.before #[Value.ref a_, Value.long p1, Value.long p2] s = true) (hK : va_K E.1 vwCl (TY E) s) (hN : NX s) {rr : Int64} (hr : meth.sig.returnType = (some .long)) (hlocks : meth.locks = false) (hQ : Q = MQ below (vp_Sl (fun q : Int64 => q = rr)) #[Value.ref a_, Value.long p1, Value.long p2] s 0 0 (fun _ => False)) (hF : J_X5_valueOf_26 p1 p2 c_row k0 x5 = some rr) (hP : va_P E.1 vwCl (w_X5_valueOf E a_ a_row a_partners a_share a_leftOver c_askedCount c_outcome c_row) s.heap) : ∀ (ls : Array Slot), lv_has ls 9 [(0, .ref a_), (1, .long p1), (3, .long p2), (5, .long x5)] → W p l e ({ frames := 0, cells := 0, slots := 0, locals := 0 } : Room) s m #[Value.ref a_, Value.long p1, Value.long p2] below meth c s.heap [] 0 0 Q (F0 m 26 ls [.long k0]) := by
  unfold J_X5_valueOf_26 at hF
  replace hP : va_P E.1 vwCl [(a_, .inr (6, [.ref a_row, .ref a_partners, .int c_askedCount, .int c_outcome, .ref a_share, .ref a_leftOver])), (a_row, .inl (E.2.1, 81, .inl c_row))] s.heap := hP
  intro ls hl
  refine lv_lstore (lv' := [(7, .long k0), (0, .ref a_), (1, .long p1), (3, .long p2), (5, .long x5)]) hx hb dX5_valueOf_26 hl (by decide) rfl (fun ls hl => ?_)
  refine lv_aload_n hx hb dX5_valueOf_28 rfl (lv_at hl 1 rfl) ?_
  refine gt_X5_0 (v := .ref a_row) hx hb hts i_f_X5_valueOf_X5 hown hK hP 0 rfl (hts (.fieldLink RX5 11 "HushWatch$State" "row" "[I") (List.mem_of_getElem? (i := 1) rfl)) rfl dX5_valueOf_29 ?_
  refine lv_iconst (v := 0) hx hb dX5_valueOf_32 (by decide) ?_
  refine va_iald hx hb hK hP 1 0 rfl rfl (vin rfl) dX5_valueOf_33 ?_
  refine W.eq (g2 := F0 m 34 ls [.int (c_row 0)]) rfl ?_
  rcases Classical.em ((c_row 0) = (1 : Int32)) with c_3_1 | c_3_1
  ·
    replace hF := ip c_3_1 hF
    refine lv_tableIn (off := 26) (tgt := 60) hx hb dX5_valueOf_34 (by rw [c_3_1]; decide) (by rw [c_3_1]; decide) (by rw [c_3_1]; decide) (by decide) ?_
    refine lv_lload_n hx hb dX5_valueOf_60 rfl (lv_at hl 2 rfl) ?_
    refine lv_lload_n hx hb dX5_valueOf_61 rfl (lv_at hl 2 rfl) ?_
    refine lv_lmul hx hb dX5_valueOf_62 ?_
    refine lv_lload_n hx hb dX5_valueOf_63 rfl (lv_at hl 3 rfl) ?_
    refine lv_lload_n hx hb dX5_valueOf_64 rfl (lv_at hl 3 rfl) ?_
    refine lv_lmul hx hb dX5_valueOf_65 ?_
    refine lv_ladd hx hb dX5_valueOf_66 ?_
    rw [hQ]
    obtain e9_0 := inj1 hF
    exact W.lret (v := (p1 * p1) + (p2 * p2)) hx hb hr (fun tt ht hW => ⟨_, rfl, e9_0, ht⟩) (fun _ h => by cases h) dX5_valueOf_67
  replace hF := inn c_3_1 hF
  rcases Classical.em ((c_row 0) = (2 : Int32)) with c_3_2 | c_3_2
  ·
    replace hF := ip c_3_2 hF
    refine lv_tableIn (off := 34) (tgt := 68) hx hb dX5_valueOf_34 (by rw [c_3_2]; decide) (by rw [c_3_2]; decide) (by rw [c_3_2]; decide) (by decide) ?_
    refine lv_lload hx hb dX5_valueOf_68 (lv_at hl 4 rfl) ?_
    refine lv_lload hx hb dX5_valueOf_70 (lv_at hl 0 rfl) ?_
    refine W.lcmp hx hb dX5_valueOf_72 ?_
    refine lv_if_le (tgt := 81) hx hb dX5_valueOf_73 (by decide) (fun c_4 => ?_) (fun c_4 => ?_)
    ·
      replace hF := ip c_4 hF
      refine lv_lload hx hb dX5_valueOf_81 (lv_at hl 0 rfl) ?_
      rw [hQ]
      obtain e9_0 := inj1 hF
      exact W.lret (v := k0) hx hb hr (fun tt ht hW => ⟨_, rfl, e9_0, ht⟩) (fun _ h => by cases h) dX5_valueOf_83
    ·
      replace hF := inn c_4 hF
      refine lv_lload hx hb dX5_valueOf_76 (lv_at hl 4 rfl) ?_
      refine lv_goto (tgt := 83) hx hb dX5_valueOf_78 (by decide) ?_
      rw [hQ]
      obtain e9_0 := inj1 hF
      exact W.lret (v := x5) hx hb hr (fun tt ht hW => ⟨_, rfl, e9_0, ht⟩) (fun _ h => by cases h) dX5_valueOf_83
  replace hF := inn c_3_2 hF
  rcases Classical.em ((c_row 0) = (3 : Int32)) with c_3_3 | c_3_3
  ·
    replace hF := ip c_3_3 hF
    refine lv_tableIn (off := 50) (tgt := 84) hx hb dX5_valueOf_34 (by rw [c_3_3]; decide) (by rw [c_3_3]; decide) (by rw [c_3_3]; decide) (by decide) ?_
    refine lv_lload hx hb dX5_valueOf_84 (lv_at hl 4 rfl) ?_
    refine lv_lload hx hb dX5_valueOf_86 (lv_at hl 0 rfl) ?_
    refine lv_ladd hx hb dX5_valueOf_88 ?_
    rw [hQ]
    obtain e9_0 := inj1 hF
    exact W.lret (v := x5 + k0) hx hb hr (fun tt ht hW => ⟨_, rfl, e9_0, ht⟩) (fun _ h => by cases h) dX5_valueOf_89
  replace hF := inn c_3_3 hF
  refine lv_tableOut (tgt := 90) hx hb dX5_valueOf_34 (by have t0 : (1 : Int32).toInt = 1 := (by decide); have t1 : (2 : Int32).toInt = 2 := (by decide); have t2 : (3 : Int32).toInt = 3 := (by decide); simp only [← Int32.toInt_inj, t0, t1, t2] at c_3_1 c_3_2 c_3_3; omega) (by decide) ?_
  refine lv_lload_n hx hb dX5_valueOf_90 rfl (lv_at hl 2 rfl) ?_
  refine lv_lload_n hx hb dX5_valueOf_91 rfl (lv_at hl 3 rfl) ?_
  refine lv_ladd hx hb dX5_valueOf_92 ?_
  rw [hQ]
  obtain e9_0 := inj1 hF
  exact W.lret (v := p1 + p2) hx hb hr (fun tt ht hW => ⟨_, rfl, e9_0, ht⟩) (fun _ h => by cases h) dX5_valueOf_93

set_option maxHeartbeats 4000000 in
set_option maxRecDepth 100000 in
theorem j_X5_valueOf_12 {p : Program} (l : Launch) {e : Env} {s : State} {m : MethodId} {below : List Frame} {meth : Method} {c : Code} {Q : State → Prop} (E : EE) {a_ a_row a_partners a_share a_leftOver : Nat} {p1 : Int64} {p2 : Int64} {c_askedCount : Int32} {c_outcome : Int32} {c_row : Nat → Int32} {k0 : Int64} (hx : p.tables.exec = Jvm.exec) (hb : c.code = cX5_valueOf) (hml : c.maxLocals = 9) (hown : s.vm.findClass RX5 = some m.cls) (hts : ∀ w ∈ v_f_X5_valueOf, w.before #[Value.ref a_, Value.long p1, Value.long p2] s = true) (hK : va_K E.1 vwCl (TY E) s) (hN : NX s) {rr : Int64} (hr : meth.sig.returnType = (some .long)) (hlocks : meth.locks = false) (hQ : Q = MQ below (vp_Sl (fun q : Int64 => q = rr)) #[Value.ref a_, Value.long p1, Value.long p2] s 0 0 (fun _ => False)) (hF : J_X5_valueOf_12 p1 p2 c_row k0 = some rr) (hP : va_P E.1 vwCl (w_X5_valueOf E a_ a_row a_partners a_share a_leftOver c_askedCount c_outcome c_row) s.heap) : ∀ (ls : Array Slot), lv_has ls 9 [(0, .ref a_), (1, .long p1), (3, .long p2)] → W p l e ({ frames := 0, cells := 0, slots := 0, locals := 0 } : Room) s m #[Value.ref a_, Value.long p1, Value.long p2] below meth c s.heap [] 0 0 Q (F0 m 12 ls [.long k0]) := by
  unfold J_X5_valueOf_12 at hF
  replace hP : va_P E.1 vwCl [(a_, .inr (6, [.ref a_row, .ref a_partners, .int c_askedCount, .int c_outcome, .ref a_share, .ref a_leftOver])), (a_row, .inl (E.2.1, 81, .inl c_row))] s.heap := hP
  intro ls hl
  refine lv_lstore (lv' := [(5, .long k0), (0, .ref a_), (1, .long p1), (3, .long p2)]) hx hb dX5_valueOf_12 hl (by decide) rfl (fun ls hl => ?_)
  refine lv_lload_n hx hb dX5_valueOf_14 rfl (lv_at hl 3 rfl) ?_
  refine lv_lconst (v := 0) hx hb dX5_valueOf_15 (by decide) ?_
  refine W.lcmp hx hb dX5_valueOf_16 ?_
  refine lv_if_ge (tgt := 25) hx hb dX5_valueOf_17 (by decide) (fun c_2 => ?_) (fun c_2 => ?_)
  ·
    replace hF := ip c_2 hF
    refine lv_lload_n hx hb dX5_valueOf_25 rfl (lv_at hl 3 rfl) ?_
    exact j_X5_valueOf_26 l E (p1 := p1) (p2 := p2) (c_askedCount := c_askedCount) (c_outcome := c_outcome) (c_row := c_row) (k0 := p2) (x5 := k0) hx hb hml hown hts hK hN hr hlocks hQ hF hP ls (lv_sub hl [1, 2, 3, 0] rfl)
  ·
    replace hF := inn c_2 hF
    refine lv_lload_n hx hb dX5_valueOf_20 rfl (lv_at hl 3 rfl) ?_
    refine lv_lneg hx hb dX5_valueOf_21 ?_
    refine lv_goto (tgt := 26) hx hb dX5_valueOf_22 (by decide) ?_
    exact j_X5_valueOf_26 l E (p1 := p1) (p2 := p2) (c_askedCount := c_askedCount) (c_outcome := c_outcome) (c_row := c_row) (k0 := -p2) (x5 := k0) hx hb hml hown hts hK hN hr hlocks hQ hF hP ls (lv_sub hl [1, 2, 3, 0] rfl)

set_option maxHeartbeats 4000000 in
set_option maxRecDepth 100000 in
theorem f_X5_valueOf (l : Launch) (E : EE) {a_ a_row a_partners a_share a_leftOver : Nat} {p1 : Int64} {p2 : Int64} {c_askedCount : Int32} {c_outcome : Int32} {c_row : Nat → Int32} {rr : Int64} (hF : F_X5_valueOf p1 p2 c_row = some rr) : Met l yX5_valueOf v_f_X5_valueOf (({ frames := 0, cells := 0, slots := 0, locals := 0 } : Room)) (va_Pc [.ref a_, .long p1, .long p2] (pP E (w_X5_valueOf E a_ a_row a_partners a_share a_leftOver c_askedCount c_outcome c_row))) (vp_Sl (fun q : Int64 => q = rr)) 0 0 (fun _ => False) := by
  refine Met.ofW (cc := cX5_valueOf) (maxL := 9) (ret := (some .long)) (by decide) rfl ?_
  intro p e s m args below meth c s₁ B hml hv
  obtain ⟨rfl, ⟨hK, hN⟩, hP⟩ := hv
  have hx := B.exec
  have hb := B.bytes
  have hr := B.returns
  have hts := atoms_spec (ws := v_f_X5_valueOf) B.pre
  have hown : s.vm.findClass RX5 = some m.cls := own_of hd_X5_valueOf.1 (findClass_of_methodNamed B.named)
  have hlocks : meth.locks = false := B.notSynchronized
  replace hP : va_P E.1 vwCl [(a_, .inr (6, [.ref a_row, .ref a_partners, .int c_askedCount, .int c_outcome, .ref a_share, .ref a_leftOver])), (a_row, .inl (E.2.1, 81, .inl c_row))] s.heap := hP
  have hl := lv_entry ([.ref a_, .long p1, .long p2]) (n := 9) (Nat.le_of_ble_eq_true rfl)
  rw [lg_entry_eq]
  generalize (lg_sl ([.ref a_, .long p1, .long p2]) ++ List.replicate (9 - (lg_sl ([.ref a_, .long p1, .long p2])).length) Slot.unset).toArray = ls at hl ⊢
  have hl : lv_has ls 9 [(0, .ref a_), (1, .long p1), (3, .long p2)] := hl
  obtain ⟨Q, hQ⟩ : ∃ Q : State → Prop, Q = MQ below (vp_Sl (fun q : Int64 => q = rr)) #[Value.ref a_, Value.long p1, Value.long p2] s 0 0 (fun _ => False) := ⟨_, rfl⟩
  rw [← hQ]
  change W p l e ({ frames := 0, cells := 0, slots := 0, locals := 0 } : Room) s m #[Value.ref a_, Value.long p1, Value.long p2] below meth c s.heap [] 0 0 Q (F0 m 0 ls [])
  unfold F_X5_valueOf at hF
  refine lv_lload_n hx hb dX5_valueOf_0 rfl (lv_at hl 1 rfl) ?_
  refine lv_lconst (v := 0) hx hb dX5_valueOf_1 (by decide) ?_
  refine W.lcmp hx hb dX5_valueOf_2 ?_
  refine lv_if_ge (tgt := 11) hx hb dX5_valueOf_3 (by decide) (fun c_1 => ?_) (fun c_1 => ?_)
  ·
    replace hF := ip c_1 hF
    refine lv_lload_n hx hb dX5_valueOf_11 rfl (lv_at hl 1 rfl) ?_
    exact j_X5_valueOf_12 l E (p1 := p1) (p2 := p2) (c_askedCount := c_askedCount) (c_outcome := c_outcome) (c_row := c_row) (k0 := p1) hx hb hml hown hts hK hN hr hlocks hQ hF hP ls (lv_sub hl [0, 1, 2] rfl)
  ·
    replace hF := inn c_1 hF
    refine lv_lload_n hx hb dX5_valueOf_6 rfl (lv_at hl 1 rfl) ?_
    refine lv_lneg hx hb dX5_valueOf_7 ?_
    refine lv_goto (tgt := 12) hx hb dX5_valueOf_8 (by decide) ?_
    exact j_X5_valueOf_12 l E (p1 := p1) (p2 := p2) (c_askedCount := c_askedCount) (c_outcome := c_outcome) (c_row := c_row) (k0 := -p1) hx hb hml hown hts hK hN hr hlocks hQ hF hP ls (lv_sub hl [0, 1, 2] rfl)

def F_X5_allows (p1 : Int64) (p2 : Int64) (c_row : Nat → Int32) : Option (Int32) :=
  bd1 (F_X5_valueOf p1 p2 c_row) (fun r_1 => if (0 : Int32) ≤ lg_cmp r_1 ((c_row 1).toInt64) then some (0 : Int32) else some (1 : Int32))
abbrev w_X5_allows (E : EE) (a_ a_row a_partners a_share a_leftOver : Nat) (c_askedCount : Int32) (c_outcome : Int32) (c_row : Nat → Int32) : va_W := [(a_, .inr (6, [.ref a_row, .ref a_partners, .int c_askedCount, .int c_outcome, .ref a_share, .ref a_leftOver])), (a_row, .inl (E.2.1, 81, .inl c_row))]
def v_f_X5_allows : List Cond := List.cons (.code yX5_allows cX5_allows 5 (some .boolean)) (HAppend.hAppend (α := List Cond) (β := List Cond) (γ := List Cond) [.fieldLink RX5 11 "HushWatch$State" "row" "[I", .methodLink RX5 75 yX5_valueOf, .instanceMethod yX5_valueOf, .selects RX5 yX5_valueOf yX5_valueOf, .initialized RX5] (HAppend.hAppend (α := List Cond) (β := List Cond) (γ := List Cond) v_f_X5_valueOf (HAppend.hAppend (α := List Cond) (β := List Cond) (γ := List Cond) wsX50 [])))
theorem gw_f_X5_allows : v_f_X5_allows.all goodWord = true := by decide +kernel
theorem i_f_X5_allows_X5 : ∀ w ∈ wsX50, w ∈ v_f_X5_allows := fun _ h => List.mem_cons_of_mem _ (List.mem_append_right _ (List.mem_append_right _ (List.mem_append_left _ h)))
theorem g_f_X5_allows_f_X5_valueOf_75 : GoodIn v_f_X5_allows (wsV RX5 75 RX5 yX5_valueOf v_f_X5_valueOf) := goodIn_app (goodIn_of _ (by decide +kernel)) (goodIn_sub (fun _ h => List.mem_cons_of_mem _ (List.mem_append_right _ (List.mem_append_left _ h))) gw_f_X5_valueOf)
theorem hd_X5_allows : yX5_allows.cls = RX5 ∧ yX5_allows.cls ≠ "java/lang/invoke/MethodHandle" ∧ yX5_allows.cls ≠ "java/lang/invoke/VarHandle" ∧ (parseMethodDescriptor yX5_allows.desc).map (fun d => d.parameters.length) = some 2 := by decide +kernel
set_option maxHeartbeats 4000000 in
set_option maxRecDepth 100000 in
theorem f_X5_allows (l : Launch) (E : EE) {a_ a_row a_partners a_share a_leftOver : Nat} {p1 : Int64} {p2 : Int64} {c_askedCount : Int32} {c_outcome : Int32} {c_row : Nat → Int32} {rr : Int32} (hF : F_X5_allows p1 p2 c_row = some rr) : Met l yX5_allows v_f_X5_allows (({ frames := 1, cells := 0, slots := 0, locals := 28 } : Room)) (va_Pc [.ref a_, .long p1, .long p2] (pP E (w_X5_allows E a_ a_row a_partners a_share a_leftOver c_askedCount c_outcome c_row))) (vp_Si (fun q : Int32 => q = rr ∧ (q = 0 ∨ q = 1))) 0 0 (fun _ => False) := by
  refine Met.ofW (cc := cX5_allows) (maxL := 5) (ret := (some .boolean)) (by decide) rfl ?_
  intro p e s m args below meth c s₁ B hml hv
  obtain ⟨rfl, ⟨hK, hN⟩, hP⟩ := hv
  have hx := B.exec
  have hb := B.bytes
  have hr := B.returns
  have hts := atoms_spec (ws := v_f_X5_allows) B.pre
  have hown : s.vm.findClass RX5 = some m.cls := own_of hd_X5_allows.1 (findClass_of_methodNamed B.named)
  have hlocks : meth.locks = false := B.notSynchronized
  replace hP : va_P E.1 vwCl [(a_, .inr (6, [.ref a_row, .ref a_partners, .int c_askedCount, .int c_outcome, .ref a_share, .ref a_leftOver])), (a_row, .inl (E.2.1, 81, .inl c_row))] s.heap := hP
  have hl := lv_entry ([.ref a_, .long p1, .long p2]) (n := 5) (Nat.le_of_ble_eq_true rfl)
  rw [lg_entry_eq]
  generalize (lg_sl ([.ref a_, .long p1, .long p2]) ++ List.replicate (5 - (lg_sl ([.ref a_, .long p1, .long p2])).length) Slot.unset).toArray = ls at hl ⊢
  have hl : lv_has ls 5 [(0, .ref a_), (1, .long p1), (3, .long p2)] := hl
  obtain ⟨Q, hQ⟩ : ∃ Q : State → Prop, Q = MQ below (vp_Si (fun q : Int32 => q = rr ∧ (q = 0 ∨ q = 1))) #[Value.ref a_, Value.long p1, Value.long p2] s 0 0 (fun _ => False) := ⟨_, rfl⟩
  rw [← hQ]
  change W p l e ({ frames := 1, cells := 0, slots := 0, locals := 28 } : Room) s m #[Value.ref a_, Value.long p1, Value.long p2] below meth c s.heap [] 0 0 Q (F0 m 0 ls [])
  unfold F_X5_allows at hF
  refine lv_aload_n hx hb dX5_allows_0 rfl (lv_at hl 0 rfl) ?_
  refine lv_lload_n hx hb dX5_allows_1 rfl (lv_at hl 1 rfl) ?_
  refine lv_lload_n hx hb dX5_allows_2 rfl (lv_at hl 2 rfl) ?_
  replace hF := bd1_s hF
  obtain ⟨r_1, hc_2, hF⟩ := hF
  have hPc : va_P E.1 vwCl (w_X5_valueOf E a_ a_row a_partners a_share a_leftOver c_askedCount c_outcome c_row) s.heap := hP.sub (ws' := [(a_, .inr (6, [.ref a_row, .ref a_partners, .int c_askedCount, .int c_outcome, .ref a_share, .ref a_leftOver])), (a_row, .inl (E.2.1, 81, .inl c_row))]) [0, 1] rfl
  have hrc := va_recv hK hPc (ci := 6) (q0 := 0) rfl rfl
  refine pE_l (va_runV (As := [.long p1, .long p2]) (rest := [])  ⟨hx, hb, hml, hown, hts⟩ (f_X5_valueOf l E (a_ := a_) (a_row := a_row) (a_partners := a_partners) (a_share := a_share) (a_leftOver := a_leftOver) (p1 := p1) (p2 := p2) (c_askedCount := c_askedCount) (c_outcome := c_outcome) (c_row := c_row) hc_2) (cwV 2 hts g_f_X5_allows_f_X5_valueOf_75 rfl rfl rfl hd_X5_valueOf ⟨Nat.le_of_ble_eq_true rfl, Nat.le_of_ble_eq_true rfl⟩) ⟨pP.blind, hrc, (pP.pre ⟨hK, hN⟩ hPc)⟩ rfl rfl hl.1 rfl (lv_room (Nat.le_of_ble_eq_true rfl)) dX5_allows_3 ⟨Nat.le_of_ble_eq_true rfl, Nat.le_of_ble_eq_true rfl⟩) ?_
  refine lv_aload_n hx hb dX5_allows_6 rfl (lv_at hl 0 rfl) ?_
  refine gt_X5_0 (v := .ref a_row) hx hb hts i_f_X5_allows_X5 hown hK hP 0 rfl (hts (.fieldLink RX5 11 "HushWatch$State" "row" "[I") (List.mem_of_getElem? (i := 1) rfl)) rfl dX5_allows_7 ?_
  refine lv_iconst (v := 1) hx hb dX5_allows_10 (by decide) ?_
  refine va_iald hx hb hK hP 1 0 rfl rfl (vin rfl) dX5_allows_11 ?_
  refine W.eq (g2 := F0 m 12 ls [.int (c_row 1), .long r_1]) rfl ?_
  refine lv_i2l (v := (c_row 1).toInt64) hx hb dX5_allows_12 rfl ?_
  refine W.lcmp hx hb dX5_allows_13 ?_
  refine lv_if_ge (tgt := 21) hx hb dX5_allows_14 (by decide) (fun c_3 => ?_) (fun c_3 => ?_)
  ·
    replace hF := ip c_3 hF
    refine lv_iconst (v := 0) hx hb dX5_allows_21 (by decide) ?_
    rw [hQ]
    obtain e9_0 := inj1 hF
    exact W.zret (v := (0 : Int32)) hx hb hr rfl (fun tt ht hW => ⟨_, rfl, ⟨e9_0, Or.inl rfl⟩, ht⟩) (fun _ h => by cases h) dX5_allows_22
  ·
    replace hF := inn c_3 hF
    refine lv_iconst (v := 1) hx hb dX5_allows_17 (by decide) ?_
    refine lv_goto (tgt := 22) hx hb dX5_allows_18 (by decide) ?_
    rw [hQ]
    obtain e9_0 := inj1 hF
    exact W.zret (v := (1 : Int32)) hx hb hr rfl (fun tt ht hW => ⟨_, rfl, ⟨e9_0, Or.inr rfl⟩, ht⟩) (fun _ h => by cases h) dX5_allows_22
