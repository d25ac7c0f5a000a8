def dl_X3_failAt_27_rd00_0 : List (Nat × Instr × Nat) := [(0, .aload_n 0, 1), (1, .iload_n 1, 1), (2, .putfield 40, 3), (5, .iconst 0, 1), (6, .ireturn, 1)]
set_option maxRecDepth 100000 in
theorem dall_X3_failAt_27_rd00_0 : dchk cX3_failAt dl_X3_failAt_27_rd00_0 = true := by decide +kernel
theorem dX3_failAt_0 : decode cX3_failAt 0 = .ok (.aload_n 0, 1) := dchk_at dall_X3_failAt_27_rd00_0 (k := 0) rfl
theorem dX3_failAt_1 : decode cX3_failAt 1 = .ok (.iload_n 1, 1) := dchk_at dall_X3_failAt_27_rd00_0 (k := 1) rfl
theorem dX3_failAt_2 : decode cX3_failAt 2 = .ok (.putfield 40, 3) := dchk_at dall_X3_failAt_27_rd00_0 (k := 2) rfl
theorem dX3_failAt_5 : decode cX3_failAt 5 = .ok (.iconst 0, 1) := dchk_at dall_X3_failAt_27_rd00_0 (k := 3) rfl
theorem dX3_failAt_6 : decode cX3_failAt 6 = .ok (.ireturn, 1) := dchk_at dall_X3_failAt_27_rd00_0 (k := 4) rfl
def dl_X3_skipBlanks_27_rd00_0 : List (Nat × Instr × Nat) := [(0, .aload_n 0, 1), (1, .getfield 31, 3), (4, .aload_n 0, 1), (5, .getfield 43, 3), (8, .getfield 59, 3), (11, .if_icmp .ge 32, 3), (14, .aload_n 0, 1), (15, .getfield 43, 3), (18, .aload_n 0, 1), (19, .getfield 31, 3), (22, .invokevirtual 143, 3), (25, .bipush 32, 2), (27, .if_icmp .ne 16, 3), (30, .aload_n 0, 1), (31, .dup, 1), (32, .getfield 31, 3), (35, .iconst 1, 1), (36, .iadd, 1), (37, .putfield 31, 3), (40, .goto (-40), 3), (43, .return_, 1)]
set_option maxRecDepth 100000 in
theorem dall_X3_skipBlanks_27_rd00_0 : dchk cX3_skipBlanks dl_X3_skipBlanks_27_rd00_0 = true := by decide +kernel
theorem dX3_skipBlanks_0 : decode cX3_skipBlanks 0 = .ok (.aload_n 0, 1) := dchk_at dall_X3_skipBlanks_27_rd00_0 (k := 0) rfl
theorem dX3_skipBlanks_1 : decode cX3_skipBlanks 1 = .ok (.getfield 31, 3) := dchk_at dall_X3_skipBlanks_27_rd00_0 (k := 1) rfl
theorem dX3_skipBlanks_4 : decode cX3_skipBlanks 4 = .ok (.aload_n 0, 1) := dchk_at dall_X3_skipBlanks_27_rd00_0 (k := 2) rfl
theorem dX3_skipBlanks_5 : decode cX3_skipBlanks 5 = .ok (.getfield 43, 3) := dchk_at dall_X3_skipBlanks_27_rd00_0 (k := 3) rfl
theorem dX3_skipBlanks_8 : decode cX3_skipBlanks 8 = .ok (.getfield 59, 3) := dchk_at dall_X3_skipBlanks_27_rd00_0 (k := 4) rfl
theorem dX3_skipBlanks_11 : decode cX3_skipBlanks 11 = .ok (.if_icmp .ge 32, 3) := dchk_at dall_X3_skipBlanks_27_rd00_0 (k := 5) rfl
theorem dX3_skipBlanks_14 : decode cX3_skipBlanks 14 = .ok (.aload_n 0, 1) := dchk_at dall_X3_skipBlanks_27_rd00_0 (k := 6) rfl
theorem dX3_skipBlanks_15 : decode cX3_skipBlanks 15 = .ok (.getfield 43, 3) := dchk_at dall_X3_skipBlanks_27_rd00_0 (k := 7) rfl
theorem dX3_skipBlanks_18 : decode cX3_skipBlanks 18 = .ok (.aload_n 0, 1) := dchk_at dall_X3_skipBlanks_27_rd00_0 (k := 8) rfl
theorem dX3_skipBlanks_19 : decode cX3_skipBlanks 19 = .ok (.getfield 31, 3) := dchk_at dall_X3_skipBlanks_27_rd00_0 (k := 9) rfl
theorem dX3_skipBlanks_22 : decode cX3_skipBlanks 22 = .ok (.invokevirtual 143, 3) := dchk_at dall_X3_skipBlanks_27_rd00_0 (k := 10) rfl
theorem dX3_skipBlanks_25 : decode cX3_skipBlanks 25 = .ok (.bipush 32, 2) := dchk_at dall_X3_skipBlanks_27_rd00_0 (k := 11) rfl
theorem dX3_skipBlanks_27 : decode cX3_skipBlanks 27 = .ok (.if_icmp .ne 16, 3) := dchk_at dall_X3_skipBlanks_27_rd00_0 (k := 12) rfl
theorem dX3_skipBlanks_30 : decode cX3_skipBlanks 30 = .ok (.aload_n 0, 1) := dchk_at dall_X3_skipBlanks_27_rd00_0 (k := 13) rfl
theorem dX3_skipBlanks_31 : decode cX3_skipBlanks 31 = .ok (.dup, 1) := dchk_at dall_X3_skipBlanks_27_rd00_0 (k := 14) rfl
theorem dX3_skipBlanks_32 : decode cX3_skipBlanks 32 = .ok (.getfield 31, 3) := dchk_at dall_X3_skipBlanks_27_rd00_0 (k := 15) rfl
theorem dX3_skipBlanks_35 : decode cX3_skipBlanks 35 = .ok (.iconst 1, 1) := dchk_at dall_X3_skipBlanks_27_rd00_0 (k := 16) rfl
theorem dX3_skipBlanks_36 : decode cX3_skipBlanks 36 = .ok (.iadd, 1) := dchk_at dall_X3_skipBlanks_27_rd00_0 (k := 17) rfl
theorem dX3_skipBlanks_37 : decode cX3_skipBlanks 37 = .ok (.putfield 31, 3) := dchk_at dall_X3_skipBlanks_27_rd00_0 (k := 18) rfl
theorem dX3_skipBlanks_40 : decode cX3_skipBlanks 40 = .ok (.goto (-40), 3) := dchk_at dall_X3_skipBlanks_27_rd00_0 (k := 19) rfl
theorem dX3_skipBlanks_43 : decode cX3_skipBlanks 43 = .ok (.return_, 1) := dchk_at dall_X3_skipBlanks_27_rd00_0 (k := 20) rfl
def dl_X3_isAtEnd_27_rd00_0 : List (Nat × Instr × Nat) := [(0, .aload_n 0, 1), (1, .invokevirtual 140, 3), (4, .aload_n 0, 1), (5, .getfield 31, 3), (8, .aload_n 0, 1), (9, .getfield 43, 3), (12, .getfield 59, 3), (15, .if_icmp .lt 7, 3), (22, .iconst 0, 1), (23, .ireturn, 1), (18, .iconst 1, 1), (19, .goto 4, 3)]
set_option maxRecDepth 100000 in
theorem dall_X3_isAtEnd_27_rd00_0 : dchk cX3_isAtEnd dl_X3_isAtEnd_27_rd00_0 = true := by decide +kernel
theorem dX3_isAtEnd_0 : decode cX3_isAtEnd 0 = .ok (.aload_n 0, 1) := dchk_at dall_X3_isAtEnd_27_rd00_0 (k := 0) rfl
theorem dX3_isAtEnd_1 : decode cX3_isAtEnd 1 = .ok (.invokevirtual 140, 3) := dchk_at dall_X3_isAtEnd_27_rd00_0 (k := 1) rfl
theorem dX3_isAtEnd_4 : decode cX3_isAtEnd 4 = .ok (.aload_n 0, 1) := dchk_at dall_X3_isAtEnd_27_rd00_0 (k := 2) rfl
theorem dX3_isAtEnd_5 : decode cX3_isAtEnd 5 = .ok (.getfield 31, 3) := dchk_at dall_X3_isAtEnd_27_rd00_0 (k := 3) rfl
theorem dX3_isAtEnd_8 : decode cX3_isAtEnd 8 = .ok (.aload_n 0, 1) := dchk_at dall_X3_isAtEnd_27_rd00_0 (k := 4) rfl
theorem dX3_isAtEnd_9 : decode cX3_isAtEnd 9 = .ok (.getfield 43, 3) := dchk_at dall_X3_isAtEnd_27_rd00_0 (k := 5) rfl
theorem dX3_isAtEnd_12 : decode cX3_isAtEnd 12 = .ok (.getfield 59, 3) := dchk_at dall_X3_isAtEnd_27_rd00_0 (k := 6) rfl
theorem dX3_isAtEnd_15 : decode cX3_isAtEnd 15 = .ok (.if_icmp .lt 7, 3) := dchk_at dall_X3_isAtEnd_27_rd00_0 (k := 7) rfl
theorem dX3_isAtEnd_22 : decode cX3_isAtEnd 22 = .ok (.iconst 0, 1) := dchk_at dall_X3_isAtEnd_27_rd00_0 (k := 8) rfl
theorem dX3_isAtEnd_23 : decode cX3_isAtEnd 23 = .ok (.ireturn, 1) := dchk_at dall_X3_isAtEnd_27_rd00_0 (k := 9) rfl
theorem dX3_isAtEnd_18 : decode cX3_isAtEnd 18 = .ok (.iconst 1, 1) := dchk_at dall_X3_isAtEnd_27_rd00_0 (k := 10) rfl
theorem dX3_isAtEnd_19 : decode cX3_isAtEnd 19 = .ok (.goto 4, 3) := dchk_at dall_X3_isAtEnd_27_rd00_0 (k := 11) rfl
def dl_X3_isDigit_27_rd00_0 : List (Nat × Instr × Nat) := [(0, .iload_n 0, 1), (1, .bipush 48, 2), (3, .if_icmp .lt 13, 3), (16, .iconst 0, 1), (17, .ireturn, 1), (6, .iload_n 0, 1), (7, .bipush 57, 2), (9, .if_icmp .gt 7, 3), (12, .iconst 1, 1), (13, .goto 4, 3)]
set_option maxRecDepth 100000 in
theorem dall_X3_isDigit_27_rd00_0 : dchk cX3_isDigit dl_X3_isDigit_27_rd00_0 = true := by decide +kernel
theorem dX3_isDigit_0 : decode cX3_isDigit 0 = .ok (.iload_n 0, 1) := dchk_at dall_X3_isDigit_27_rd00_0 (k := 0) rfl
theorem dX3_isDigit_1 : decode cX3_isDigit 1 = .ok (.bipush 48, 2) := dchk_at dall_X3_isDigit_27_rd00_0 (k := 1) rfl
theorem dX3_isDigit_3 : decode cX3_isDigit 3 = .ok (.if_icmp .lt 13, 3) := dchk_at dall_X3_isDigit_27_rd00_0 (k := 2) rfl
theorem dX3_isDigit_16 : decode cX3_isDigit 16 = .ok (.iconst 0, 1) := dchk_at dall_X3_isDigit_27_rd00_0 (k := 3) rfl
theorem dX3_isDigit_17 : decode cX3_isDigit 17 = .ok (.ireturn, 1) := dchk_at dall_X3_isDigit_27_rd00_0 (k := 4) rfl
theorem dX3_isDigit_6 : decode cX3_isDigit 6 = .ok (.iload_n 0, 1) := dchk_at dall_X3_isDigit_27_rd00_0 (k := 5) rfl
theorem dX3_isDigit_7 : decode cX3_isDigit 7 = .ok (.bipush 57, 2) := dchk_at dall_X3_isDigit_27_rd00_0 (k := 6) rfl
theorem dX3_isDigit_9 : decode cX3_isDigit 9 = .ok (.if_icmp .gt 7, 3) := dchk_at dall_X3_isDigit_27_rd00_0 (k := 7) rfl
theorem dX3_isDigit_12 : decode cX3_isDigit 12 = .ok (.iconst 1, 1) := dchk_at dall_X3_isDigit_27_rd00_0 (k := 8) rfl
theorem dX3_isDigit_13 : decode cX3_isDigit 13 = .ok (.goto 4, 3) := dchk_at dall_X3_isDigit_27_rd00_0 (k := 9) rfl
def dl_X3_isLetter_27_rd00_0 : List (Nat × Instr × Nat) := [(0, .iload_n 0, 1), (1, .bipush 97, 2), (3, .if_icmp .lt 13, 3), (16, .iconst 0, 1), (17, .ireturn, 1), (6, .iload_n 0, 1), (7, .bipush 122, 2), (9, .if_icmp .gt 7, 3), (12, .iconst 1, 1), (13, .goto 4, 3)]
set_option maxRecDepth 100000 in
theorem dall_X3_isLetter_27_rd00_0 : dchk cX3_isLetter dl_X3_isLetter_27_rd00_0 = true := by decide +kernel
theorem dX3_isLetter_0 : decode cX3_isLetter 0 = .ok (.iload_n 0, 1) := dchk_at dall_X3_isLetter_27_rd00_0 (k := 0) rfl
theorem dX3_isLetter_1 : decode cX3_isLetter 1 = .ok (.bipush 97, 2) := dchk_at dall_X3_isLetter_27_rd00_0 (k := 1) rfl
theorem dX3_isLetter_3 : decode cX3_isLetter 3 = .ok (.if_icmp .lt 13, 3) := dchk_at dall_X3_isLetter_27_rd00_0 (k := 2) rfl
theorem dX3_isLetter_16 : decode cX3_isLetter 16 = .ok (.iconst 0, 1) := dchk_at dall_X3_isLetter_27_rd00_0 (k := 3) rfl
theorem dX3_isLetter_17 : decode cX3_isLetter 17 = .ok (.ireturn, 1) := dchk_at dall_X3_isLetter_27_rd00_0 (k := 4) rfl
theorem dX3_isLetter_6 : decode cX3_isLetter 6 = .ok (.iload_n 0, 1) := dchk_at dall_X3_isLetter_27_rd00_0 (k := 5) rfl
theorem dX3_isLetter_7 : decode cX3_isLetter 7 = .ok (.bipush 122, 2) := dchk_at dall_X3_isLetter_27_rd00_0 (k := 6) rfl
theorem dX3_isLetter_9 : decode cX3_isLetter 9 = .ok (.if_icmp .gt 7, 3) := dchk_at dall_X3_isLetter_27_rd00_0 (k := 7) rfl
theorem dX3_isLetter_12 : decode cX3_isLetter 12 = .ok (.iconst 1, 1) := dchk_at dall_X3_isLetter_27_rd00_0 (k := 8) rfl
theorem dX3_isLetter_13 : decode cX3_isLetter 13 = .ok (.goto 4, 3) := dchk_at dall_X3_isLetter_27_rd00_0 (k := 9) rfl
def dl_X3_isWord_27_rd00_0 : List (Nat × Instr × Nat) := [(20, .iload_n 2, 1), (21, .aload_n 1, 1), (22, .invokevirtual 150, 3), (25, .if_icmp .ge 32, 3), (28, .aload_n 0, 1), (29, .getfield 43, 3), (32, .aload_n 0, 1), (33, .getfield 34, 3), (36, .iload_n 2, 1), (37, .iadd, 1), (38, .invokevirtual 143, 3), (41, .aload_n 1, 1), (42, .iload_n 2, 1), (43, .invokevirtual 154, 3), (46, .if_icmp .eq 5, 3), (51, .iinc 2 1, 3), (54, .goto (-34), 3), (0, .aload_n 0, 1), (1, .getfield 31, 3), (4, .aload_n 0, 1), (5, .getfield 34, 3), (8, .isub, 1), (9, .aload_n 1, 1), (10, .invokevirtual 150, 3), (13, .if_icmp .eq 5, 3), (18, .iconst 0, 1), (19, .istore_n 2, 1), (49, .iconst 0, 1), (50, .ireturn, 1), (57, .iconst 1, 1), (58, .ireturn, 1), (16, .iconst 0, 1), (17, .ireturn, 1)]
set_option maxRecDepth 100000 in
theorem dall_X3_isWord_27_rd00_0 : dchk cX3_isWord dl_X3_isWord_27_rd00_0 = true := by decide +kernel
theorem dX3_isWord_20 : decode cX3_isWord 20 = .ok (.iload_n 2, 1) := dchk_at dall_X3_isWord_27_rd00_0 (k := 0) rfl
theorem dX3_isWord_21 : decode cX3_isWord 21 = .ok (.aload_n 1, 1) := dchk_at dall_X3_isWord_27_rd00_0 (k := 1) rfl
theorem dX3_isWord_22 : decode cX3_isWord 22 = .ok (.invokevirtual 150, 3) := dchk_at dall_X3_isWord_27_rd00_0 (k := 2) rfl
theorem dX3_isWord_25 : decode cX3_isWord 25 = .ok (.if_icmp .ge 32, 3) := dchk_at dall_X3_isWord_27_rd00_0 (k := 3) rfl
theorem dX3_isWord_28 : decode cX3_isWord 28 = .ok (.aload_n 0, 1) := dchk_at dall_X3_isWord_27_rd00_0 (k := 4) rfl
theorem dX3_isWord_29 : decode cX3_isWord 29 = .ok (.getfield 43, 3) := dchk_at dall_X3_isWord_27_rd00_0 (k := 5) rfl
theorem dX3_isWord_32 : decode cX3_isWord 32 = .ok (.aload_n 0, 1) := dchk_at dall_X3_isWord_27_rd00_0 (k := 6) rfl
theorem dX3_isWord_33 : decode cX3_isWord 33 = .ok (.getfield 34, 3) := dchk_at dall_X3_isWord_27_rd00_0 (k := 7) rfl
theorem dX3_isWord_36 : decode cX3_isWord 36 = .ok (.iload_n 2, 1) := dchk_at dall_X3_isWord_27_rd00_0 (k := 8) rfl
theorem dX3_isWord_37 : decode cX3_isWord 37 = .ok (.iadd, 1) := dchk_at dall_X3_isWord_27_rd00_0 (k := 9) rfl
theorem dX3_isWord_38 : decode cX3_isWord 38 = .ok (.invokevirtual 143, 3) := dchk_at dall_X3_isWord_27_rd00_0 (k := 10) rfl
theorem dX3_isWord_41 : decode cX3_isWord 41 = .ok (.aload_n 1, 1) := dchk_at dall_X3_isWord_27_rd00_0 (k := 11) rfl
theorem dX3_isWord_42 : decode cX3_isWord 42 = .ok (.iload_n 2, 1) := dchk_at dall_X3_isWord_27_rd00_0 (k := 12) rfl
theorem dX3_isWord_43 : decode cX3_isWord 43 = .ok (.invokevirtual 154, 3) := dchk_at dall_X3_isWord_27_rd00_0 (k := 13) rfl
theorem dX3_isWord_46 : decode cX3_isWord 46 = .ok (.if_icmp .eq 5, 3) := dchk_at dall_X3_isWord_27_rd00_0 (k := 14) rfl
theorem dX3_isWord_51 : decode cX3_isWord 51 = .ok (.iinc 2 1, 3) := dchk_at dall_X3_isWord_27_rd00_0 (k := 15) rfl
theorem dX3_isWord_54 : decode cX3_isWord 54 = .ok (.goto (-34), 3) := dchk_at dall_X3_isWord_27_rd00_0 (k := 16) rfl
theorem dX3_isWord_0 : decode cX3_isWord 0 = .ok (.aload_n 0, 1) := dchk_at dall_X3_isWord_27_rd00_0 (k := 17) rfl
theorem dX3_isWord_1 : decode cX3_isWord 1 = .ok (.getfield 31, 3) := dchk_at dall_X3_isWord_27_rd00_0 (k := 18) rfl
theorem dX3_isWord_4 : decode cX3_isWord 4 = .ok (.aload_n 0, 1) := dchk_at dall_X3_isWord_27_rd00_0 (k := 19) rfl
theorem dX3_isWord_5 : decode cX3_isWord 5 = .ok (.getfield 34, 3) := dchk_at dall_X3_isWord_27_rd00_0 (k := 20) rfl
theorem dX3_isWord_8 : decode cX3_isWord 8 = .ok (.isub, 1) := dchk_at dall_X3_isWord_27_rd00_0 (k := 21) rfl
theorem dX3_isWord_9 : decode cX3_isWord 9 = .ok (.aload_n 1, 1) := dchk_at dall_X3_isWord_27_rd00_0 (k := 22) rfl
theorem dX3_isWord_10 : decode cX3_isWord 10 = .ok (.invokevirtual 150, 3) := dchk_at dall_X3_isWord_27_rd00_0 (k := 23) rfl
theorem dX3_isWord_13 : decode cX3_isWord 13 = .ok (.if_icmp .eq 5, 3) := dchk_at dall_X3_isWord_27_rd00_0 (k := 24) rfl
theorem dX3_isWord_18 : decode cX3_isWord 18 = .ok (.iconst 0, 1) := dchk_at dall_X3_isWord_27_rd00_0 (k := 25) rfl
theorem dX3_isWord_19 : decode cX3_isWord 19 = .ok (.istore_n 2, 1) := dchk_at dall_X3_isWord_27_rd00_0 (k := 26) rfl
theorem dX3_isWord_49 : decode cX3_isWord 49 = .ok (.iconst 0, 1) := dchk_at dall_X3_isWord_27_rd00_0 (k := 27) rfl
theorem dX3_isWord_50 : decode cX3_isWord 50 = .ok (.ireturn, 1) := dchk_at dall_X3_isWord_27_rd00_0 (k := 28) rfl
theorem dX3_isWord_57 : decode cX3_isWord 57 = .ok (.iconst 1, 1) := dchk_at dall_X3_isWord_27_rd00_0 (k := 29) rfl
theorem dX3_isWord_58 : decode cX3_isWord 58 = .ok (.ireturn, 1) := dchk_at dall_X3_isWord_27_rd00_0 (k := 30) rfl
theorem dX3_isWord_16 : decode cX3_isWord 16 = .ok (.iconst 0, 1) := dchk_at dall_X3_isWord_27_rd00_0 (k := 31) rfl
theorem dX3_isWord_17 : decode cX3_isWord 17 = .ok (.ireturn, 1) := dchk_at dall_X3_isWord_27_rd00_0 (k := 32) rfl
def dl_X3_lawOfWord_27_rd00_0 : List (Nat × Instr × Nat) := [(0, .aload_n 0, 1), (1, .ldc 132, 2), (3, .invokevirtual 76, 3), (6, .ifCond .eq 5, 3), (11, .aload_n 0, 1), (12, .ldc 134, 2), (14, .invokevirtual 76, 3), (17, .ifCond .eq 5, 3), (22, .aload_n 0, 1), (23, .ldc 136, 2), (25, .invokevirtual 76, 3), (28, .ifCond .eq 5, 3), (33, .aload_n 0, 1), (34, .ldc 138, 2), (36, .invokevirtual 76, 3), (39, .ifCond .eq 7, 3), (46, .iconst (-1), 1), (47, .ireturn, 1), (42, .iconst 3, 1), (43, .goto 4, 3), (31, .iconst 2, 1), (32, .ireturn, 1), (20, .iconst 1, 1), (21, .ireturn, 1), (9, .iconst 0, 1), (10, .ireturn, 1)]
set_option maxRecDepth 100000 in
theorem dall_X3_lawOfWord_27_rd00_0 : dchk cX3_lawOfWord dl_X3_lawOfWord_27_rd00_0 = true := by decide +kernel
theorem dX3_lawOfWord_0 : decode cX3_lawOfWord 0 = .ok (.aload_n 0, 1) := dchk_at dall_X3_lawOfWord_27_rd00_0 (k := 0) rfl
theorem dX3_lawOfWord_1 : decode cX3_lawOfWord 1 = .ok (.ldc 132, 2) := dchk_at dall_X3_lawOfWord_27_rd00_0 (k := 1) rfl
theorem dX3_lawOfWord_3 : decode cX3_lawOfWord 3 = .ok (.invokevirtual 76, 3) := dchk_at dall_X3_lawOfWord_27_rd00_0 (k := 2) rfl
theorem dX3_lawOfWord_6 : decode cX3_lawOfWord 6 = .ok (.ifCond .eq 5, 3) := dchk_at dall_X3_lawOfWord_27_rd00_0 (k := 3) rfl
theorem dX3_lawOfWord_11 : decode cX3_lawOfWord 11 = .ok (.aload_n 0, 1) := dchk_at dall_X3_lawOfWord_27_rd00_0 (k := 4) rfl
theorem dX3_lawOfWord_12 : decode cX3_lawOfWord 12 = .ok (.ldc 134, 2) := dchk_at dall_X3_lawOfWord_27_rd00_0 (k := 5) rfl
theorem dX3_lawOfWord_14 : decode cX3_lawOfWord 14 = .ok (.invokevirtual 76, 3) := dchk_at dall_X3_lawOfWord_27_rd00_0 (k := 6) rfl
theorem dX3_lawOfWord_17 : decode cX3_lawOfWord 17 = .ok (.ifCond .eq 5, 3) := dchk_at dall_X3_lawOfWord_27_rd00_0 (k := 7) rfl
theorem dX3_lawOfWord_22 : decode cX3_lawOfWord 22 = .ok (.aload_n 0, 1) := dchk_at dall_X3_lawOfWord_27_rd00_0 (k := 8) rfl
theorem dX3_lawOfWord_23 : decode cX3_lawOfWord 23 = .ok (.ldc 136, 2) := dchk_at dall_X3_lawOfWord_27_rd00_0 (k := 9) rfl
theorem dX3_lawOfWord_25 : decode cX3_lawOfWord 25 = .ok (.invokevirtual 76, 3) := dchk_at dall_X3_lawOfWord_27_rd00_0 (k := 10) rfl
theorem dX3_lawOfWord_28 : decode cX3_lawOfWord 28 = .ok (.ifCond .eq 5, 3) := dchk_at dall_X3_lawOfWord_27_rd00_0 (k := 11) rfl
theorem dX3_lawOfWord_33 : decode cX3_lawOfWord 33 = .ok (.aload_n 0, 1) := dchk_at dall_X3_lawOfWord_27_rd00_0 (k := 12) rfl
theorem dX3_lawOfWord_34 : decode cX3_lawOfWord 34 = .ok (.ldc 138, 2) := dchk_at dall_X3_lawOfWord_27_rd00_0 (k := 13) rfl
theorem dX3_lawOfWord_36 : decode cX3_lawOfWord 36 = .ok (.invokevirtual 76, 3) := dchk_at dall_X3_lawOfWord_27_rd00_0 (k := 14) rfl
theorem dX3_lawOfWord_39 : decode cX3_lawOfWord 39 = .ok (.ifCond .eq 7, 3) := dchk_at dall_X3_lawOfWord_27_rd00_0 (k := 15) rfl
theorem dX3_lawOfWord_46 : decode cX3_lawOfWord 46 = .ok (.iconst (-1), 1) := dchk_at dall_X3_lawOfWord_27_rd00_0 (k := 16) rfl
theorem dX3_lawOfWord_47 : decode cX3_lawOfWord 47 = .ok (.ireturn, 1) := dchk_at dall_X3_lawOfWord_27_rd00_0 (k := 17) rfl
theorem dX3_lawOfWord_42 : decode cX3_lawOfWord 42 = .ok (.iconst 3, 1) := dchk_at dall_X3_lawOfWord_27_rd00_0 (k := 18) rfl
theorem dX3_lawOfWord_43 : decode cX3_lawOfWord 43 = .ok (.goto 4, 3) := dchk_at dall_X3_lawOfWord_27_rd00_0 (k := 19) rfl
theorem dX3_lawOfWord_31 : decode cX3_lawOfWord 31 = .ok (.iconst 2, 1) := dchk_at dall_X3_lawOfWord_27_rd00_0 (k := 20) rfl
theorem dX3_lawOfWord_32 : decode cX3_lawOfWord 32 = .ok (.ireturn, 1) := dchk_at dall_X3_lawOfWord_27_rd00_0 (k := 21) rfl
theorem dX3_lawOfWord_20 : decode cX3_lawOfWord 20 = .ok (.iconst 1, 1) := dchk_at dall_X3_lawOfWord_27_rd00_0 (k := 22) rfl
theorem dX3_lawOfWord_21 : decode cX3_lawOfWord 21 = .ok (.ireturn, 1) := dchk_at dall_X3_lawOfWord_27_rd00_0 (k := 23) rfl
theorem dX3_lawOfWord_9 : decode cX3_lawOfWord 9 = .ok (.iconst 0, 1) := dchk_at dall_X3_lawOfWord_27_rd00_0 (k := 24) rfl
theorem dX3_lawOfWord_10 : decode cX3_lawOfWord 10 = .ok (.ireturn, 1) := dchk_at dall_X3_lawOfWord_27_rd00_0 (k := 25) rfl
def dl_X3_putInStep_27_rd00_0 : List (Nat × Instr × Nat) := [(0, .aload_n 0, 1), (1, .getfield 25, 3), (4, .bipush 12, 2), (6, .if_icmp .ge 26, 3), (32, .return_, 1), (9, .iload_n 1, 1), (10, .ifCond .lt 22, 3), (13, .iload_n 1, 1), (14, .iconst 4, 1), (15, .if_icmp .ge 17, 3), (18, .aload_n 0, 1), (19, .getfield 18, 3), (22, .aload_n 0, 1), (23, .getfield 25, 3), (26, .iconst 4, 1), (27, .imul, 1), (28, .iload_n 1, 1), (29, .iadd, 1), (30, .iload_n 2, 1), (31, .iastore, 1)]
set_option maxRecDepth 100000 in
theorem dall_X3_putInStep_27_rd00_0 : dchk cX3_putInStep dl_X3_putInStep_27_rd00_0 = true := by decide +kernel
theorem dX3_putInStep_0 : decode cX3_putInStep 0 = .ok (.aload_n 0, 1) := dchk_at dall_X3_putInStep_27_rd00_0 (k := 0) rfl
theorem dX3_putInStep_1 : decode cX3_putInStep 1 = .ok (.getfield 25, 3) := dchk_at dall_X3_putInStep_27_rd00_0 (k := 1) rfl
theorem dX3_putInStep_4 : decode cX3_putInStep 4 = .ok (.bipush 12, 2) := dchk_at dall_X3_putInStep_27_rd00_0 (k := 2) rfl
theorem dX3_putInStep_6 : decode cX3_putInStep 6 = .ok (.if_icmp .ge 26, 3) := dchk_at dall_X3_putInStep_27_rd00_0 (k := 3) rfl
theorem dX3_putInStep_32 : decode cX3_putInStep 32 = .ok (.return_, 1) := dchk_at dall_X3_putInStep_27_rd00_0 (k := 4) rfl
theorem dX3_putInStep_9 : decode cX3_putInStep 9 = .ok (.iload_n 1, 1) := dchk_at dall_X3_putInStep_27_rd00_0 (k := 5) rfl
theorem dX3_putInStep_10 : decode cX3_putInStep 10 = .ok (.ifCond .lt 22, 3) := dchk_at dall_X3_putInStep_27_rd00_0 (k := 6) rfl
theorem dX3_putInStep_13 : decode cX3_putInStep 13 = .ok (.iload_n 1, 1) := dchk_at dall_X3_putInStep_27_rd00_0 (k := 7) rfl
theorem dX3_putInStep_14 : decode cX3_putInStep 14 = .ok (.iconst 4, 1) := dchk_at dall_X3_putInStep_27_rd00_0 (k := 8) rfl
theorem dX3_putInStep_15 : decode cX3_putInStep 15 = .ok (.if_icmp .ge 17, 3) := dchk_at dall_X3_putInStep_27_rd00_0 (k := 9) rfl
theorem dX3_putInStep_18 : decode cX3_putInStep 18 = .ok (.aload_n 0, 1) := dchk_at dall_X3_putInStep_27_rd00_0 (k := 10) rfl
theorem dX3_putInStep_19 : decode cX3_putInStep 19 = .ok (.getfield 18, 3) := dchk_at dall_X3_putInStep_27_rd00_0 (k := 11) rfl
theorem dX3_putInStep_22 : decode cX3_putInStep 22 = .ok (.aload_n 0, 1) := dchk_at dall_X3_putInStep_27_rd00_0 (k := 12) rfl
theorem dX3_putInStep_23 : decode cX3_putInStep 23 = .ok (.getfield 25, 3) := dchk_at dall_X3_putInStep_27_rd00_0 (k := 13) rfl
theorem dX3_putInStep_26 : decode cX3_putInStep 26 = .ok (.iconst 4, 1) := dchk_at dall_X3_putInStep_27_rd00_0 (k := 14) rfl
theorem dX3_putInStep_27 : decode cX3_putInStep 27 = .ok (.imul, 1) := dchk_at dall_X3_putInStep_27_rd00_0 (k := 15) rfl
theorem dX3_putInStep_28 : decode cX3_putInStep 28 = .ok (.iload_n 1, 1) := dchk_at dall_X3_putInStep_27_rd00_0 (k := 16) rfl
theorem dX3_putInStep_29 : decode cX3_putInStep 29 = .ok (.iadd, 1) := dchk_at dall_X3_putInStep_27_rd00_0 (k := 17) rfl
theorem dX3_putInStep_30 : decode cX3_putInStep 30 = .ok (.iload_n 2, 1) := dchk_at dall_X3_putInStep_27_rd00_0 (k := 18) rfl
theorem dX3_putInStep_31 : decode cX3_putInStep 31 = .ok (.iastore, 1) := dchk_at dall_X3_putInStep_27_rd00_0 (k := 19) rfl
def dl_X3_readWord_27_rd00_0 : List (Nat × Instr × Nat) := [(12, .aload_n 0, 1), (13, .getfield 31, 3), (16, .aload_n 0, 1), (17, .getfield 43, 3), (20, .getfield 59, 3), (23, .if_icmp .ge 33, 3), (26, .aload_n 0, 1), (27, .getfield 43, 3), (30, .aload_n 0, 1), (31, .getfield 31, 3), (34, .invokevirtual 143, 3), (37, .invokestatic 147, 3), (40, .ifCond .eq 16, 3), (43, .aload_n 0, 1), (44, .dup, 1), (45, .getfield 31, 3), (48, .iconst 1, 1), (49, .iadd, 1), (50, .putfield 31, 3), (53, .goto (-41), 3), (56, .aload_n 0, 1), (57, .getfield 31, 3), (60, .aload_n 0, 1), (61, .getfield 34, 3), (64, .if_icmp .gt 14, 3), (78, .iconst 1, 1), (79, .goto 4, 3), (83, .ireturn, 1), (67, .aload_n 0, 1), (68, .aload_n 0, 1), (69, .getfield 31, 3), (72, .invokevirtual 87, 3), (75, .ifCond .eq 7, 3), (82, .iconst 0, 1), (0, .aload_n 0, 1), (1, .invokevirtual 140, 3), (4, .aload_n 0, 1), (5, .aload_n 0, 1), (6, .getfield 31, 3), (9, .putfield 34, 3)]
set_option maxRecDepth 100000 in
theorem dall_X3_readWord_27_rd00_0 : dchk cX3_readWord dl_X3_readWord_27_rd00_0 = true := by decide +kernel
theorem dX3_readWord_12 : decode cX3_readWord 12 = .ok (.aload_n 0, 1) := dchk_at dall_X3_readWord_27_rd00_0 (k := 0) rfl
theorem dX3_readWord_13 : decode cX3_readWord 13 = .ok (.getfield 31, 3) := dchk_at dall_X3_readWord_27_rd00_0 (k := 1) rfl
theorem dX3_readWord_16 : decode cX3_readWord 16 = .ok (.aload_n 0, 1) := dchk_at dall_X3_readWord_27_rd00_0 (k := 2) rfl
theorem dX3_readWord_17 : decode cX3_readWord 17 = .ok (.getfield 43, 3) := dchk_at dall_X3_readWord_27_rd00_0 (k := 3) rfl
theorem dX3_readWord_20 : decode cX3_readWord 20 = .ok (.getfield 59, 3) := dchk_at dall_X3_readWord_27_rd00_0 (k := 4) rfl
theorem dX3_readWord_23 : decode cX3_readWord 23 = .ok (.if_icmp .ge 33, 3) := dchk_at dall_X3_readWord_27_rd00_0 (k := 5) rfl
theorem dX3_readWord_26 : decode cX3_readWord 26 = .ok (.aload_n 0, 1) := dchk_at dall_X3_readWord_27_rd00_0 (k := 6) rfl
theorem dX3_readWord_27 : decode cX3_readWord 27 = .ok (.getfield 43, 3) := dchk_at dall_X3_readWord_27_rd00_0 (k := 7) rfl
theorem dX3_readWord_30 : decode cX3_readWord 30 = .ok (.aload_n 0, 1) := dchk_at dall_X3_readWord_27_rd00_0 (k := 8) rfl
theorem dX3_readWord_31 : decode cX3_readWord 31 = .ok (.getfield 31, 3) := dchk_at dall_X3_readWord_27_rd00_0 (k := 9) rfl
theorem dX3_readWord_34 : decode cX3_readWord 34 = .ok (.invokevirtual 143, 3) := dchk_at dall_X3_readWord_27_rd00_0 (k := 10) rfl
theorem dX3_readWord_37 : decode cX3_readWord 37 = .ok (.invokestatic 147, 3) := dchk_at dall_X3_readWord_27_rd00_0 (k := 11) rfl
theorem dX3_readWord_40 : decode cX3_readWord 40 = .ok (.ifCond .eq 16, 3) := dchk_at dall_X3_readWord_27_rd00_0 (k := 12) rfl
theorem dX3_readWord_43 : decode cX3_readWord 43 = .ok (.aload_n 0, 1) := dchk_at dall_X3_readWord_27_rd00_0 (k := 13) rfl
theorem dX3_readWord_44 : decode cX3_readWord 44 = .ok (.dup, 1) := dchk_at dall_X3_readWord_27_rd00_0 (k := 14) rfl
theorem dX3_readWord_45 : decode cX3_readWord 45 = .ok (.getfield 31, 3) := dchk_at dall_X3_readWord_27_rd00_0 (k := 15) rfl
theorem dX3_readWord_48 : decode cX3_readWord 48 = .ok (.iconst 1, 1) := dchk_at dall_X3_readWord_27_rd00_0 (k := 16) rfl
theorem dX3_readWord_49 : decode cX3_readWord 49 = .ok (.iadd, 1) := dchk_at dall_X3_readWord_27_rd00_0 (k := 17) rfl
theorem dX3_readWord_50 : decode cX3_readWord 50 = .ok (.putfield 31, 3) := dchk_at dall_X3_readWord_27_rd00_0 (k := 18) rfl
theorem dX3_readWord_53 : decode cX3_readWord 53 = .ok (.goto (-41), 3) := dchk_at dall_X3_readWord_27_rd00_0 (k := 19) rfl
theorem dX3_readWord_56 : decode cX3_readWord 56 = .ok (.aload_n 0, 1) := dchk_at dall_X3_readWord_27_rd00_0 (k := 20) rfl
theorem dX3_readWord_57 : decode cX3_readWord 57 = .ok (.getfield 31, 3) := dchk_at dall_X3_readWord_27_rd00_0 (k := 21) rfl
theorem dX3_readWord_60 : decode cX3_readWord 60 = .ok (.aload_n 0, 1) := dchk_at dall_X3_readWord_27_rd00_0 (k := 22) rfl
theorem dX3_readWord_61 : decode cX3_readWord 61 = .ok (.getfield 34, 3) := dchk_at dall_X3_readWord_27_rd00_0 (k := 23) rfl
theorem dX3_readWord_64 : decode cX3_readWord 64 = .ok (.if_icmp .gt 14, 3) := dchk_at dall_X3_readWord_27_rd00_0 (k := 24) rfl
theorem dX3_readWord_78 : decode cX3_readWord 78 = .ok (.iconst 1, 1) := dchk_at dall_X3_readWord_27_rd00_0 (k := 25) rfl
theorem dX3_readWord_79 : decode cX3_readWord 79 = .ok (.goto 4, 3) := dchk_at dall_X3_readWord_27_rd00_0 (k := 26) rfl
theorem dX3_readWord_83 : decode cX3_readWord 83 = .ok (.ireturn, 1) := dchk_at dall_X3_readWord_27_rd00_0 (k := 27) rfl
theorem dX3_readWord_67 : decode cX3_readWord 67 = .ok (.aload_n 0, 1) := dchk_at dall_X3_readWord_27_rd00_0 (k := 28) rfl
theorem dX3_readWord_68 : decode cX3_readWord 68 = .ok (.aload_n 0, 1) := dchk_at dall_X3_readWord_27_rd00_0 (k := 29) rfl
theorem dX3_readWord_69 : decode cX3_readWord 69 = .ok (.getfield 31, 3) := dchk_at dall_X3_readWord_27_rd00_0 (k := 30) rfl
theorem dX3_readWord_72 : decode cX3_readWord 72 = .ok (.invokevirtual 87, 3) := dchk_at dall_X3_readWord_27_rd00_0 (k := 31) rfl
theorem dX3_readWord_75 : decode cX3_readWord 75 = .ok (.ifCond .eq 7, 3) := dchk_at dall_X3_readWord_27_rd00_0 (k := 32) rfl
theorem dX3_readWord_82 : decode cX3_readWord 82 = .ok (.iconst 0, 1) := dchk_at dall_X3_readWord_27_rd00_0 (k := 33) rfl
theorem dX3_readWord_0 : decode cX3_readWord 0 = .ok (.aload_n 0, 1) := dchk_at dall_X3_readWord_27_rd00_0 (k := 34) rfl
theorem dX3_readWord_1 : decode cX3_readWord 1 = .ok (.invokevirtual 140, 3) := dchk_at dall_X3_readWord_27_rd00_0 (k := 35) rfl
theorem dX3_readWord_4 : decode cX3_readWord 4 = .ok (.aload_n 0, 1) := dchk_at dall_X3_readWord_27_rd00_0 (k := 36) rfl
theorem dX3_readWord_5 : decode cX3_readWord 5 = .ok (.aload_n 0, 1) := dchk_at dall_X3_readWord_27_rd00_0 (k := 37) rfl
theorem dX3_readWord_6 : decode cX3_readWord 6 = .ok (.getfield 31, 3) := dchk_at dall_X3_readWord_27_rd00_0 (k := 38) rfl
theorem dX3_readWord_9 : decode cX3_readWord 9 = .ok (.putfield 34, 3) := dchk_at dall_X3_readWord_27_rd00_0 (k := 39) rfl
def F_X3_failAt (p1 : Int32) (c_failed : Int32) : Option (Int32 × Int32) :=
  some ((0 : Int32), p1)
abbrev w_X3_failAt (E : EE) (a_ a_tape a_rules a_places a_steps : Nat) (c_siteCount : Int32) (c_stepCount : Int32) (c_seenRules : Int32) (c_at : Int32) (c_wordStart : Int32) (c_number : Int32) (c_failed : Int32) : va_W := [(a_, .inr (4, [.ref a_tape, .ref a_rules, .ref a_places, .ref a_steps, .int c_siteCount, .int c_stepCount, .int c_seenRules, .int c_at, .int c_wordStart, .int c_number, .int c_failed]))]
def v_f_X3_failAt : List Cond := List.cons (.code yX3_failAt cX3_failAt 2 (some .boolean)) (HAppend.hAppend (α := List Cond) (β := List Cond) (γ := List Cond) [.fieldLink RX3 40 "HushWatch$Reader" "failed" "I"] (HAppend.hAppend (α := List Cond) (β := List Cond) (γ := List Cond) wsX30 []))
theorem gw_f_X3_failAt : v_f_X3_failAt.all goodWord = true := by decide +kernel
theorem i_f_X3_failAt_X3 : ∀ w ∈ wsX30, w ∈ v_f_X3_failAt := fun _ h => List.mem_cons_of_mem _ (List.mem_append_right _ (List.mem_append_left _ h))
theorem hd_X3_failAt : yX3_failAt.cls = RX3 ∧ yX3_failAt.cls ≠ "java/lang/invoke/MethodHandle" ∧ yX3_failAt.cls ≠ "java/lang/invoke/VarHandle" ∧ (parseMethodDescriptor yX3_failAt.desc).map (fun d => d.parameters.length) = some 1 := by decide +kernel
set_option maxHeartbeats 4000000 in
set_option maxRecDepth 100000 in
theorem f_X3_failAt (l : Launch) (E : EE) (sz : Nat) {a_ a_tape a_rules a_places a_steps : Nat} {p1 : Int32} {c_siteCount : Int32} {c_stepCount : Int32} {c_seenRules : Int32} {c_at : Int32} {c_wordStart : Int32} {c_number : Int32} {c_failed : Int32} {rr : Int32} {n_failed : Int32} (hF : F_X3_failAt p1 c_failed = some (rr, n_failed)) : Met l yX3_failAt v_f_X3_failAt (({ frames := 0, cells := 0, slots := 0, locals := 0 } : Room)) (va_Pc [.ref a_, .int p1] (pW E sz (w_X3_failAt E a_ a_tape a_rules a_places a_steps c_siteCount c_stepCount c_seenRules c_at c_wordStart c_number c_failed))) (va_Qi (fun (q : Int32) (_u : Unit) => q = rr ∧ (q = 0 ∨ q = 1)) (fun (_u : Unit) tt => va_P E.1 vwCl (w_X3_failAt E a_ a_tape a_rules a_places a_steps c_siteCount c_stepCount c_seenRules c_at c_wordStart c_number n_failed) tt.heap ∧ va_D (va_A (w_X3_failAt E a_ a_tape a_rules a_places a_steps c_siteCount c_stepCount c_seenRules c_at c_wordStart c_number c_failed) sz) (w_X3_failAt E a_ a_tape a_rules a_places a_steps c_siteCount c_stepCount c_seenRules c_at c_wordStart c_number n_failed)) (va_A (w_X3_failAt E a_ a_tape a_rules a_places a_steps c_siteCount c_stepCount c_seenRules c_at c_wordStart c_number c_failed) sz)) 0 0 (va_A (w_X3_failAt E a_ a_tape a_rules a_places a_steps c_siteCount c_stepCount c_seenRules c_at c_wordStart c_number c_failed) sz) := by
  refine Met.ofW (cc := cX3_failAt) (maxL := 2) (ret := (some .boolean)) (by decide) rfl ?_
  intro p e s m args below meth c s₁ B hml hv
  obtain ⟨rfl, hsz, ⟨hK, hN⟩, hP, hD0⟩ := hv
  have hx := B.exec
  have hb := B.bytes
  have hr := B.returns
  have hts := atoms_spec (ws := v_f_X3_failAt) B.pre
  have hown : s.vm.findClass RX3 = some m.cls := own_of hd_X3_failAt.1 (findClass_of_methodNamed B.named)
  have hlocks : meth.locks = false := B.notSynchronized
  subst hsz
  have hD := hD0.self (sz := s.heap.size)
  generalize hAe : va_A (w_X3_failAt E a_ a_tape a_rules a_places a_steps c_siteCount c_stepCount c_seenRules c_at c_wordStart c_number c_failed) s.heap.size = A at hD ⊢
  have hA : ∀ q : Nat, s.heap.size ≤ q → A q := fun q h => by rw [← hAe]; exact Or.inr h
  have hS : va_S A s.heap s.heap [] := va_S.rf
  have hl := lv_entry ([.ref a_, .int p1]) (n := 2) (Nat.le_of_ble_eq_true rfl)
  rw [lg_entry_eq]
  generalize (lg_sl ([.ref a_, .int p1]) ++ List.replicate (2 - (lg_sl ([.ref a_, .int p1])).length) Slot.unset).toArray = ls at hl ⊢
  have hl : lv_has ls 2 [(0, .ref a_), (1, .int p1)] := hl
  obtain ⟨Q, hQ⟩ : ∃ Q : State → Prop, Q = MQ below (va_Qi (fun (q : Int32) (_u : Unit) => q = rr ∧ (q = 0 ∨ q = 1)) (fun (_u : Unit) tt => va_P E.1 vwCl (w_X3_failAt E a_ a_tape a_rules a_places a_steps c_siteCount c_stepCount c_seenRules c_at c_wordStart c_number n_failed) tt.heap ∧ va_D A (w_X3_failAt E a_ a_tape a_rules a_places a_steps c_siteCount c_stepCount c_seenRules c_at c_wordStart c_number n_failed)) A) #[Value.ref a_, Value.int p1] s 0 0 A := ⟨_, rfl⟩
  rw [← hQ]
  change W p l e ({ frames := 0, cells := 0, slots := 0, locals := 0 } : Room) s m #[Value.ref a_, Value.int p1] below meth c s.heap [] 0 0 Q (F0 m 0 ls [])
  suffices hh9 : ∀ (H : Heap) (locs : List Loc), va_P E.1 vwCl (w_X3_failAt E a_ a_tape a_rules a_places a_steps c_siteCount c_stepCount c_seenRules c_at c_wordStart c_number c_failed) H → va_D A (w_X3_failAt E a_ a_tape a_rules a_places a_steps c_siteCount c_stepCount c_seenRules c_at c_wordStart c_number c_failed) → va_S A s.heap H locs → W p l e ({ frames := 0, cells := 0, slots := 0, locals := 0 } : Room) s m #[Value.ref a_, Value.int p1] below meth c H locs 0 0 Q (F0 m 0 ls []) from hh9 s.heap [] hP hD hS
  clear hP hD hS
  intro H locs hP hD hS
  replace hP : va_P E.1 vwCl [(a_, .inr (4, [.ref a_tape, .ref a_rules, .ref a_places, .ref a_steps, .int c_siteCount, .int c_stepCount, .int c_seenRules, .int c_at, .int c_wordStart, .int c_number, .int c_failed]))] H := hP
  replace hD : va_D A [(a_, .inr (4, [.ref a_tape, .ref a_rules, .ref a_places, .ref a_steps, .int c_siteCount, .int c_stepCount, .int c_seenRules, .int c_at, .int c_wordStart, .int c_number, .int c_failed]))] := hD
  unfold F_X3_failAt at hF
  refine lv_aload_n hx hb dX3_failAt_0 rfl (lv_at hl 0 rfl) ?_
  refine lv_iload_n hx hb dX3_failAt_1 rfl (lv_at hl 1 rfl) ?_
  refine pt_X3_10 (v := .int p1) hx hb hts i_f_X3_failAt_X3 hown hK hP hD hS 0 rfl (hts (.fieldLink RX3 40 "HushWatch$Reader" "failed" "I") (List.mem_of_getElem? (i := 1) rfl)) rfl rfl (Nat.le_of_ble_eq_true rfl) dX3_failAt_2 (fun H locs hP hD hS => ?_)
  replace hP : va_P E.1 vwCl [(a_, .inr (4, [.ref a_tape, .ref a_rules, .ref a_places, .ref a_steps, .int c_siteCount, .int c_stepCount, .int c_seenRules, .int c_at, .int c_wordStart, .int c_number, .int p1]))] H := hP
  replace hD : va_D A [(a_, .inr (4, [.ref a_tape, .ref a_rules, .ref a_places, .ref a_steps, .int c_siteCount, .int c_stepCount, .int c_seenRules, .int c_at, .int c_wordStart, .int c_number, .int p1]))] := hD
  refine lv_iconst (v := 0) hx hb dX3_failAt_5 (by decide) ?_
  rw [hQ]
  have h9 := fin9 (P := fun u9 : Int32 × Int32 => (0 : Int32) = u9.1 ∧ va_P E.1 vwCl (w_X3_failAt E a_ a_tape a_rules a_places a_steps c_siteCount c_stepCount c_seenRules c_at c_wordStart c_number u9.2) H ∧ va_D A (w_X3_failAt E a_ a_tape a_rules a_places a_steps c_siteCount c_stepCount c_seenRules c_at c_wordStart c_number u9.2)) hF ⟨rfl, hP, hD⟩
  obtain ⟨e9_0, hP9, hD9⟩ := h9
  exact W.zret (v := (0 : Int32)) hx hb hr rfl (fun tt ht hW => ⟨⟨_, (), rfl, ⟨e9_0, Or.inl rfl⟩, ht ▸ hP9, hD9⟩, hS.F ht⟩) hS.2.2 dX3_failAt_6

def B_X3_skipBlanks_0 (c_tape_length : Int32) (c_tape_bytes : Nat → Int32) (c_at : Int32) : Option ((Int32) ⊕ (Int32)) :=
  if c_tape_length ≤ c_at then some (.inr c_at) else bd1 (F_X6_signAt c_at c_tape_bytes c_tape_length) (fun r_2 => if r_2 = (32 : Int32) then some (.inl (c_at + (1 : Int32))) else some (.inr c_at))
def F_X3_skipBlanks (K : Nat) (c_tape_bytes : Nat → Int32) (c_tape_length : Int32) (c_at : Int32) : Option (Int32) :=
  bd1 (lpF (fun u9 : Int32 => B_X3_skipBlanks_0 c_tape_length c_tape_bytes u9) K c_at) (fun c_at_5 => some c_at_5)
abbrev w_X3_skipBlanks (E : EE) (a_ a_tape a_rules a_places a_steps a_tape_bytes : Nat) (c_siteCount : Int32) (c_stepCount : Int32) (c_seenRules : Int32) (c_at : Int32) (c_wordStart : Int32) (c_number : Int32) (c_failed : Int32) (c_tape_length : Int32) (c_tape_bytes : Nat → Int32) : va_W := [(a_, .inr (4, [.ref a_tape, .ref a_rules, .ref a_places, .ref a_steps, .int c_siteCount, .int c_stepCount, .int c_seenRules, .int c_at, .int c_wordStart, .int c_number, .int c_failed])), (a_tape, .inr (7, [.ref a_tape_bytes, .int c_tape_length])), (a_tape_bytes, .inl (E.2.2.1, 320, .inl c_tape_bytes))]
def v_f_X3_skipBlanks : List Cond := List.cons (.code yX3_skipBlanks cX3_skipBlanks 1 none) (HAppend.hAppend (α := List Cond) (β := List Cond) (γ := List Cond) [.fieldLink RX3 31 "HushWatch$Reader" "at" "I", .fieldLink RX3 43 "HushWatch$Reader" "tape" "LHushWatch$Tape;", .methodLink RX3 143 yX6_signAt, .instanceMethod yX6_signAt, .selects RX6 yX6_signAt yX6_signAt, .initialized RX6] (HAppend.hAppend (α := List Cond) (β := List Cond) (γ := List Cond) wsX30 (HAppend.hAppend (α := List Cond) (β := List Cond) (γ := List Cond) wsX60 (HAppend.hAppend (α := List Cond) (β := List Cond) (γ := List Cond) v_f_X6_signAt []))))
theorem gw_f_X3_skipBlanks : v_f_X3_skipBlanks.all goodWord = true := by decide +kernel
theorem i_f_X3_skipBlanks_X3 : ∀ w ∈ wsX30, w ∈ v_f_X3_skipBlanks := fun _ h => List.mem_cons_of_mem _ (List.mem_append_right _ (List.mem_append_left _ h))
theorem i_f_X3_skipBlanks_X6 : ∀ w ∈ wsX60, w ∈ v_f_X3_skipBlanks := fun _ h => List.mem_cons_of_mem _ (List.mem_append_right _ (List.mem_append_right _ (List.mem_append_left _ h)))
theorem g_f_X3_skipBlanks_f_X6_signAt_143 : GoodIn v_f_X3_skipBlanks (wsV RX3 143 RX6 yX6_signAt v_f_X6_signAt) := goodIn_app (goodIn_of _ (by decide +kernel)) (goodIn_sub (fun _ h => List.mem_cons_of_mem _ (List.mem_append_right _ (List.mem_append_right _ (List.mem_append_right _ (List.mem_append_left _ h))))) gw_f_X6_signAt)
theorem hd_X3_skipBlanks : yX3_skipBlanks.cls = RX3 ∧ yX3_skipBlanks.cls ≠ "java/lang/invoke/MethodHandle" ∧ yX3_skipBlanks.cls ≠ "java/lang/invoke/VarHandle" ∧ (parseMethodDescriptor yX3_skipBlanks.desc).map (fun d => d.parameters.length) = some 0 := by decide +kernel
set_option maxHeartbeats 4000000 in
set_option maxRecDepth 100000 in
theorem wb_X3_skipBlanks_0 {p : Program} (l : Launch) {e : Env} {s : State} {m : MethodId} {below : List Frame} {meth : Method} {c : Code} {Q : State → Prop} (E : EE) (K : Nat) {a_ a_tape a_rules a_places a_steps a_tape_bytes : Nat} {c_siteCount : Int32} {c_stepCount : Int32} {c_seenRules : Int32} {c_wordStart : Int32} {c_number : Int32} {c_failed : Int32} {c_tape_length : Int32} {c_tape_bytes : Nat → Int32} {c_at : Int32} (hx : p.tables.exec = Jvm.exec) (hb : c.code = cX3_skipBlanks) (hml : c.maxLocals = 1) (hown : s.vm.findClass RX3 = some m.cls) (hts : ∀ w ∈ v_f_X3_skipBlanks, w.before #[Value.ref a_] s = true) (hK : va_K E.1 vwCl (TY E) s) (hN : NX s) {A : Nat → Prop} (hA : ∀ q : Nat, s.heap.size ≤ q → A q) {xx : (Int32) ⊕ (Int32)} (hC : ∀ (c_at : Int32), xx = .inl c_at → ∀ (H : Heap) (locs : List Loc) (ls : Array Slot), va_P E.1 vwCl (w_X3_skipBlanks E a_ a_tape a_rules a_places a_steps a_tape_bytes c_siteCount c_stepCount c_seenRules c_at c_wordStart c_number c_failed c_tape_length c_tape_bytes) H → va_D A (w_X3_skipBlanks E a_ a_tape a_rules a_places a_steps a_tape_bytes c_siteCount c_stepCount c_seenRules c_at c_wordStart c_number c_failed c_tape_length c_tape_bytes) → va_S A s.heap H locs → lv_has ls 1 [(0, .ref a_)] → W p l e ({ frames := 1, cells := 0, slots := 0, locals := 21 } : Room) s m #[Value.ref a_] below meth c H locs 0 0 Q (F0 m 0 ls [])) (hE : ∀ (c_at : Int32), xx = .inr c_at → ((∀ (H : Heap) (locs : List Loc) (ls : Array Slot), va_P E.1 vwCl (w_X3_skipBlanks E a_ a_tape a_rules a_places a_steps a_tape_bytes c_siteCount c_stepCount c_seenRules c_at c_wordStart c_number c_failed c_tape_length c_tape_bytes) H → va_D A (w_X3_skipBlanks E a_ a_tape a_rules a_places a_steps a_tape_bytes c_siteCount c_stepCount c_seenRules c_at c_wordStart c_number c_failed c_tape_length c_tape_bytes) → va_S A s.heap H locs → lv_has ls 1 [] → W p l e ({ frames := 1, cells := 0, slots := 0, locals := 21 } : Room) s m #[Value.ref a_] below meth c H locs 0 0 Q (F0 m 43 ls [])))) (hF : B_X3_skipBlanks_0 c_tape_length c_tape_bytes c_at = some xx) : ∀ (H : Heap) (locs : List Loc) (ls : Array Slot), va_P E.1 vwCl (w_X3_skipBlanks E a_ a_tape a_rules a_places a_steps a_tape_bytes c_siteCount c_stepCount c_seenRules c_at c_wordStart c_number c_failed c_tape_length c_tape_bytes) H → va_D A (w_X3_skipBlanks E a_ a_tape a_rules a_places a_steps a_tape_bytes c_siteCount c_stepCount c_seenRules c_at c_wordStart c_number c_failed c_tape_length c_tape_bytes) → va_S A s.heap H locs → lv_has ls 1 [(0, .ref a_)] → W p l e ({ frames := 1, cells := 0, slots := 0, locals := 21 } : Room) s m #[Value.ref a_] below meth c H locs 0 0 Q (F0 m 0 ls []) := by
  unfold B_X3_skipBlanks_0 at hF
  intro H locs ls hP hD hS hl
  replace hP : va_P E.1 vwCl [(a_, .inr (4, [.ref a_tape, .ref a_rules, .ref a_places, .ref a_steps, .int c_siteCount, .int c_stepCount, .int c_seenRules, .int c_at, .int c_wordStart, .int c_number, .int c_failed])), (a_tape, .inr (7, [.ref a_tape_bytes, .int c_tape_length])), (a_tape_bytes, .inl (E.2.2.1, 320, .inl c_tape_bytes))] H := hP
  replace hD : va_D A [(a_, .inr (4, [.ref a_tape, .ref a_rules, .ref a_places, .ref a_steps, .int c_siteCount, .int c_stepCount, .int c_seenRules, .int c_at, .int c_wordStart, .int c_number, .int c_failed])), (a_tape, .inr (7, [.ref a_tape_bytes, .int c_tape_length])), (a_tape_bytes, .inl (E.2.2.1, 320, .inl c_tape_bytes))] := hD
  refine lv_aload_n hx hb dX3_skipBlanks_0 rfl (lv_at hl 0 rfl) ?_
  refine gt_X3_7 (v := .int c_at) hx hb hts i_f_X3_skipBlanks_X3 hown hK hP 0 rfl (hts (.fieldLink RX3 31 "HushWatch$Reader" "at" "I") (List.mem_of_getElem? (i := 1) rfl)) rfl dX3_skipBlanks_1 ?_
  refine lv_aload_n hx hb dX3_skipBlanks_4 rfl (lv_at hl 0 rfl) ?_
  refine gt_X3_0 (v := .ref a_tape) hx hb hts i_f_X3_skipBlanks_X3 hown hK hP 0 rfl (hts (.fieldLink RX3 43 "HushWatch$Reader" "tape" "LHushWatch$Tape;") (List.mem_of_getElem? (i := 2) rfl)) rfl dX3_skipBlanks_5 ?_
  refine va_getN (D := E.1) (ci := 7) (v := .int c_tape_length) (C := RX6) (T := TX6) (N := 2) hx hb hts i_f_X3_skipBlanks_X6 hown hK hP 1 rfl rfl 1 (by decide) (nx hN 2 rfl) (fun _ h9 => h9) rfl dX3_skipBlanks_8 ?_
  refine lv_icmp_ge (tgt := 43) hx hb dX3_skipBlanks_11 (by decide) (fun c_1 => ?_) (fun c_1 => ?_)
  ·
    replace hF := ip c_1 hF
    cases hF
    exact hE c_at rfl H locs ls (hP.sub [0, 1, 2] rfl) (hD.sub [0, 1, 2] (by decide) rfl) hS (lv_sub hl [] rfl)
  ·
    replace hF := inn c_1 hF
    refine lv_aload_n hx hb dX3_skipBlanks_14 rfl (lv_at hl 0 rfl) ?_
    refine gt_X3_0 (v := .ref a_tape) hx hb hts i_f_X3_skipBlanks_X3 hown hK hP 0 rfl (hts (.fieldLink RX3 43 "HushWatch$Reader" "tape" "LHushWatch$Tape;") (List.mem_of_getElem? (i := 2) rfl)) rfl dX3_skipBlanks_15 ?_
    refine lv_aload_n hx hb dX3_skipBlanks_18 rfl (lv_at hl 0 rfl) ?_
    refine gt_X3_7 (v := .int c_at) hx hb hts i_f_X3_skipBlanks_X3 hown hK hP 0 rfl (hts (.fieldLink RX3 31 "HushWatch$Reader" "at" "I") (List.mem_of_getElem? (i := 1) rfl)) rfl dX3_skipBlanks_19 ?_
    replace hF := bd1_s hF
    obtain ⟨r_2, hc_3, hF⟩ := hF
    have hPc : va_P E.1 vwCl (w_X6_signAt E a_tape a_tape_bytes c_tape_length c_tape_bytes) H := hP.sub (ws' := [(a_tape, .inr (7, [.ref a_tape_bytes, .int c_tape_length])), (a_tape_bytes, .inl (E.2.2.1, 320, .inl c_tape_bytes))]) [1, 2] rfl
    have hrc := va_recv hK hPc (ci := 7) (q0 := 0) rfl rfl
    refine pE_i (va_runV (As := [.int c_at]) (rest := [])  ⟨hx, hb, hml, hown, hts⟩ (f_X6_signAt l E (a_ := a_tape) (a_bytes := a_tape_bytes) (p1 := c_at) (c_length := c_tape_length) (c_bytes := c_tape_bytes) hc_3) (cwV 1 hts g_f_X3_skipBlanks_f_X6_signAt_143 rfl rfl rfl hd_X6_signAt ⟨Nat.le_of_ble_eq_true rfl, Nat.le_of_ble_eq_true rfl⟩) ⟨pP.blind, hrc, (pP.pre ⟨hK, hN⟩ hPc)⟩ rfl rfl hl.1 rfl (lv_room (Nat.le_of_ble_eq_true rfl)) dX3_skipBlanks_22 ⟨Nat.le_of_ble_eq_true rfl, Nat.le_of_ble_eq_true rfl⟩) ?_
    refine lv_bipush (v := 32) hx hb dX3_skipBlanks_25 (by decide) ?_
    refine lv_icmp_ne (tgt := 43) hx hb dX3_skipBlanks_27 (by decide) (fun c_4 => ?_) (fun c_4 => ?_)
    ·
      replace hF := inn c_4 hF
      cases hF
      exact hE c_at rfl H locs ls (hP.sub [0, 1, 2] rfl) (hD.sub [0, 1, 2] (by decide) rfl) hS (lv_sub hl [] rfl)
    ·
      replace hF := ip c_4 hF
      refine lv_aload_n hx hb dX3_skipBlanks_30 rfl (lv_at hl 0 rfl) ?_
      refine lv_dup hx hb dX3_skipBlanks_31 rfl ?_
      refine gt_X3_7 (v := .int c_at) hx hb hts i_f_X3_skipBlanks_X3 hown hK hP 0 rfl (hts (.fieldLink RX3 31 "HushWatch$Reader" "at" "I") (List.mem_of_getElem? (i := 1) rfl)) rfl dX3_skipBlanks_32 ?_
      refine lv_iconst (v := 1) hx hb dX3_skipBlanks_35 (by decide) ?_
      refine lv_iadd hx hb dX3_skipBlanks_36 ?_
      refine pt_X3_7 (v := .int (c_at + (1 : Int32))) hx hb hts i_f_X3_skipBlanks_X3 hown hK hP hD hS 0 rfl (hts (.fieldLink RX3 31 "HushWatch$Reader" "at" "I") (List.mem_of_getElem? (i := 1) rfl)) rfl rfl (Nat.le_of_ble_eq_true rfl) dX3_skipBlanks_37 (fun H locs hP hD hS => ?_)
      replace hP : va_P E.1 vwCl [(a_, .inr (4, [.ref a_tape, .ref a_rules, .ref a_places, .ref a_steps, .int c_siteCount, .int c_stepCount, .int c_seenRules, .int (c_at + (1 : Int32)), .int c_wordStart, .int c_number, .int c_failed])), (a_tape, .inr (7, [.ref a_tape_bytes, .int c_tape_length])), (a_tape_bytes, .inl (E.2.2.1, 320, .inl c_tape_bytes))] H := hP
      replace hD : va_D A [(a_, .inr (4, [.ref a_tape, .ref a_rules, .ref a_places, .ref a_steps, .int c_siteCount, .int c_stepCount, .int c_seenRules, .int (c_at + (1 : Int32)), .int c_wordStart, .int c_number, .int c_failed])), (a_tape, .inr (7, [.ref a_tape_bytes, .int c_tape_length])), (a_tape_bytes, .inl (E.2.2.1, 320, .inl c_tape_bytes))] := hD
      refine lv_goto (tgt := 0) hx hb dX3_skipBlanks_40 (by decide) ?_
      cases hF
      exact hC (c_at + (1 : Int32)) rfl H locs ls (hP.sub [0, 1, 2] rfl) (hD.sub [0, 1, 2] (by decide) rfl) hS (lv_sub hl [0] rfl)

set_option maxHeartbeats 4000000 in
set_option maxRecDepth 100000 in
theorem lw_X3_skipBlanks_0 {p : Program} (l : Launch) {e : Env} {s : State} {m : MethodId} {below : List Frame} {meth : Method} {c : Code} {Q : State → Prop} (E : EE) (K : Nat) {a_ a_tape a_rules a_places a_steps a_tape_bytes : Nat} {c_siteCount : Int32} {c_stepCount : Int32} {c_seenRules : Int32} {c_wordStart : Int32} {c_number : Int32} {c_failed : Int32} {c_tape_length : Int32} {c_tape_bytes : Nat → Int32} (hx : p.tables.exec = Jvm.exec) (hb : c.code = cX3_skipBlanks) (hml : c.maxLocals = 1) (hown : s.vm.findClass RX3 = some m.cls) (hts : ∀ w ∈ v_f_X3_skipBlanks, w.before #[Value.ref a_] s = true) (hK : va_K E.1 vwCl (TY E) s) (hN : NX s) {A : Nat → Prop} (hA : ∀ q : Nat, s.heap.size ≤ q → A q) (j9 : Nat) (c_at : Int32) (c_at' : Int32) (hL : lpF (fun u9 : Int32 => B_X3_skipBlanks_0 c_tape_length c_tape_bytes u9) j9 c_at = some c_at') (hX : (∀ (H : Heap) (locs : List Loc) (ls : Array Slot), va_P E.1 vwCl (w_X3_skipBlanks E a_ a_tape a_rules a_places a_steps a_tape_bytes c_siteCount c_stepCount c_seenRules c_at' c_wordStart c_number c_failed c_tape_length c_tape_bytes) H → va_D A (w_X3_skipBlanks E a_ a_tape a_rules a_places a_steps a_tape_bytes c_siteCount c_stepCount c_seenRules c_at' c_wordStart c_number c_failed c_tape_length c_tape_bytes) → va_S A s.heap H locs → lv_has ls 1 [] → W p l e ({ frames := 1, cells := 0, slots := 0, locals := 21 } : Room) s m #[Value.ref a_] below meth c H locs 0 0 Q (F0 m 43 ls []))) : ∀ (H : Heap) (locs : List Loc) (ls : Array Slot), va_P E.1 vwCl (w_X3_skipBlanks E a_ a_tape a_rules a_places a_steps a_tape_bytes c_siteCount c_stepCount c_seenRules c_at c_wordStart c_number c_failed c_tape_length c_tape_bytes) H → va_D A (w_X3_skipBlanks E a_ a_tape a_rules a_places a_steps a_tape_bytes c_siteCount c_stepCount c_seenRules c_at c_wordStart c_number c_failed c_tape_length c_tape_bytes) → va_S A s.heap H locs → lv_has ls 1 [(0, .ref a_)] → W p l e ({ frames := 1, cells := 0, slots := 0, locals := 21 } : Room) s m #[Value.ref a_] below meth c H locs 0 0 Q (F0 m 0 ls []) := by
  exact lp_rule (P := (fun u9 : Int32 => ∀ (H : Heap) (locs : List Loc) (ls : Array Slot), va_P E.1 vwCl (w_X3_skipBlanks E a_ a_tape a_rules a_places a_steps a_tape_bytes c_siteCount c_stepCount c_seenRules u9 c_wordStart c_number c_failed c_tape_length c_tape_bytes) H → va_D A (w_X3_skipBlanks E a_ a_tape a_rules a_places a_steps a_tape_bytes c_siteCount c_stepCount c_seenRules u9 c_wordStart c_number c_failed c_tape_length c_tape_bytes) → va_S A s.heap H locs → lv_has ls 1 [(0, .ref a_)] → W p l e ({ frames := 1, cells := 0, slots := 0, locals := 21 } : Room) s m #[Value.ref a_] below meth c H locs 0 0 Q (F0 m 0 ls []))) (R := (fun r9 : Int32 => (∀ (H : Heap) (locs : List Loc) (ls : Array Slot), va_P E.1 vwCl (w_X3_skipBlanks E a_ a_tape a_rules a_places a_steps a_tape_bytes c_siteCount c_stepCount c_seenRules r9 c_wordStart c_number c_failed c_tape_length c_tape_bytes) H → va_D A (w_X3_skipBlanks E a_ a_tape a_rules a_places a_steps a_tape_bytes c_siteCount c_stepCount c_seenRules r9 c_wordStart c_number c_failed c_tape_length c_tape_bytes) → va_S A s.heap H locs → lv_has ls 1 [] → W p l e ({ frames := 1, cells := 0, slots := 0, locals := 21 } : Room) s m #[Value.ref a_] below meth c H locs 0 0 Q (F0 m 43 ls [])))) (fun u9 xx hF hC hE => wb_X3_skipBlanks_0 l E K (c_siteCount := c_siteCount) (c_stepCount := c_stepCount) (c_seenRules := c_seenRules) (c_wordStart := c_wordStart) (c_number := c_number) (c_failed := c_failed) (c_tape_length := c_tape_length) (c_tape_bytes := c_tape_bytes) (c_at := u9) hx hb hml hown hts hK hN hA (fun c_at q9 => hC _ q9) (fun c_at q9 => hE _ q9) hF) j9 c_at c_at' hL hX

set_option maxHeartbeats 4000000 in
set_option maxRecDepth 100000 in
theorem f_X3_skipBlanks (l : Launch) (E : EE) (sz : Nat) (K : Nat) {a_ a_tape a_rules a_places a_steps a_tape_bytes : Nat} {c_siteCount : Int32} {c_stepCount : Int32} {c_seenRules : Int32} {c_at : Int32} {c_wordStart : Int32} {c_number : Int32} {c_failed : Int32} {c_tape_length : Int32} {c_tape_bytes : Nat → Int32} {n_at : Int32} (hF : F_X3_skipBlanks K c_tape_bytes c_tape_length c_at = some n_at) : Met l yX3_skipBlanks v_f_X3_skipBlanks (({ frames := 1, cells := 0, slots := 0, locals := 21 } : Room)) (va_Pc [.ref a_] (pW E sz (w_X3_skipBlanks E a_ a_tape a_rules a_places a_steps a_tape_bytes c_siteCount c_stepCount c_seenRules c_at c_wordStart c_number c_failed c_tape_length c_tape_bytes))) (va_Qv (fun (_u : Unit) => True) (fun (_u : Unit) tt => va_P E.1 vwCl (w_X3_skipBlanks E a_ a_tape a_rules a_places a_steps a_tape_bytes c_siteCount c_stepCount c_seenRules n_at c_wordStart c_number c_failed c_tape_length c_tape_bytes) tt.heap ∧ va_D (va_A (w_X3_skipBlanks E a_ a_tape a_rules a_places a_steps a_tape_bytes c_siteCount c_stepCount c_seenRules c_at c_wordStart c_number c_failed c_tape_length c_tape_bytes) sz) (w_X3_skipBlanks E a_ a_tape a_rules a_places a_steps a_tape_bytes c_siteCount c_stepCount c_seenRules n_at c_wordStart c_number c_failed c_tape_length c_tape_bytes)) (va_A (w_X3_skipBlanks E a_ a_tape a_rules a_places a_steps a_tape_bytes c_siteCount c_stepCount c_seenRules c_at c_wordStart c_number c_failed c_tape_length c_tape_bytes) sz)) 0 0 (va_A (w_X3_skipBlanks E a_ a_tape a_rules a_places a_steps a_tape_bytes c_siteCount c_stepCount c_seenRules c_at c_wordStart c_number c_failed c_tape_length c_tape_bytes) sz) := by
  refine Met.ofW (cc := cX3_skipBlanks) (maxL := 1) (ret := none) (by decide) rfl ?_
  intro p e s m args below meth c s₁ B hml hv
  obtain ⟨rfl, hsz, ⟨hK, hN⟩, hP, hD0⟩ := hv
  have hx := B.exec
  have hb := B.bytes
  have hr := B.returns
  have hts := atoms_spec (ws := v_f_X3_skipBlanks) B.pre
  have hown : s.vm.findClass RX3 = some m.cls := own_of hd_X3_skipBlanks.1 (findClass_of_methodNamed B.named)
  have hlocks : meth.locks = false := B.notSynchronized
  subst hsz
  have hD := hD0.self (sz := s.heap.size)
  generalize hAe : va_A (w_X3_skipBlanks E a_ a_tape a_rules a_places a_steps a_tape_bytes c_siteCount c_stepCount c_seenRules c_at c_wordStart c_number c_failed c_tape_length c_tape_bytes) s.heap.size = A at hD ⊢
  have hA : ∀ q : Nat, s.heap.size ≤ q → A q := fun q h => by rw [← hAe]; exact Or.inr h
  have hS : va_S A s.heap s.heap [] := va_S.rf
  have hl := lv_entry ([.ref a_]) (n := 1) (Nat.le_of_ble_eq_true rfl)
  rw [lg_entry_eq]
  generalize (lg_sl ([.ref a_]) ++ List.replicate (1 - (lg_sl ([.ref a_])).length) Slot.unset).toArray = ls at hl ⊢
  have hl : lv_has ls 1 [(0, .ref a_)] := hl
  obtain ⟨Q, hQ⟩ : ∃ Q : State → Prop, Q = MQ below (va_Qv (fun (_u : Unit) => True) (fun (_u : Unit) tt => va_P E.1 vwCl (w_X3_skipBlanks E a_ a_tape a_rules a_places a_steps a_tape_bytes c_siteCount c_stepCount c_seenRules n_at c_wordStart c_number c_failed c_tape_length c_tape_bytes) tt.heap ∧ va_D A (w_X3_skipBlanks E a_ a_tape a_rules a_places a_steps a_tape_bytes c_siteCount c_stepCount c_seenRules n_at c_wordStart c_number c_failed c_tape_length c_tape_bytes)) A) #[Value.ref a_] s 0 0 A := ⟨_, rfl⟩
  rw [← hQ]
  change W p l e ({ frames := 1, cells := 0, slots := 0, locals := 21 } : Room) s m #[Value.ref a_] below meth c s.heap [] 0 0 Q (F0 m 0 ls [])
  suffices hh9 : ∀ (H : Heap) (locs : List Loc), va_P E.1 vwCl (w_X3_skipBlanks E a_ a_tape a_rules a_places a_steps a_tape_bytes c_siteCount c_stepCount c_seenRules c_at c_wordStart c_number c_failed c_tape_length c_tape_bytes) H → va_D A (w_X3_skipBlanks E a_ a_tape a_rules a_places a_steps a_tape_bytes c_siteCount c_stepCount c_seenRules c_at c_wordStart c_number c_failed c_tape_length c_tape_bytes) → va_S A s.heap H locs → W p l e ({ frames := 1, cells := 0, slots := 0, locals := 21 } : Room) s m #[Value.ref a_] below meth c H locs 0 0 Q (F0 m 0 ls []) from hh9 s.heap [] hP hD hS
  clear hP hD hS
  intro H locs hP hD hS
  replace hP : va_P E.1 vwCl [(a_, .inr (4, [.ref a_tape, .ref a_rules, .ref a_places, .ref a_steps, .int c_siteCount, .int c_stepCount, .int c_seenRules, .int c_at, .int c_wordStart, .int c_number, .int c_failed])), (a_tape, .inr (7, [.ref a_tape_bytes, .int c_tape_length])), (a_tape_bytes, .inl (E.2.2.1, 320, .inl c_tape_bytes))] H := hP
  replace hD : va_D A [(a_, .inr (4, [.ref a_tape, .ref a_rules, .ref a_places, .ref a_steps, .int c_siteCount, .int c_stepCount, .int c_seenRules, .int c_at, .int c_wordStart, .int c_number, .int c_failed])), (a_tape, .inr (7, [.ref a_tape_bytes, .int c_tape_length])), (a_tape_bytes, .inl (E.2.2.1, 320, .inl c_tape_bytes))] := hD
  unfold F_X3_skipBlanks at hF
  replace hF := bd1_s hF
  obtain ⟨c_at_5, hL_6, hF⟩ := hF
  refine lw_X3_skipBlanks_0 l E K (c_siteCount := c_siteCount) (c_stepCount := c_stepCount) (c_seenRules := c_seenRules) (c_wordStart := c_wordStart) (c_number := c_number) (c_failed := c_failed) (c_tape_length := c_tape_length) (c_tape_bytes := c_tape_bytes) hx hb hml hown hts hK hN hA K c_at c_at_5 hL_6 ?_ H locs ls (hP.sub [0, 1, 2] rfl) (hD.sub [0, 1, 2] (by decide) rfl) hS (lv_sub hl [0] rfl)
  ·
    intro H locs ls hP hD hS hl
    replace hP : va_P E.1 vwCl [(a_, .inr (4, [.ref a_tape, .ref a_rules, .ref a_places, .ref a_steps, .int c_siteCount, .int c_stepCount, .int c_seenRules, .int c_at_5, .int c_wordStart, .int c_number, .int c_failed])), (a_tape, .inr (7, [.ref a_tape_bytes, .int c_tape_length])), (a_tape_bytes, .inl (E.2.2.1, 320, .inl c_tape_bytes))] H := hP
    replace hD : va_D A [(a_, .inr (4, [.ref a_tape, .ref a_rules, .ref a_places, .ref a_steps, .int c_siteCount, .int c_stepCount, .int c_seenRules, .int c_at_5, .int c_wordStart, .int c_number, .int c_failed])), (a_tape, .inr (7, [.ref a_tape_bytes, .int c_tape_length])), (a_tape_bytes, .inl (E.2.2.1, 320, .inl c_tape_bytes))] := hD
    rw [hQ]
    have h9 := fin9 (P := fun u9 : Int32 => va_P E.1 vwCl (w_X3_skipBlanks E a_ a_tape a_rules a_places a_steps a_tape_bytes c_siteCount c_stepCount c_seenRules u9 c_wordStart c_number c_failed c_tape_length c_tape_bytes) H ∧ va_D A (w_X3_skipBlanks E a_ a_tape a_rules a_places a_steps a_tape_bytes c_siteCount c_stepCount c_seenRules u9 c_wordStart c_number c_failed c_tape_length c_tape_bytes)) hF ⟨hP, hD⟩
    obtain ⟨hP9, hD9⟩ := h9
    exact W.vret hx hb hr (fun tt ht hW => ⟨⟨(), rfl, trivial, ht ▸ hP9, hD9⟩, hS.F ht⟩) hS.2.2 dX3_skipBlanks_43

def F_X3_isAtEnd (K : Nat) (c_tape_bytes : Nat → Int32) (c_tape_length : Int32) (c_at : Int32) : Option (Int32 × Int32) :=
  bd1 (F_X3_skipBlanks K c_tape_bytes c_tape_length c_at) (fun w_1 => if w_1 < c_tape_length then some ((0 : Int32), w_1) else some ((1 : Int32), w_1))
abbrev w_X3_isAtEnd (E : EE) (a_ a_tape a_rules a_places a_steps a_tape_bytes : Nat) (c_siteCount : Int32) (c_stepCount : Int32) (c_seenRules : Int32) (c_at : Int32) (c_wordStart : Int32) (c_number : Int32) (c_failed : Int32) (c_tape_length : Int32) (c_tape_bytes : Nat → Int32) : va_W := [(a_, .inr (4, [.ref a_tape, .ref a_rules, .ref a_places, .ref a_steps, .int c_siteCount, .int c_stepCount, .int c_seenRules, .int c_at, .int c_wordStart, .int c_number, .int c_failed])), (a_tape, .inr (7, [.ref a_tape_bytes, .int c_tape_length])), (a_tape_bytes, .inl (E.2.2.1, 320, .inl c_tape_bytes))]
def v_f_X3_isAtEnd : List Cond := List.cons (.code yX3_isAtEnd cX3_isAtEnd 1 (some .boolean)) (HAppend.hAppend (α := List Cond) (β := List Cond) (γ := List Cond) [.fieldLink RX3 31 "HushWatch$Reader" "at" "I", .fieldLink RX3 43 "HushWatch$Reader" "tape" "LHushWatch$Tape;", .methodLink RX3 140 yX3_skipBlanks, .instanceMethod yX3_skipBlanks, .selects RX3 yX3_skipBlanks yX3_skipBlanks, .initialized RX3] (HAppend.hAppend (α := List Cond) (β := List Cond) (γ := List Cond) v_f_X3_skipBlanks (HAppend.hAppend (α := List Cond) (β := List Cond) (γ := List Cond) wsX30 (HAppend.hAppend (α := List Cond) (β := List Cond) (γ := List Cond) wsX60 []))))
theorem gw_f_X3_isAtEnd : v_f_X3_isAtEnd.all goodWord = true := by decide +kernel
theorem i_f_X3_isAtEnd_X3 : ∀ w ∈ wsX30, w ∈ v_f_X3_isAtEnd := fun _ h => List.mem_cons_of_mem _ (List.mem_append_right _ (List.mem_append_right _ (List.mem_append_left _ h)))
theorem i_f_X3_isAtEnd_X6 : ∀ w ∈ wsX60, w ∈ v_f_X3_isAtEnd := fun _ h => List.mem_cons_of_mem _ (List.mem_append_right _ (List.mem_append_right _ (List.mem_append_right _ (List.mem_append_left _ h))))
theorem g_f_X3_isAtEnd_f_X3_skipBlanks_140 : GoodIn v_f_X3_isAtEnd (wsV RX3 140 RX3 yX3_skipBlanks v_f_X3_skipBlanks) := goodIn_app (goodIn_of _ (by decide +kernel)) (goodIn_sub (fun _ h => List.mem_cons_of_mem _ (List.mem_append_right _ (List.mem_append_left _ h))) gw_f_X3_skipBlanks)
theorem hd_X3_isAtEnd : yX3_isAtEnd.cls = RX3 ∧ yX3_isAtEnd.cls ≠ "java/lang/invoke/MethodHandle" ∧ yX3_isAtEnd.cls ≠ "java/lang/invoke/VarHandle" ∧ (parseMethodDescriptor yX3_isAtEnd.desc).map (fun d => d.parameters.length) = some 0 := by decide +kernel
set_option maxHeartbeats 4000000 in
set_option maxRecDepth 100000 in
theorem f_X3_isAtEnd (l : Launch) (E : EE) (sz : Nat) (K : Nat) {a_ a_tape a_rules a_places a_steps a_tape_bytes : Nat} {c_siteCount : Int32} {c_stepCount : Int32} {c_seenRules : Int32} {c_at : Int32} {c_wordStart : Int32} {c_number : Int32} {c_failed : Int32} {c_tape_length : Int32} {c_tape_bytes : Nat → Int32} {rr : Int32} {n_at : Int32} (hF : F_X3_isAtEnd K c_tape_bytes c_tape_length c_at = some (rr, n_at)) : Met l yX3_isAtEnd v_f_X3_isAtEnd (({ frames := 2, cells := 0, slots := 0, locals := 41 } : Room)) (va_Pc [.ref a_] (pW E sz (w_X3_isAtEnd E a_ a_tape a_rules a_places a_steps a_tape_bytes c_siteCount c_stepCount c_seenRules c_at c_wordStart c_number c_failed c_tape_length c_tape_bytes))) (va_Qi (fun (q : Int32) (_u : Unit) => q = rr ∧ (q = 0 ∨ q = 1)) (fun (_u : Unit) tt => va_P E.1 vwCl (w_X3_isAtEnd E a_ a_tape a_rules a_places a_steps a_tape_bytes c_siteCount c_stepCount c_seenRules n_at c_wordStart c_number c_failed c_tape_length c_tape_bytes) tt.heap ∧ va_D (va_A (w_X3_isAtEnd E a_ a_tape a_rules a_places a_steps a_tape_bytes c_siteCount c_stepCount c_seenRules c_at c_wordStart c_number c_failed c_tape_length c_tape_bytes) sz) (w_X3_isAtEnd E a_ a_tape a_rules a_places a_steps a_tape_bytes c_siteCount c_stepCount c_seenRules n_at c_wordStart c_number c_failed c_tape_length c_tape_bytes)) (va_A (w_X3_isAtEnd E a_ a_tape a_rules a_places a_steps a_tape_bytes c_siteCount c_stepCount c_seenRules c_at c_wordStart c_number c_failed c_tape_length c_tape_bytes) sz)) 0 0 (va_A (w_X3_isAtEnd E a_ a_tape a_rules a_places a_steps a_tape_bytes c_siteCount c_stepCount c_seenRules c_at c_wordStart c_number c_failed c_tape_length c_tape_bytes) sz) := by
  refine Met.ofW (cc := cX3_isAtEnd) (maxL := 1) (ret := (some .boolean)) (by decide) rfl ?_
  intro p e s m args below meth c s₁ B hml hv
  obtain ⟨rfl, hsz, ⟨hK, hN⟩, hP, hD0⟩ := hv
  have hx := B.exec
  have hb := B.bytes
  have hr := B.returns
  have hts := atoms_spec (ws := v_f_X3_isAtEnd) B.pre
  have hown : s.vm.findClass RX3 = some m.cls := own_of hd_X3_isAtEnd.1 (findClass_of_methodNamed B.named)
  have hlocks : meth.locks = false := B.notSynchronized
  subst hsz
  have hD := hD0.self (sz := s.heap.size)
  generalize hAe : va_A (w_X3_isAtEnd E a_ a_tape a_rules a_places a_steps a_tape_bytes c_siteCount c_stepCount c_seenRules c_at c_wordStart c_number c_failed c_tape_length c_tape_bytes) s.heap.size = A at hD ⊢
  have hA : ∀ q : Nat, s.heap.size ≤ q → A q := fun q h => by rw [← hAe]; exact Or.inr h
  have hS : va_S A s.heap s.heap [] := va_S.rf
  have hl := lv_entry ([.ref a_]) (n := 1) (Nat.le_of_ble_eq_true rfl)
  rw [lg_entry_eq]
  generalize (lg_sl ([.ref a_]) ++ List.replicate (1 - (lg_sl ([.ref a_])).length) Slot.unset).toArray = ls at hl ⊢
  have hl : lv_has ls 1 [(0, .ref a_)] := hl
  obtain ⟨Q, hQ⟩ : ∃ Q : State → Prop, Q = MQ below (va_Qi (fun (q : Int32) (_u : Unit) => q = rr ∧ (q = 0 ∨ q = 1)) (fun (_u : Unit) tt => va_P E.1 vwCl (w_X3_isAtEnd E a_ a_tape a_rules a_places a_steps a_tape_bytes c_siteCount c_stepCount c_seenRules n_at c_wordStart c_number c_failed c_tape_length c_tape_bytes) tt.heap ∧ va_D A (w_X3_isAtEnd E a_ a_tape a_rules a_places a_steps a_tape_bytes c_siteCount c_stepCount c_seenRules n_at c_wordStart c_number c_failed c_tape_length c_tape_bytes)) A) #[Value.ref a_] s 0 0 A := ⟨_, rfl⟩
  rw [← hQ]
  change W p l e ({ frames := 2, cells := 0, slots := 0, locals := 41 } : Room) s m #[Value.ref a_] below meth c s.heap [] 0 0 Q (F0 m 0 ls [])
  suffices hh9 : ∀ (H : Heap) (locs : List Loc), va_P E.1 vwCl (w_X3_isAtEnd E a_ a_tape a_rules a_places a_steps a_tape_bytes c_siteCount c_stepCount c_seenRules c_at c_wordStart c_number c_failed c_tape_length c_tape_bytes) H → va_D A (w_X3_isAtEnd E a_ a_tape a_rules a_places a_steps a_tape_bytes c_siteCount c_stepCount c_seenRules c_at c_wordStart c_number c_failed c_tape_length c_tape_bytes) → va_S A s.heap H locs → W p l e ({ frames := 2, cells := 0, slots := 0, locals := 41 } : Room) s m #[Value.ref a_] below meth c H locs 0 0 Q (F0 m 0 ls []) from hh9 s.heap [] hP hD hS
  clear hP hD hS
  intro H locs hP hD hS
  replace hP : va_P E.1 vwCl [(a_, .inr (4, [.ref a_tape, .ref a_rules, .ref a_places, .ref a_steps, .int c_siteCount, .int c_stepCount, .int c_seenRules, .int c_at, .int c_wordStart, .int c_number, .int c_failed])), (a_tape, .inr (7, [.ref a_tape_bytes, .int c_tape_length])), (a_tape_bytes, .inl (E.2.2.1, 320, .inl c_tape_bytes))] H := hP
  replace hD : va_D A [(a_, .inr (4, [.ref a_tape, .ref a_rules, .ref a_places, .ref a_steps, .int c_siteCount, .int c_stepCount, .int c_seenRules, .int c_at, .int c_wordStart, .int c_number, .int c_failed])), (a_tape, .inr (7, [.ref a_tape_bytes, .int c_tape_length])), (a_tape_bytes, .inl (E.2.2.1, 320, .inl c_tape_bytes))] := hD
  unfold F_X3_isAtEnd at hF
  refine lv_aload_n hx hb dX3_isAtEnd_0 rfl (lv_at hl 0 rfl) ?_
  replace hF := bd1_s hF
  obtain ⟨w_1, hc_2, hF⟩ := hF
  obtain ⟨hPc, hDc, hFc⟩ := wcut (wc := (w_X3_skipBlanks E a_ a_tape a_rules a_places a_steps a_tape_bytes c_siteCount c_stepCount c_seenRules c_at c_wordStart c_number c_failed c_tape_length c_tape_bytes)) hP hD hS hA [0, 1, 2] (by decide) rfl
  have hrc := va_recv hK hPc (ci := 4) (q0 := 0) rfl rfl
  refine cE_v (wc := (w_X3_skipBlanks E a_ a_tape a_rules a_places a_steps a_tape_bytes c_siteCount c_stepCount c_seenRules c_at c_wordStart c_number c_failed c_tape_length c_tape_bytes)) (wr := []) (w1 := (w_X3_skipBlanks E a_ a_tape a_rules a_places a_steps a_tape_bytes c_siteCount c_stepCount c_seenRules w_1 c_wordStart c_number c_failed c_tape_length c_tape_bytes)) (va_runV (As := []) (rest := [])  ⟨hx, hb, hml, hown, hts⟩ (f_X3_skipBlanks l E H.size K (a_ := a_) (a_tape := a_tape) (a_rules := a_rules) (a_places := a_places) (a_steps := a_steps) (a_tape_bytes := a_tape_bytes) (c_siteCount := c_siteCount) (c_stepCount := c_stepCount) (c_seenRules := c_seenRules) (c_at := c_at) (c_wordStart := c_wordStart) (c_number := c_number) (c_failed := c_failed) (c_tape_length := c_tape_length) (c_tape_bytes := c_tape_bytes) hc_2) (cwV 0 hts g_f_X3_isAtEnd_f_X3_skipBlanks_140 rfl rfl rfl hd_X3_skipBlanks ⟨Nat.le_of_ble_eq_true rfl, Nat.le_of_ble_eq_true rfl⟩) ⟨pW.blind, hrc, (pW.pre ⟨hK, hN⟩ hPc hDc)⟩ rfl rfl hl.1 rfl (lv_room (Nat.le_of_ble_eq_true rfl)) dX3_isAtEnd_1 ⟨Nat.le_of_ble_eq_true rfl, Nat.le_of_ble_eq_true rfl⟩) hS hFc hP hD [0, 1, 2] [] rfl rfl (by decide) (by decide) (fun H locs hP hD hS => ?_)
  replace hP : va_P E.1 vwCl [(a_, .inr (4, [.ref a_tape, .ref a_rules, .ref a_places, .ref a_steps, .int c_siteCount, .int c_stepCount, .int c_seenRules, .int w_1, .int c_wordStart, .int c_number, .int c_failed])), (a_tape, .inr (7, [.ref a_tape_bytes, .int c_tape_length])), (a_tape_bytes, .inl (E.2.2.1, 320, .inl c_tape_bytes))] H := hP
  replace hD : va_D A [(a_, .inr (4, [.ref a_tape, .ref a_rules, .ref a_places, .ref a_steps, .int c_siteCount, .int c_stepCount, .int c_seenRules, .int w_1, .int c_wordStart, .int c_number, .int c_failed])), (a_tape, .inr (7, [.ref a_tape_bytes, .int c_tape_length])), (a_tape_bytes, .inl (E.2.2.1, 320, .inl c_tape_bytes))] := hD
  refine lv_aload_n hx hb dX3_isAtEnd_4 rfl (lv_at hl 0 rfl) ?_
  refine gt_X3_7 (v := .int w_1) hx hb hts i_f_X3_isAtEnd_X3 hown hK hP 0 rfl (hts (.fieldLink RX3 31 "HushWatch$Reader" "at" "I") (List.mem_of_getElem? (i := 1) rfl)) rfl dX3_isAtEnd_5 ?_
  refine lv_aload_n hx hb dX3_isAtEnd_8 rfl (lv_at hl 0 rfl) ?_
  refine gt_X3_0 (v := .ref a_tape) hx hb hts i_f_X3_isAtEnd_X3 hown hK hP 0 rfl (hts (.fieldLink RX3 43 "HushWatch$Reader" "tape" "LHushWatch$Tape;") (List.mem_of_getElem? (i := 2) rfl)) rfl dX3_isAtEnd_9 ?_
  refine va_getN (D := E.1) (ci := 7) (v := .int c_tape_length) (C := RX6) (T := TX6) (N := 2) hx hb hts i_f_X3_isAtEnd_X6 hown hK hP 1 rfl rfl 1 (by decide) (nx hN 2 rfl) (fun _ h9 => h9) rfl dX3_isAtEnd_12 ?_
  refine lv_icmp_lt (tgt := 22) hx hb dX3_isAtEnd_15 (by decide) (fun c_3 => ?_) (fun c_3 => ?_)
  ·
    replace hF := ip c_3 hF
    refine lv_iconst (v := 0) hx hb dX3_isAtEnd_22 (by decide) ?_
    rw [hQ]
    have h9 := fin9 (P := fun u9 : Int32 × Int32 => (0 : Int32) = u9.1 ∧ va_P E.1 vwCl (w_X3_isAtEnd E a_ a_tape a_rules a_places a_steps a_tape_bytes c_siteCount c_stepCount c_seenRules u9.2 c_wordStart c_number c_failed c_tape_length c_tape_bytes) H ∧ va_D A (w_X3_isAtEnd E a_ a_tape a_rules a_places a_steps a_tape_bytes c_siteCount c_stepCount c_seenRules u9.2 c_wordStart c_number c_failed c_tape_length c_tape_bytes)) hF ⟨rfl, hP, hD⟩
    obtain ⟨e9_0, hP9, hD9⟩ := h9
    exact W.zret (v := (0 : Int32)) hx hb hr rfl (fun tt ht hW => ⟨⟨_, (), rfl, ⟨e9_0, Or.inl rfl⟩, ht ▸ hP9, hD9⟩, hS.F ht⟩) hS.2.2 dX3_isAtEnd_23
  ·
    replace hF := inn c_3 hF
    refine lv_iconst (v := 1) hx hb dX3_isAtEnd_18 (by decide) ?_
    refine lv_goto (tgt := 23) hx hb dX3_isAtEnd_19 (by decide) ?_
    rw [hQ]
    have h9 := fin9 (P := fun u9 : Int32 × Int32 => (1 : Int32) = u9.1 ∧ va_P E.1 vwCl (w_X3_isAtEnd E a_ a_tape a_rules a_places a_steps a_tape_bytes c_siteCount c_stepCount c_seenRules u9.2 c_wordStart c_number c_failed c_tape_length c_tape_bytes) H ∧ va_D A (w_X3_isAtEnd E a_ a_tape a_rules a_places a_steps a_tape_bytes c_siteCount c_stepCount c_seenRules u9.2 c_wordStart c_number c_failed c_tape_length c_tape_bytes)) hF ⟨rfl, hP, hD⟩
    obtain ⟨e9_0, hP9, hD9⟩ := h9
    exact W.zret (v := (1 : Int32)) hx hb hr rfl (fun tt ht hW => ⟨⟨_, (), rfl, ⟨e9_0, Or.inr rfl⟩, ht ▸ hP9, hD9⟩, hS.F ht⟩) hS.2.2 dX3_isAtEnd_23

def F_X3_isDigit (p0 : Int32) : Option (Int32) :=
  if p0 < (48 : Int32) then some (0 : Int32) else if (57 : Int32) < p0 then some (0 : Int32) else some (1 : Int32)

def v_f_X3_isDigit : List Cond := List.cons (.code yX3_isDigit cX3_isDigit 1 (some .boolean)) (HAppend.hAppend (α := List Cond) (β := List Cond) (γ := List Cond) [] [])
theorem gw_f_X3_isDigit : v_f_X3_isDigit.all goodWord = true := by decide +kernel
theorem hd_X3_isDigit : yX3_isDigit.cls = RX3 ∧ yX3_isDigit.cls ≠ "java/lang/invoke/MethodHandle" ∧ yX3_isDigit.cls ≠ "java/lang/invoke/VarHandle" ∧ (parseMethodDescriptor yX3_isDigit.desc).map (fun d => d.parameters.length) = some 1 := by decide +kernel
set_option maxHeartbeats 4000000 in
set_option maxRecDepth 100000 in
theorem f_X3_isDigit (l : Launch) (E : EE) {p0 : Int32} {rr : Int32} (hF : F_X3_isDigit p0 = some rr) : Met l yX3_isDigit v_f_X3_isDigit (({ frames := 0, cells := 0, slots := 0, locals := 0 } : Room)) (va_Pc [.int p0] (pP E [])) (vp_Si (fun q : Int32 => q = rr ∧ (q = 0 ∨ q = 1))) 0 0 (fun _ => False) := by
  refine Met.ofW (cc := cX3_isDigit) (maxL := 1) (ret := (some .boolean)) (by decide) rfl ?_
  intro p e s m args below meth c s₁ B hml hv
  obtain ⟨rfl, ⟨hK, hN⟩, hP⟩ := hv
  have hx := B.exec
  have hb := B.bytes
  have hr := B.returns
  have hts := atoms_spec (ws := v_f_X3_isDigit) B.pre
  have hown : s.vm.findClass RX3 = some m.cls := own_of hd_X3_isDigit.1 (findClass_of_methodNamed B.named)
  have hlocks : meth.locks = false := B.notSynchronized
  replace hP : va_P E.1 vwCl [] s.heap := hP
  have hl := lv_entry ([.int p0]) (n := 1) (Nat.le_of_ble_eq_true rfl)
  rw [lg_entry_eq]
  generalize (lg_sl ([.int p0]) ++ List.replicate (1 - (lg_sl ([.int p0])).length) Slot.unset).toArray = ls at hl ⊢
  have hl : lv_has ls 1 [(0, .int p0)] := hl
  obtain ⟨Q, hQ⟩ : ∃ Q : State → Prop, Q = MQ below (vp_Si (fun q : Int32 => q = rr ∧ (q = 0 ∨ q = 1))) #[Value.int p0] s 0 0 (fun _ => False) := ⟨_, rfl⟩
  rw [← hQ]
  change W p l e ({ frames := 0, cells := 0, slots := 0, locals := 0 } : Room) s m #[Value.int p0] below meth c s.heap [] 0 0 Q (F0 m 0 ls [])
  unfold F_X3_isDigit at hF
  refine lv_iload_n hx hb dX3_isDigit_0 rfl (lv_at hl 0 rfl) ?_
  refine lv_bipush (v := 48) hx hb dX3_isDigit_1 (by decide) ?_
  refine lv_icmp_lt (tgt := 16) hx hb dX3_isDigit_3 (by decide) (fun c_1 => ?_) (fun c_1 => ?_)
  ·
    replace hF := ip c_1 hF
    refine lv_iconst (v := 0) hx hb dX3_isDigit_16 (by decide) ?_
    rw [hQ]
    obtain e9_0 := inj1 hF
    exact W.zret (v := (0 : Int32)) hx hb hr rfl (fun tt ht hW => ⟨_, rfl, ⟨e9_0, Or.inl rfl⟩, ht⟩) (fun _ h => by cases h) dX3_isDigit_17
  ·
    replace hF := inn c_1 hF
    refine lv_iload_n hx hb dX3_isDigit_6 rfl (lv_at hl 0 rfl) ?_
    refine lv_bipush (v := 57) hx hb dX3_isDigit_7 (by decide) ?_
    refine lv_icmp_gt (tgt := 16) hx hb dX3_isDigit_9 (by decide) (fun c_2 => ?_) (fun c_2 => ?_)
    ·
      replace hF := ip c_2 hF
      refine lv_iconst (v := 0) hx hb dX3_isDigit_16 (by decide) ?_
      rw [hQ]
      obtain e9_0 := inj1 hF
      exact W.zret (v := (0 : Int32)) hx hb hr rfl (fun tt ht hW => ⟨_, rfl, ⟨e9_0, Or.inl rfl⟩, ht⟩) (fun _ h => by cases h) dX3_isDigit_17
    ·
      replace hF := inn c_2 hF
      refine lv_iconst (v := 1) hx hb dX3_isDigit_12 (by decide) ?_
      refine lv_goto (tgt := 17) hx hb dX3_isDigit_13 (by decide) ?_
      rw [hQ]
      obtain e9_0 := inj1 hF
      exact W.zret (v := (1 : Int32)) hx hb hr rfl (fun tt ht hW => ⟨_, rfl, ⟨e9_0, Or.inr rfl⟩, ht⟩) (fun _ h => by cases h) dX3_isDigit_17

def F_X3_isLetter (p0 : Int32) : Option (Int32) :=
  if p0 < (97 : Int32) then some (0 : Int32) else if (122 : Int32) < p0 then some (0 : Int32) else some (1 : Int32)

def v_f_X3_isLetter : List Cond := List.cons (.code yX3_isLetter cX3_isLetter 1 (some .boolean)) (HAppend.hAppend (α := List Cond) (β := List Cond) (γ := List Cond) [] [])
theorem gw_f_X3_isLetter : v_f_X3_isLetter.all goodWord = true := by decide +kernel
theorem hd_X3_isLetter : yX3_isLetter.cls = RX3 ∧ yX3_isLetter.cls ≠ "java/lang/invoke/MethodHandle" ∧ yX3_isLetter.cls ≠ "java/lang/invoke/VarHandle" ∧ (parseMethodDescriptor yX3_isLetter.desc).map (fun d => d.parameters.length) = some 1 := by decide +kernel
set_option maxHeartbeats 4000000 in
set_option maxRecDepth 100000 in
theorem f_X3_isLetter (l : Launch) (E : EE) {p0 : Int32} {rr : Int32} (hF : F_X3_isLetter p0 = some rr) : Met l yX3_isLetter v_f_X3_isLetter (({ frames := 0, cells := 0, slots := 0, locals := 0 } : Room)) (va_Pc [.int p0] (pP E [])) (vp_Si (fun q : Int32 => q = rr ∧ (q = 0 ∨ q = 1))) 0 0 (fun _ => False) := by
  refine Met.ofW (cc := cX3_isLetter) (maxL := 1) (ret := (some .boolean)) (by decide) rfl ?_
  intro p e s m args below meth c s₁ B hml hv
  obtain ⟨rfl, ⟨hK, hN⟩, hP⟩ := hv
  have hx := B.exec
  have hb := B.bytes
  have hr := B.returns
  have hts := atoms_spec (ws := v_f_X3_isLetter) B.pre
  have hown : s.vm.findClass RX3 = some m.cls := own_of hd_X3_isLetter.1 (findClass_of_methodNamed B.named)
  have hlocks : meth.locks = false := B.notSynchronized
  replace hP : va_P E.1 vwCl [] s.heap := hP
  have hl := lv_entry ([.int p0]) (n := 1) (Nat.le_of_ble_eq_true rfl)
  rw [lg_entry_eq]
  generalize (lg_sl ([.int p0]) ++ List.replicate (1 - (lg_sl ([.int p0])).length) Slot.unset).toArray = ls at hl ⊢
  have hl : lv_has ls 1 [(0, .int p0)] := hl
  obtain ⟨Q, hQ⟩ : ∃ Q : State → Prop, Q = MQ below (vp_Si (fun q : Int32 => q = rr ∧ (q = 0 ∨ q = 1))) #[Value.int p0] s 0 0 (fun _ => False) := ⟨_, rfl⟩
  rw [← hQ]
  change W p l e ({ frames := 0, cells := 0, slots := 0, locals := 0 } : Room) s m #[Value.int p0] below meth c s.heap [] 0 0 Q (F0 m 0 ls [])
  unfold F_X3_isLetter at hF
  refine lv_iload_n hx hb dX3_isLetter_0 rfl (lv_at hl 0 rfl) ?_
  refine lv_bipush (v := 97) hx hb dX3_isLetter_1 (by decide) ?_
  refine lv_icmp_lt (tgt := 16) hx hb dX3_isLetter_3 (by decide) (fun c_1 => ?_) (fun c_1 => ?_)
  ·
    replace hF := ip c_1 hF
    refine lv_iconst (v := 0) hx hb dX3_isLetter_16 (by decide) ?_
    rw [hQ]
    obtain e9_0 := inj1 hF
    exact W.zret (v := (0 : Int32)) hx hb hr rfl (fun tt ht hW => ⟨_, rfl, ⟨e9_0, Or.inl rfl⟩, ht⟩) (fun _ h => by cases h) dX3_isLetter_17
  ·
    replace hF := inn c_1 hF
    refine lv_iload_n hx hb dX3_isLetter_6 rfl (lv_at hl 0 rfl) ?_
    refine lv_bipush (v := 122) hx hb dX3_isLetter_7 (by decide) ?_
    refine lv_icmp_gt (tgt := 16) hx hb dX3_isLetter_9 (by decide) (fun c_2 => ?_) (fun c_2 => ?_)
    ·
      replace hF := ip c_2 hF
      refine lv_iconst (v := 0) hx hb dX3_isLetter_16 (by decide) ?_
      rw [hQ]
      obtain e9_0 := inj1 hF
      exact W.zret (v := (0 : Int32)) hx hb hr rfl (fun tt ht hW => ⟨_, rfl, ⟨e9_0, Or.inl rfl⟩, ht⟩) (fun _ h => by cases h) dX3_isLetter_17
    ·
      replace hF := inn c_2 hF
      refine lv_iconst (v := 1) hx hb dX3_isLetter_12 (by decide) ?_
      refine lv_goto (tgt := 17) hx hb dX3_isLetter_13 (by decide) ?_
      rw [hQ]
      obtain e9_0 := inj1 hF
      exact W.zret (v := (1 : Int32)) hx hb hr rfl (fun tt ht hW => ⟨_, rfl, ⟨e9_0, Or.inr rfl⟩, ht⟩) (fun _ h => by cases h) dX3_isLetter_17

def B_X3_isWord_20 (p1 : Nat) (c_wordStart : Int32) (c_tape_length : Int32) (c_tape_bytes : Nat → Int32) (x2 : Int32) : Option ((Int32) ⊕ (Nat)) :=
  ltF p1 15 (bd1 (F_J0_length_8abf5 p1) (fun r_5 => if r_5 ≤ x2 then some (.inr 1) else bd1 (F_X6_signAt (c_wordStart + x2) c_tape_bytes c_tape_length) (fun r_9 => ltF p1 15 (bd1 (F_J0_charAt_5068e p1 x2) (fun r_11 => if r_9 = r_11 then some (.inl (x2 + (1 : Int32))) else some (.inr 0))))))
def F_X3_isWord (K : Nat) (p1 : Nat) (c_tape_bytes : Nat → Int32) (c_tape_length : Int32) (c_at : Int32) (c_wordStart : Int32) : Option (Int32) :=
  ltF p1 15 (bd1 (F_J0_length_8abf5 p1) (fun r_1 => if c_at - c_wordStart = r_1 then bd1 (lpF (fun u9 : Int32 => B_X3_isWord_20 p1 c_wordStart c_tape_length c_tape_bytes u9) K (0 : Int32)) (fun t_16 => if t_16 = 0 then some (0 : Int32) else if t_16 = 1 then some (1 : Int32) else none) else some (0 : Int32)))
abbrev w_X3_isWord (E : EE) (a_ a_tape a_rules a_places a_steps a_tape_bytes : Nat) (c_siteCount : Int32) (c_stepCount : Int32) (c_seenRules : Int32) (c_at : Int32) (c_wordStart : Int32) (c_number : Int32) (c_failed : Int32) (c_tape_length : Int32) (c_tape_bytes : Nat → Int32) : va_W := [(a_, .inr (4, [.ref a_tape, .ref a_rules, .ref a_places, .ref a_steps, .int c_siteCount, .int c_stepCount, .int c_seenRules, .int c_at, .int c_wordStart, .int c_number, .int c_failed])), (a_tape, .inr (7, [.ref a_tape_bytes, .int c_tape_length])), (a_tape_bytes, .inl (E.2.2.1, 320, .inl c_tape_bytes))]
def v_f_X3_isWord : List Cond := List.cons (.code yX3_isWord cX3_isWord 3 (some .boolean)) (HAppend.hAppend (α := List Cond) (β := List Cond) (γ := List Cond) [.fieldLink RX3 31 "HushWatch$Reader" "at" "I", .fieldLink RX3 34 "HushWatch$Reader" "wordStart" "I", .fieldLink RX3 43 "HushWatch$Reader" "tape" "LHushWatch$Tape;", .methodLink RX3 150 yJ0_length_8abf5, .instanceMethod yJ0_length_8abf5, .selects RJ0 yJ0_length_8abf5 yJ0_length_8abf5, .initialized RJ0, .methodLink RX3 143 yX6_signAt, .instanceMethod yX6_signAt, .selects RX6 yX6_signAt yX6_signAt, .initialized RX6, .methodLink RX3 154 yJ0_charAt_5068e, .instanceMethod yJ0_charAt_5068e, .selects RJ0 yJ0_charAt_5068e yJ0_charAt_5068e] (HAppend.hAppend (α := List Cond) (β := List Cond) (γ := List Cond) wsX30 (HAppend.hAppend (α := List Cond) (β := List Cond) (γ := List Cond) v_f_J0_length_8abf5 (HAppend.hAppend (α := List Cond) (β := List Cond) (γ := List Cond) v_f_X6_signAt (HAppend.hAppend (α := List Cond) (β := List Cond) (γ := List Cond) v_f_J0_charAt_5068e [])))))
theorem gw_f_X3_isWord : v_f_X3_isWord.all goodWord = true := by decide +kernel
theorem i_f_X3_isWord_X3 : ∀ w ∈ wsX30, w ∈ v_f_X3_isWord := fun _ h => List.mem_cons_of_mem _ (List.mem_append_right _ (List.mem_append_left _ h))
theorem g_f_X3_isWord_f_J0_length_8abf5_150 : GoodIn v_f_X3_isWord (wsV RX3 150 RJ0 yJ0_length_8abf5 v_f_J0_length_8abf5) := goodIn_app (goodIn_of _ (by decide +kernel)) (goodIn_sub (fun _ h => List.mem_cons_of_mem _ (List.mem_append_right _ (List.mem_append_right _ (List.mem_append_left _ h)))) gw_f_J0_length_8abf5)
theorem g_f_X3_isWord_f_X6_signAt_143 : GoodIn v_f_X3_isWord (wsV RX3 143 RX6 yX6_signAt v_f_X6_signAt) := goodIn_app (goodIn_of _ (by decide +kernel)) (goodIn_sub (fun _ h => List.mem_cons_of_mem _ (List.mem_append_right _ (List.mem_append_right _ (List.mem_append_right _ (List.mem_append_left _ h))))) gw_f_X6_signAt)
theorem g_f_X3_isWord_f_J0_charAt_5068e_154 : GoodIn v_f_X3_isWord (wsV RX3 154 RJ0 yJ0_charAt_5068e v_f_J0_charAt_5068e) := goodIn_app (goodIn_of _ (by decide +kernel)) (goodIn_sub (fun _ h => List.mem_cons_of_mem _ (List.mem_append_right _ (List.mem_append_right _ (List.mem_append_right _ (List.mem_append_right _ (List.mem_append_left _ h)))))) gw_f_J0_charAt_5068e)
theorem hd_X3_isWord : yX3_isWord.cls = RX3 ∧ yX3_isWord.cls ≠ "java/lang/invoke/MethodHandle" ∧ yX3_isWord.cls ≠ "java/lang/invoke/VarHandle" ∧ (parseMethodDescriptor yX3_isWord.desc).map (fun d => d.parameters.length) = some 1 := by decide +kernel
set_option maxHeartbeats 4000000 in
set_option maxRecDepth 100000 in
theorem wb_X3_isWord_20 {p : Program} (l : Launch) {e : Env} {s : State} {m : MethodId} {below : List Frame} {meth : Method} {c : Code} {Q : State → Prop} (E : EE) (K : Nat) {z9 : Nat → Nat} {a_ a_tape a_rules a_places a_steps a_tape_bytes : Nat} {p1 : Nat} {c_siteCount : Int32} {c_stepCount : Int32} {c_seenRules : Int32} {c_at : Int32} {c_wordStart : Int32} {c_number : Int32} {c_failed : Int32} {c_tape_length : Int32} {c_tape_bytes : Nat → Int32} {x2 : Int32} (hx : p.tables.exec = Jvm.exec) (hb : c.code = cX3_isWord) (hml : c.maxLocals = 3) (hown : s.vm.findClass RX3 = some m.cls) (hts : ∀ w ∈ v_f_X3_isWord, w.before #[Value.ref a_, Value.ref (z9 (20 + p1))] s = true) (hK : va_K E.1 vwCl (TY E) s) (hN : NX s) (hZ : ZZ z9 (fun _ => False) s s.heap) {xx : (Int32) ⊕ (Nat)} (hC : ∀ (x2 : Int32), xx = .inl x2 → ∀ (ls : Array Slot), lv_has ls 3 [(0, .ref a_), (1, .ref (z9 (20 + p1))), (2, .int x2)] → W p l e ({ frames := 4, cells := 0, slots := 0, locals := 85 } : Room) s m #[Value.ref a_, Value.ref (z9 (20 + p1))] below meth c s.heap [] 0 0 Q (F0 m 20 ls [])) (hE : ∀ (t9 : Nat), xx = .inr t9 → ((t9 = 0 → ∀ (ls : Array Slot), lv_has ls 3 [] → W p l e ({ frames := 4, cells := 0, slots := 0, locals := 85 } : Room) s m #[Value.ref a_, Value.ref (z9 (20 + p1))] below meth c s.heap [] 0 0 Q (F0 m 49 ls [])) ∧ (t9 = 1 → ∀ (ls : Array Slot), lv_has ls 3 [] → W p l e ({ frames := 4, cells := 0, slots := 0, locals := 85 } : Room) s m #[Value.ref a_, Value.ref (z9 (20 + p1))] below meth c s.heap [] 0 0 Q (F0 m 57 ls [])))) (hF : B_X3_isWord_20 p1 c_wordStart c_tape_length c_tape_bytes x2 = some xx) (hP : va_P E.1 vwCl (w_X3_isWord E a_ a_tape a_rules a_places a_steps a_tape_bytes c_siteCount c_stepCount c_seenRules c_at c_wordStart c_number c_failed c_tape_length c_tape_bytes) s.heap) : ∀ (ls : Array Slot), lv_has ls 3 [(0, .ref a_), (1, .ref (z9 (20 + p1))), (2, .int x2)] → W p l e ({ frames := 4, cells := 0, slots := 0, locals := 85 } : Room) s m #[Value.ref a_, Value.ref (z9 (20 + p1))] below meth c s.heap [] 0 0 Q (F0 m 20 ls []) := by
  unfold B_X3_isWord_20 at hF
  replace hP : va_P E.1 vwCl [(a_, .inr (4, [.ref a_tape, .ref a_rules, .ref a_places, .ref a_steps, .int c_siteCount, .int c_stepCount, .int c_seenRules, .int c_at, .int c_wordStart, .int c_number, .int c_failed])), (a_tape, .inr (7, [.ref a_tape_bytes, .int c_tape_length])), (a_tape_bytes, .inl (E.2.2.1, 320, .inl c_tape_bytes))] s.heap := hP
  intro ls hl
  refine lv_iload_n hx hb dX3_isWord_20 rfl (lv_at hl 2 rfl) ?_
  refine lv_aload_n hx hb dX3_isWord_21 rfl (lv_at hl 1 rfl) ?_
  replace hF := ltF_s hF
  obtain ⟨hs_6, hF⟩ := hF
  replace hF := bd1_s hF
  obtain ⟨r_5, hc_7, hF⟩ := hF
  have hPc : va_P E.1 vwCl [] s.heap := fun k q h => by simp at h
  refine pE_i (va_runV (As := []) (rest := [.int x2])  ⟨hx, hb, hml, hown, hts⟩ (f_J0_length_8abf5 l E z9 (p0 := p1) hc_7) (cwV 0 hts g_f_X3_isWord_f_J0_length_8abf5_150 rfl rfl rfl hd_J0_length_8abf5 ⟨Nat.le_of_ble_eq_true rfl, Nat.le_of_ble_eq_true rfl⟩) ⟨qPZ.blind, vk_recv hZ.2.2.2.1 hs_6 (va_S.rf), (qPZ.pre0 ⟨hK, hN⟩ hPc hZ)⟩ rfl rfl hl.1 rfl (lv_room (Nat.le_of_ble_eq_true rfl)) dX3_isWord_22 ⟨Nat.le_of_ble_eq_true rfl, Nat.le_of_ble_eq_true rfl⟩) ?_
  refine lv_icmp_ge (tgt := 57) hx hb dX3_isWord_25 (by decide) (fun c_8 => ?_) (fun c_8 => ?_)
  ·
    replace hF := ip c_8 hF
    cases hF
    exact (hE 1  rfl).2 rfl ls (lv_sub hl [] rfl)
  ·
    replace hF := inn c_8 hF
    refine lv_aload_n hx hb dX3_isWord_28 rfl (lv_at hl 0 rfl) ?_
    refine gt_X3_0 (v := .ref a_tape) hx hb hts i_f_X3_isWord_X3 hown hK hP 0 rfl (hts (.fieldLink RX3 43 "HushWatch$Reader" "tape" "LHushWatch$Tape;") (List.mem_of_getElem? (i := 3) rfl)) rfl dX3_isWord_29 ?_
    refine lv_aload_n hx hb dX3_isWord_32 rfl (lv_at hl 0 rfl) ?_
    refine gt_X3_8 (v := .int c_wordStart) hx hb hts i_f_X3_isWord_X3 hown hK hP 0 rfl (hts (.fieldLink RX3 34 "HushWatch$Reader" "wordStart" "I") (List.mem_of_getElem? (i := 2) rfl)) rfl dX3_isWord_33 ?_
    refine lv_iload_n hx hb dX3_isWord_36 rfl (lv_at hl 2 rfl) ?_
    refine lv_iadd hx hb dX3_isWord_37 ?_
    replace hF := bd1_s hF
    obtain ⟨r_9, hc_10, hF⟩ := hF
    have hPc : va_P E.1 vwCl (w_X6_signAt E a_tape a_tape_bytes c_tape_length c_tape_bytes) s.heap := hP.sub (ws' := [(a_tape, .inr (7, [.ref a_tape_bytes, .int c_tape_length])), (a_tape_bytes, .inl (E.2.2.1, 320, .inl c_tape_bytes))]) [1, 2] rfl
    have hrc := va_recv hK hPc (ci := 7) (q0 := 0) rfl rfl
    refine pE_i (va_runV (As := [.int (c_wordStart + x2)]) (rest := [])  ⟨hx, hb, hml, hown, hts⟩ (f_X6_signAt l E (a_ := a_tape) (a_bytes := a_tape_bytes) (p1 := c_wordStart + x2) (c_length := c_tape_length) (c_bytes := c_tape_bytes) hc_10) (cwV 1 hts g_f_X3_isWord_f_X6_signAt_143 rfl rfl rfl hd_X6_signAt ⟨Nat.le_of_ble_eq_true rfl, Nat.le_of_ble_eq_true rfl⟩) ⟨pP.blind, hrc, (pP.pre ⟨hK, hN⟩ hPc)⟩ rfl rfl hl.1 rfl (lv_room (Nat.le_of_ble_eq_true rfl)) dX3_isWord_38 ⟨Nat.le_of_ble_eq_true rfl, Nat.le_of_ble_eq_true rfl⟩) ?_
    refine lv_aload_n hx hb dX3_isWord_41 rfl (lv_at hl 1 rfl) ?_
    refine lv_iload_n hx hb dX3_isWord_42 rfl (lv_at hl 2 rfl) ?_
    replace hF := ltF_s hF
    obtain ⟨hs_12, hF⟩ := hF
    replace hF := bd1_s hF
    obtain ⟨r_11, hc_13, hF⟩ := hF
    have hPc : va_P E.1 vwCl [] s.heap := fun k q h => by simp at h
    refine pE_c (va_runV (As := [.int x2]) (rest := [.int r_9])  ⟨hx, hb, hml, hown, hts⟩ (f_J0_charAt_5068e l E z9 (p0 := p1) (p1 := x2) hc_13) (cwV 1 hts g_f_X3_isWord_f_J0_charAt_5068e_154 rfl rfl rfl hd_J0_charAt_5068e ⟨Nat.le_of_ble_eq_true rfl, Nat.le_of_ble_eq_true rfl⟩) ⟨qPZ.blind, vk_recv hZ.2.2.2.1 hs_12 (va_S.rf), (qPZ.pre0 ⟨hK, hN⟩ hPc hZ)⟩ rfl rfl hl.1 rfl (lv_room (Nat.le_of_ble_eq_true rfl)) dX3_isWord_43 ⟨Nat.le_of_ble_eq_true rfl, Nat.le_of_ble_eq_true rfl⟩) (fun hb_14 => ?_)
    refine lv_icmp_eq (tgt := 51) hx hb dX3_isWord_46 (by decide) (fun c_15 => ?_) (fun c_15 => ?_)
    ·
      replace hF := ip c_15 hF
      refine lv_iinc (v := x2 + (1 : Int32)) (lv' := [(2, .int (x2 + (1 : Int32))), (0, .ref a_), (1, .ref (z9 (20 + p1)))]) hx hb dX3_isWord_51 hl (k := 2) rfl (rfl) (by decide) rfl (fun ls hl => ?_)
      refine lv_goto (tgt := 20) hx hb dX3_isWord_54 (by decide) ?_
      cases hF
      exact hC (x2 + (1 : Int32)) rfl ls (lv_sub hl [1, 2, 0] rfl)
    ·
      replace hF := inn c_15 hF
      cases hF
      exact (hE 0  rfl).1 rfl ls (lv_sub hl [] rfl)

set_option maxHeartbeats 4000000 in
set_option maxRecDepth 100000 in
theorem lw_X3_isWord_20 {p : Program} (l : Launch) {e : Env} {s : State} {m : MethodId} {below : List Frame} {meth : Method} {c : Code} {Q : State → Prop} (E : EE) (K : Nat) {z9 : Nat → Nat} {a_ a_tape a_rules a_places a_steps a_tape_bytes : Nat} {p1 : Nat} {c_siteCount : Int32} {c_stepCount : Int32} {c_seenRules : Int32} {c_at : Int32} {c_wordStart : Int32} {c_number : Int32} {c_failed : Int32} {c_tape_length : Int32} {c_tape_bytes : Nat → Int32} (hx : p.tables.exec = Jvm.exec) (hb : c.code = cX3_isWord) (hml : c.maxLocals = 3) (hown : s.vm.findClass RX3 = some m.cls) (hts : ∀ w ∈ v_f_X3_isWord, w.before #[Value.ref a_, Value.ref (z9 (20 + p1))] s = true) (hK : va_K E.1 vwCl (TY E) s) (hN : NX s) (hZ : ZZ z9 (fun _ => False) s s.heap) (hP : va_P E.1 vwCl (w_X3_isWord E a_ a_tape a_rules a_places a_steps a_tape_bytes c_siteCount c_stepCount c_seenRules c_at c_wordStart c_number c_failed c_tape_length c_tape_bytes) s.heap) (j9 : Nat) (x2 : Int32) (t9' : Nat) (hL : lpF (fun u9 : Int32 => B_X3_isWord_20 p1 c_wordStart c_tape_length c_tape_bytes u9) j9 x2 = some t9') (hX : (t9' = 0 → ∀ (ls : Array Slot), lv_has ls 3 [] → W p l e ({ frames := 4, cells := 0, slots := 0, locals := 85 } : Room) s m #[Value.ref a_, Value.ref (z9 (20 + p1))] below meth c s.heap [] 0 0 Q (F0 m 49 ls [])) ∧ (t9' = 1 → ∀ (ls : Array Slot), lv_has ls 3 [] → W p l e ({ frames := 4, cells := 0, slots := 0, locals := 85 } : Room) s m #[Value.ref a_, Value.ref (z9 (20 + p1))] below meth c s.heap [] 0 0 Q (F0 m 57 ls []))) : ∀ (ls : Array Slot), lv_has ls 3 [(0, .ref a_), (1, .ref (z9 (20 + p1))), (2, .int x2)] → W p l e ({ frames := 4, cells := 0, slots := 0, locals := 85 } : Room) s m #[Value.ref a_, Value.ref (z9 (20 + p1))] below meth c s.heap [] 0 0 Q (F0 m 20 ls []) := by
  exact lp_rule (P := (fun u9 : Int32 => ∀ (ls : Array Slot), lv_has ls 3 [(0, .ref a_), (1, .ref (z9 (20 + p1))), (2, .int u9)] → W p l e ({ frames := 4, cells := 0, slots := 0, locals := 85 } : Room) s m #[Value.ref a_, Value.ref (z9 (20 + p1))] below meth c s.heap [] 0 0 Q (F0 m 20 ls []))) (R := (fun r9 : Nat => (r9 = 0 → ∀ (ls : Array Slot), lv_has ls 3 [] → W p l e ({ frames := 4, cells := 0, slots := 0, locals := 85 } : Room) s m #[Value.ref a_, Value.ref (z9 (20 + p1))] below meth c s.heap [] 0 0 Q (F0 m 49 ls [])) ∧ (r9 = 1 → ∀ (ls : Array Slot), lv_has ls 3 [] → W p l e ({ frames := 4, cells := 0, slots := 0, locals := 85 } : Room) s m #[Value.ref a_, Value.ref (z9 (20 + p1))] below meth c s.heap [] 0 0 Q (F0 m 57 ls [])))) (fun u9 xx hF hC hE => wb_X3_isWord_20 l E K (p1 := p1) (c_siteCount := c_siteCount) (c_stepCount := c_stepCount) (c_seenRules := c_seenRules) (c_at := c_at) (c_wordStart := c_wordStart) (c_number := c_number) (c_failed := c_failed) (c_tape_length := c_tape_length) (c_tape_bytes := c_tape_bytes) (x2 := u9) hx hb hml hown hts hK hN hZ (fun x2 q9 => hC _ q9) (fun t9 q9 => hE _ q9) hF hP) j9 x2 t9' hL hX

set_option maxHeartbeats 4000000 in
set_option maxRecDepth 100000 in
theorem f_X3_isWord (l : Launch) (E : EE) (K : Nat) (z9 : Nat → Nat) {a_ a_tape a_rules a_places a_steps a_tape_bytes : Nat} {p1 : Nat} {c_siteCount : Int32} {c_stepCount : Int32} {c_seenRules : Int32} {c_at : Int32} {c_wordStart : Int32} {c_number : Int32} {c_failed : Int32} {c_tape_length : Int32} {c_tape_bytes : Nat → Int32} {rr : Int32} (hF : F_X3_isWord K p1 c_tape_bytes c_tape_length c_at c_wordStart = some rr) : Met l yX3_isWord v_f_X3_isWord (({ frames := 4, cells := 0, slots := 0, locals := 85 } : Room)) (va_Pc [.ref a_, .ref (z9 (20 + p1))] (qPZ E z9 (w_X3_isWord E a_ a_tape a_rules a_places a_steps a_tape_bytes c_siteCount c_stepCount c_seenRules c_at c_wordStart c_number c_failed c_tape_length c_tape_bytes))) (vp_Si (fun q : Int32 => q = rr ∧ (q = 0 ∨ q = 1))) 0 0 (fun _ => False) := by
  refine Met.ofW (cc := cX3_isWord) (maxL := 3) (ret := (some .boolean)) (by decide) rfl ?_
  intro p e s m args below meth c s₁ B hml hv
  obtain ⟨rfl, ⟨hK, hN⟩, hP, hZ⟩ := hv
  have hx := B.exec
  have hb := B.bytes
  have hr := B.returns
  have hts := atoms_spec (ws := v_f_X3_isWord) B.pre
  have hown : s.vm.findClass RX3 = some m.cls := own_of hd_X3_isWord.1 (findClass_of_methodNamed B.named)
  have hlocks : meth.locks = false := B.notSynchronized
  replace hP : va_P E.1 vwCl [(a_, .inr (4, [.ref a_tape, .ref a_rules, .ref a_places, .ref a_steps, .int c_siteCount, .int c_stepCount, .int c_seenRules, .int c_at, .int c_wordStart, .int c_number, .int c_failed])), (a_tape, .inr (7, [.ref a_tape_bytes, .int c_tape_length])), (a_tape_bytes, .inl (E.2.2.1, 320, .inl c_tape_bytes))] s.heap := hP
  have hl := lv_entry ([.ref a_, .ref (z9 (20 + p1))]) (n := 3) (Nat.le_of_ble_eq_true rfl)
  rw [lg_entry_eq]
  generalize (lg_sl ([.ref a_, .ref (z9 (20 + p1))]) ++ List.replicate (3 - (lg_sl ([.ref a_, .ref (z9 (20 + p1))])).length) Slot.unset).toArray = ls at hl ⊢
  have hl : lv_has ls 3 [(0, .ref a_), (1, .ref (z9 (20 + p1)))] := hl
  obtain ⟨Q, hQ⟩ : ∃ Q : State → Prop, Q = MQ below (vp_Si (fun q : Int32 => q = rr ∧ (q = 0 ∨ q = 1))) #[Value.ref a_, Value.ref (z9 (20 + p1))] s 0 0 (fun _ => False) := ⟨_, rfl⟩
  rw [← hQ]
  change W p l e ({ frames := 4, cells := 0, slots := 0, locals := 85 } : Room) s m #[Value.ref a_, Value.ref (z9 (20 + p1))] below meth c s.heap [] 0 0 Q (F0 m 0 ls [])
  unfold F_X3_isWord at hF
  refine lv_aload_n hx hb dX3_isWord_0 rfl (lv_at hl 0 rfl) ?_
  refine gt_X3_7 (v := .int c_at) hx hb hts i_f_X3_isWord_X3 hown hK hP 0 rfl (hts (.fieldLink RX3 31 "HushWatch$Reader" "at" "I") (List.mem_of_getElem? (i := 1) rfl)) rfl dX3_isWord_1 ?_
  refine lv_aload_n hx hb dX3_isWord_4 rfl (lv_at hl 0 rfl) ?_
  refine gt_X3_8 (v := .int c_wordStart) hx hb hts i_f_X3_isWord_X3 hown hK hP 0 rfl (hts (.fieldLink RX3 34 "HushWatch$Reader" "wordStart" "I") (List.mem_of_getElem? (i := 2) rfl)) rfl dX3_isWord_5 ?_
  refine lv_isub hx hb dX3_isWord_8 ?_
  refine lv_aload_n hx hb dX3_isWord_9 rfl (lv_at hl 1 rfl) ?_
  replace hF := ltF_s hF
  obtain ⟨hs_2, hF⟩ := hF
  replace hF := bd1_s hF
  obtain ⟨r_1, hc_3, hF⟩ := hF
  have hPc : va_P E.1 vwCl [] s.heap := fun k q h => by simp at h
  refine pE_i (va_runV (As := []) (rest := [.int (c_at - c_wordStart)])  ⟨hx, hb, hml, hown, hts⟩ (f_J0_length_8abf5 l E z9 (p0 := p1) hc_3) (cwV 0 hts g_f_X3_isWord_f_J0_length_8abf5_150 rfl rfl rfl hd_J0_length_8abf5 ⟨Nat.le_of_ble_eq_true rfl, Nat.le_of_ble_eq_true rfl⟩) ⟨qPZ.blind, vk_recv hZ.2.2.2.1 hs_2 (va_S.rf), (qPZ.pre0 ⟨hK, hN⟩ hPc hZ)⟩ rfl rfl hl.1 rfl (lv_room (Nat.le_of_ble_eq_true rfl)) dX3_isWord_10 ⟨Nat.le_of_ble_eq_true rfl, Nat.le_of_ble_eq_true rfl⟩) ?_
  refine lv_icmp_eq (tgt := 18) hx hb dX3_isWord_13 (by decide) (fun c_4 => ?_) (fun c_4 => ?_)
  ·
    replace hF := ip c_4 hF
    refine lv_iconst (v := 0) hx hb dX3_isWord_18 (by decide) ?_
    refine lv_istore_n (lv' := [(2, .int (0 : Int32)), (0, .ref a_), (1, .ref (z9 (20 + p1)))]) hx hb dX3_isWord_19 rfl hl (by decide) rfl (fun ls hl => ?_)
    replace hF := bd1_s hF
    obtain ⟨t_16, hL_17, hF⟩ := hF
    refine lw_X3_isWord_20 l E K (p1 := p1) (c_siteCount := c_siteCount) (c_stepCount := c_stepCount) (c_seenRules := c_seenRules) (c_at := c_at) (c_wordStart := c_wordStart) (c_number := c_number) (c_failed := c_failed) (c_tape_length := c_tape_length) (c_tape_bytes := c_tape_bytes) hx hb hml hown hts hK hN hZ hP K (0 : Int32) t_16 hL_17 ⟨?_, ?_⟩ ls (lv_sub hl [1, 2, 0] rfl)
    ·
      intro t9
      replace hF := ip t9 hF
      intro ls hl
      refine lv_iconst (v := 0) hx hb dX3_isWord_49 (by decide) ?_
      rw [hQ]
      obtain e9_0 := inj1 hF
      exact W.zret (v := (0 : Int32)) hx hb hr rfl (fun tt ht hW => ⟨_, rfl, ⟨e9_0, Or.inl rfl⟩, ht⟩) (fun _ h => by cases h) dX3_isWord_50
    ·
      intro t9
      replace hF := inn (show ¬ t_16 = 0 by omega) hF
      replace hF := ip t9 hF
      intro ls hl
      refine lv_iconst (v := 1) hx hb dX3_isWord_57 (by decide) ?_
      rw [hQ]
      obtain e9_0 := inj1 hF
      exact W.zret (v := (1 : Int32)) hx hb hr rfl (fun tt ht hW => ⟨_, rfl, ⟨e9_0, Or.inr rfl⟩, ht⟩) (fun _ h => by cases h) dX3_isWord_58
  ·
    replace hF := inn c_4 hF
    refine lv_iconst (v := 0) hx hb dX3_isWord_16 (by decide) ?_
    rw [hQ]
    obtain e9_0 := inj1 hF
    exact W.zret (v := (0 : Int32)) hx hb hr rfl (fun tt ht hW => ⟨_, rfl, ⟨e9_0, Or.inl rfl⟩, ht⟩) (fun _ h => by cases h) dX3_isWord_17

def F_X3_lawOfWord (K : Nat) (c_tape_bytes : Nat → Int32) (c_tape_length : Int32) (c_at : Int32) (c_wordStart : Int32) : Option (Int32) :=
  bd1 (F_X3_isWord K 4 c_tape_bytes c_tape_length c_at c_wordStart) (fun r_1 => if r_1 = (0 : Int32) then bd1 (F_X3_isWord K 5 c_tape_bytes c_tape_length c_at c_wordStart) (fun r_5 => if r_5 = (0 : Int32) then bd1 (F_X3_isWord K 6 c_tape_bytes c_tape_length c_at c_wordStart) (fun r_9 => if r_9 = (0 : Int32) then bd1 (F_X3_isWord K 7 c_tape_bytes c_tape_length c_at c_wordStart) (fun r_13 => if r_13 = (0 : Int32) then some (-1 : Int32) else some (3 : Int32)) else some (2 : Int32)) else some (1 : Int32)) else some (0 : Int32))
abbrev w_X3_lawOfWord (E : EE) (a_ a_tape a_rules a_places a_steps a_tape_bytes : Nat) (c_siteCount : Int32) (c_stepCount : Int32) (c_seenRules : Int32) (c_at : Int32) (c_wordStart : Int32) (c_number : Int32) (c_failed : Int32) (c_tape_length : Int32) (c_tape_bytes : Nat → Int32) : va_W := [(a_, .inr (4, [.ref a_tape, .ref a_rules, .ref a_places, .ref a_steps, .int c_siteCount, .int c_stepCount, .int c_seenRules, .int c_at, .int c_wordStart, .int c_number, .int c_failed])), (a_tape, .inr (7, [.ref a_tape_bytes, .int c_tape_length])), (a_tape_bytes, .inl (E.2.2.1, 320, .inl c_tape_bytes))]
def v_f_X3_lawOfWord : List Cond := List.cons (.code yX3_lawOfWord cX3_lawOfWord 1 (some .int)) (HAppend.hAppend (α := List Cond) (β := List Cond) (γ := List Cond) [.methodLink RX3 76 yX3_isWord, .instanceMethod yX3_isWord, .selects RX3 yX3_isWord yX3_isWord, .initialized RX3] (HAppend.hAppend (α := List Cond) (β := List Cond) (γ := List Cond) v_f_X3_isWord []))
theorem gw_f_X3_lawOfWord : v_f_X3_lawOfWord.all goodWord = true := by decide +kernel
theorem g_f_X3_lawOfWord_f_X3_isWord_76 : GoodIn v_f_X3_lawOfWord (wsV RX3 76 RX3 yX3_isWord v_f_X3_isWord) := goodIn_app (goodIn_of _ (by decide +kernel)) (goodIn_sub (fun _ h => List.mem_cons_of_mem _ (List.mem_append_right _ (List.mem_append_left _ h))) gw_f_X3_isWord)
theorem hd_X3_lawOfWord : yX3_lawOfWord.cls = RX3 ∧ yX3_lawOfWord.cls ≠ "java/lang/invoke/MethodHandle" ∧ yX3_lawOfWord.cls ≠ "java/lang/invoke/VarHandle" ∧ (parseMethodDescriptor yX3_lawOfWord.desc).map (fun d => d.parameters.length) = some 0 := by decide +kernel
set_option maxHeartbeats 4000000 in
set_option maxRecDepth 100000 in
theorem f_X3_lawOfWord (l : Launch) (E : EE) (K : Nat) (z9 : Nat → Nat) {a_ a_tape a_rules a_places a_steps a_tape_bytes : Nat} {c_siteCount : Int32} {c_stepCount : Int32} {c_seenRules : Int32} {c_at : Int32} {c_wordStart : Int32} {c_number : Int32} {c_failed : Int32} {c_tape_length : Int32} {c_tape_bytes : Nat → Int32} {rr : Int32} (hF : F_X3_lawOfWord K c_tape_bytes c_tape_length c_at c_wordStart = some rr) : Met l yX3_lawOfWord v_f_X3_lawOfWord (({ frames := 5, cells := 0, slots := 0, locals := 107 } : Room)) (va_Pc [.ref a_] (qPZ E z9 (w_X3_lawOfWord E a_ a_tape a_rules a_places a_steps a_tape_bytes c_siteCount c_stepCount c_seenRules c_at c_wordStart c_number c_failed c_tape_length c_tape_bytes))) (vp_Si (fun q : Int32 => q = rr)) 0 0 (fun _ => False) := by
  refine Met.ofW (cc := cX3_lawOfWord) (maxL := 1) (ret := (some .int)) (by decide) rfl ?_
  intro p e s m args below meth c s₁ B hml hv
  obtain ⟨rfl, ⟨hK, hN⟩, hP, hZ⟩ := hv
  have hx := B.exec
  have hb := B.bytes
  have hr := B.returns
  have hts := atoms_spec (ws := v_f_X3_lawOfWord) B.pre
  have hown : s.vm.findClass RX3 = some m.cls := own_of hd_X3_lawOfWord.1 (findClass_of_methodNamed B.named)
  have hlocks : meth.locks = false := B.notSynchronized
  replace hP : va_P E.1 vwCl [(a_, .inr (4, [.ref a_tape, .ref a_rules, .ref a_places, .ref a_steps, .int c_siteCount, .int c_stepCount, .int c_seenRules, .int c_at, .int c_wordStart, .int c_number, .int c_failed])), (a_tape, .inr (7, [.ref a_tape_bytes, .int c_tape_length])), (a_tape_bytes, .inl (E.2.2.1, 320, .inl c_tape_bytes))] s.heap := hP
  have hl := lv_entry ([.ref a_]) (n := 1) (Nat.le_of_ble_eq_true rfl)
  rw [lg_entry_eq]
  generalize (lg_sl ([.ref a_]) ++ List.replicate (1 - (lg_sl ([.ref a_])).length) Slot.unset).toArray = ls at hl ⊢
  have hl : lv_has ls 1 [(0, .ref a_)] := hl
  obtain ⟨Q, hQ⟩ : ∃ Q : State → Prop, Q = MQ below (vp_Si (fun q : Int32 => q = rr)) #[Value.ref a_] s 0 0 (fun _ => False) := ⟨_, rfl⟩
  rw [← hQ]
  change W p l e ({ frames := 5, cells := 0, slots := 0, locals := 107 } : Room) s m #[Value.ref a_] below meth c s.heap [] 0 0 Q (F0 m 0 ls [])
  unfold F_X3_lawOfWord at hF
  refine lv_aload_n hx hb dX3_lawOfWord_0 rfl (lv_at hl 0 rfl) ?_
  refine va_ldcS hx hb hown (ZZ.s4 hZ) dX3_lawOfWord_1 ?_
  replace hF := bd1_s hF
  obtain ⟨r_1, hc_2, hF⟩ := hF
  have hPc : va_P E.1 vwCl (w_X3_isWord E a_ a_tape a_rules a_places a_steps a_tape_bytes c_siteCount c_stepCount c_seenRules c_at c_wordStart c_number c_failed c_tape_length c_tape_bytes) s.heap := hP.sub (ws' := [(a_, .inr (4, [.ref a_tape, .ref a_rules, .ref a_places, .ref a_steps, .int c_siteCount, .int c_stepCount, .int c_seenRules, .int c_at, .int c_wordStart, .int c_number, .int c_failed])), (a_tape, .inr (7, [.ref a_tape_bytes, .int c_tape_length])), (a_tape_bytes, .inl (E.2.2.1, 320, .inl c_tape_bytes))]) [0, 1, 2] rfl
  have hrc := va_recv hK hPc (ci := 4) (q0 := 0) rfl rfl
  refine pE_z (va_runV (As := [.ref (z9 (20 + 4))]) (rest := [])  ⟨hx, hb, hml, hown, hts⟩ (f_X3_isWord l E K z9 (a_ := a_) (a_tape := a_tape) (a_rules := a_rules) (a_places := a_places) (a_steps := a_steps) (a_tape_bytes := a_tape_bytes) (p1 := 4) (c_siteCount := c_siteCount) (c_stepCount := c_stepCount) (c_seenRules := c_seenRules) (c_at := c_at) (c_wordStart := c_wordStart) (c_number := c_number) (c_failed := c_failed) (c_tape_length := c_tape_length) (c_tape_bytes := c_tape_bytes) hc_2) (cwV 1 hts g_f_X3_lawOfWord_f_X3_isWord_76 rfl rfl rfl hd_X3_isWord ⟨Nat.le_of_ble_eq_true rfl, Nat.le_of_ble_eq_true rfl⟩) ⟨qPZ.blind, hrc, (qPZ.pre0 ⟨hK, hN⟩ hPc hZ)⟩ rfl rfl hl.1 rfl (lv_room (Nat.le_of_ble_eq_true rfl)) dX3_lawOfWord_3 ⟨Nat.le_of_ble_eq_true rfl, Nat.le_of_ble_eq_true rfl⟩) (fun hb_3 => ?_)
  refine lv_if_eq (tgt := 11) hx hb dX3_lawOfWord_6 (by decide) (fun c_4 => ?_) (fun c_4 => ?_)
  ·
    replace hF := ip c_4 hF
    refine lv_aload_n hx hb dX3_lawOfWord_11 rfl (lv_at hl 0 rfl) ?_
    refine va_ldcS hx hb hown (ZZ.s5 hZ) dX3_lawOfWord_12 ?_
    replace hF := bd1_s hF
    obtain ⟨r_5, hc_6, hF⟩ := hF
    have hPc : va_P E.1 vwCl (w_X3_isWord E a_ a_tape a_rules a_places a_steps a_tape_bytes c_siteCount c_stepCount c_seenRules c_at c_wordStart c_number c_failed c_tape_length c_tape_bytes) s.heap := hP.sub (ws' := [(a_, .inr (4, [.ref a_tape, .ref a_rules, .ref a_places, .ref a_steps, .int c_siteCount, .int c_stepCount, .int c_seenRules, .int c_at, .int c_wordStart, .int c_number, .int c_failed])), (a_tape, .inr (7, [.ref a_tape_bytes, .int c_tape_length])), (a_tape_bytes, .inl (E.2.2.1, 320, .inl c_tape_bytes))]) [0, 1, 2] rfl
    have hrc := va_recv hK hPc (ci := 4) (q0 := 0) rfl rfl
    refine pE_z (va_runV (As := [.ref (z9 (20 + 5))]) (rest := [])  ⟨hx, hb, hml, hown, hts⟩ (f_X3_isWord l E K z9 (a_ := a_) (a_tape := a_tape) (a_rules := a_rules) (a_places := a_places) (a_steps := a_steps) (a_tape_bytes := a_tape_bytes) (p1 := 5) (c_siteCount := c_siteCount) (c_stepCount := c_stepCount) (c_seenRules := c_seenRules) (c_at := c_at) (c_wordStart := c_wordStart) (c_number := c_number) (c_failed := c_failed) (c_tape_length := c_tape_length) (c_tape_bytes := c_tape_bytes) hc_6) (cwV 1 hts g_f_X3_lawOfWord_f_X3_isWord_76 rfl rfl rfl hd_X3_isWord ⟨Nat.le_of_ble_eq_true rfl, Nat.le_of_ble_eq_true rfl⟩) ⟨qPZ.blind, hrc, (qPZ.pre0 ⟨hK, hN⟩ hPc hZ)⟩ rfl rfl hl.1 rfl (lv_room (Nat.le_of_ble_eq_true rfl)) dX3_lawOfWord_14 ⟨Nat.le_of_ble_eq_true rfl, Nat.le_of_ble_eq_true rfl⟩) (fun hb_7 => ?_)
    refine lv_if_eq (tgt := 22) hx hb dX3_lawOfWord_17 (by decide) (fun c_8 => ?_) (fun c_8 => ?_)
    ·
      replace hF := ip c_8 hF
      refine lv_aload_n hx hb dX3_lawOfWord_22 rfl (lv_at hl 0 rfl) ?_
      refine va_ldcS hx hb hown (ZZ.s6 hZ) dX3_lawOfWord_23 ?_
      replace hF := bd1_s hF
      obtain ⟨r_9, hc_10, hF⟩ := hF
      have hPc : va_P E.1 vwCl (w_X3_isWord E a_ a_tape a_rules a_places a_steps a_tape_bytes c_siteCount c_stepCount c_seenRules c_at c_wordStart c_number c_failed c_tape_length c_tape_bytes) s.heap := hP.sub (ws' := [(a_, .inr (4, [.ref a_tape, .ref a_rules, .ref a_places, .ref a_steps, .int c_siteCount, .int c_stepCount, .int c_seenRules, .int c_at, .int c_wordStart, .int c_number, .int c_failed])), (a_tape, .inr (7, [.ref a_tape_bytes, .int c_tape_length])), (a_tape_bytes, .inl (E.2.2.1, 320, .inl c_tape_bytes))]) [0, 1, 2] rfl
      have hrc := va_recv hK hPc (ci := 4) (q0 := 0) rfl rfl
      refine pE_z (va_runV (As := [.ref (z9 (20 + 6))]) (rest := [])  ⟨hx, hb, hml, hown, hts⟩ (f_X3_isWord l E K z9 (a_ := a_) (a_tape := a_tape) (a_rules := a_rules) (a_places := a_places) (a_steps := a_steps) (a_tape_bytes := a_tape_bytes) (p1 := 6) (c_siteCount := c_siteCount) (c_stepCount := c_stepCount) (c_seenRules := c_seenRules) (c_at := c_at) (c_wordStart := c_wordStart) (c_number := c_number) (c_failed := c_failed) (c_tape_length := c_tape_length) (c_tape_bytes := c_tape_bytes) hc_10) (cwV 1 hts g_f_X3_lawOfWord_f_X3_isWord_76 rfl rfl rfl hd_X3_isWord ⟨Nat.le_of_ble_eq_true rfl, Nat.le_of_ble_eq_true rfl⟩) ⟨qPZ.blind, hrc, (qPZ.pre0 ⟨hK, hN⟩ hPc hZ)⟩ rfl rfl hl.1 rfl (lv_room (Nat.le_of_ble_eq_true rfl)) dX3_lawOfWord_25 ⟨Nat.le_of_ble_eq_true rfl, Nat.le_of_ble_eq_true rfl⟩) (fun hb_11 => ?_)
      refine lv_if_eq (tgt := 33) hx hb dX3_lawOfWord_28 (by decide) (fun c_12 => ?_) (fun c_12 => ?_)
      ·
        replace hF := ip c_12 hF
        refine lv_aload_n hx hb dX3_lawOfWord_33 rfl (lv_at hl 0 rfl) ?_
        refine va_ldcS hx hb hown (ZZ.s7 hZ) dX3_lawOfWord_34 ?_
        replace hF := bd1_s hF
        obtain ⟨r_13, hc_14, hF⟩ := hF
        have hPc : va_P E.1 vwCl (w_X3_isWord E a_ a_tape a_rules a_places a_steps a_tape_bytes c_siteCount c_stepCount c_seenRules c_at c_wordStart c_number c_failed c_tape_length c_tape_bytes) s.heap := hP.sub (ws' := [(a_, .inr (4, [.ref a_tape, .ref a_rules, .ref a_places, .ref a_steps, .int c_siteCount, .int c_stepCount, .int c_seenRules, .int c_at, .int c_wordStart, .int c_number, .int c_failed])), (a_tape, .inr (7, [.ref a_tape_bytes, .int c_tape_length])), (a_tape_bytes, .inl (E.2.2.1, 320, .inl c_tape_bytes))]) [0, 1, 2] rfl
        have hrc := va_recv hK hPc (ci := 4) (q0 := 0) rfl rfl
        refine pE_z (va_runV (As := [.ref (z9 (20 + 7))]) (rest := [])  ⟨hx, hb, hml, hown, hts⟩ (f_X3_isWord l E K z9 (a_ := a_) (a_tape := a_tape) (a_rules := a_rules) (a_places := a_places) (a_steps := a_steps) (a_tape_bytes := a_tape_bytes) (p1 := 7) (c_siteCount := c_siteCount) (c_stepCount := c_stepCount) (c_seenRules := c_seenRules) (c_at := c_at) (c_wordStart := c_wordStart) (c_number := c_number) (c_failed := c_failed) (c_tape_length := c_tape_length) (c_tape_bytes := c_tape_bytes) hc_14) (cwV 1 hts g_f_X3_lawOfWord_f_X3_isWord_76 rfl rfl rfl hd_X3_isWord ⟨Nat.le_of_ble_eq_true rfl, Nat.le_of_ble_eq_true rfl⟩) ⟨qPZ.blind, hrc, (qPZ.pre0 ⟨hK, hN⟩ hPc hZ)⟩ rfl rfl hl.1 rfl (lv_room (Nat.le_of_ble_eq_true rfl)) dX3_lawOfWord_36 ⟨Nat.le_of_ble_eq_true rfl, Nat.le_of_ble_eq_true rfl⟩) (fun hb_15 => ?_)
        refine lv_if_eq (tgt := 46) hx hb dX3_lawOfWord_39 (by decide) (fun c_16 => ?_) (fun c_16 => ?_)
        ·
          replace hF := ip c_16 hF
          refine lv_iconst (v := -1) hx hb dX3_lawOfWord_46 (by decide) ?_
          rw [hQ]
          obtain e9_0 := inj1 hF
          exact W.iret (v := (-1 : Int32)) hx hb hr (fun tt ht hW => ⟨_, rfl, e9_0, ht⟩) (fun _ h => by cases h) dX3_lawOfWord_47
        ·
          replace hF := inn c_16 hF
          refine lv_iconst (v := 3) hx hb dX3_lawOfWord_42 (by decide) ?_
          refine lv_goto (tgt := 47) hx hb dX3_lawOfWord_43 (by decide) ?_
          rw [hQ]
          obtain e9_0 := inj1 hF
          exact W.iret (v := (3 : Int32)) hx hb hr (fun tt ht hW => ⟨_, rfl, e9_0, ht⟩) (fun _ h => by cases h) dX3_lawOfWord_47
      ·
        replace hF := inn c_12 hF
        refine lv_iconst (v := 2) hx hb dX3_lawOfWord_31 (by decide) ?_
        rw [hQ]
        obtain e9_0 := inj1 hF
        exact W.iret (v := (2 : Int32)) hx hb hr (fun tt ht hW => ⟨_, rfl, e9_0, ht⟩) (fun _ h => by cases h) dX3_lawOfWord_32
    ·
      replace hF := inn c_8 hF
      refine lv_iconst (v := 1) hx hb dX3_lawOfWord_20 (by decide) ?_
      rw [hQ]
      obtain e9_0 := inj1 hF
      exact W.iret (v := (1 : Int32)) hx hb hr (fun tt ht hW => ⟨_, rfl, e9_0, ht⟩) (fun _ h => by cases h) dX3_lawOfWord_21
  ·
    replace hF := inn c_4 hF
    refine lv_iconst (v := 0) hx hb dX3_lawOfWord_9 (by decide) ?_
    rw [hQ]
    obtain e9_0 := inj1 hF
    exact W.iret (v := (0 : Int32)) hx hb hr (fun tt ht hW => ⟨_, rfl, e9_0, ht⟩) (fun _ h => by cases h) dX3_lawOfWord_10

def F_X3_putInStep (p1 : Int32) (p2 : Int32) (c_steps : Nat → Int32) (c_stepCount : Int32) : Option ((Nat → Int32)) :=
  if (12 : Int32) ≤ c_stepCount then some c_steps else if p1 < (0 : Int32) then some c_steps else if (4 : Int32) ≤ p1 then some c_steps else ixF ((c_stepCount * (4 : Int32)) + p1) 48 (nmF (upd c_steps ((c_stepCount * (4 : Int32)) + p1).toNatClampNeg p2) (fun f_5 => some f_5))
abbrev w_X3_putInStep (E : EE) (a_ a_tape a_rules a_places a_steps : Nat) (c_siteCount : Int32) (c_stepCount : Int32) (c_seenRules : Int32) (c_at : Int32) (c_wordStart : Int32) (c_number : Int32) (c_failed : Int32) (c_steps : Nat → Int32) : va_W := [(a_, .inr (4, [.ref a_tape, .ref a_rules, .ref a_places, .ref a_steps, .int c_siteCount, .int c_stepCount, .int c_seenRules, .int c_at, .int c_wordStart, .int c_number, .int c_failed])), (a_steps, .inl (E.2.1, 48, .inl c_steps))]
def v_f_X3_putInStep : List Cond := List.cons (.code yX3_putInStep cX3_putInStep 3 none) (HAppend.hAppend (α := List Cond) (β := List Cond) (γ := List Cond) [.fieldLink RX3 25 "HushWatch$Reader" "stepCount" "I", .fieldLink RX3 18 "HushWatch$Reader" "steps" "[I"] (HAppend.hAppend (α := List Cond) (β := List Cond) (γ := List Cond) wsX30 []))
theorem gw_f_X3_putInStep : v_f_X3_putInStep.all goodWord = true := by decide +kernel
theorem i_f_X3_putInStep_X3 : ∀ w ∈ wsX30, w ∈ v_f_X3_putInStep := fun _ h => List.mem_cons_of_mem _ (List.mem_append_right _ (List.mem_append_left _ h))
theorem hd_X3_putInStep : yX3_putInStep.cls = RX3 ∧ yX3_putInStep.cls ≠ "java/lang/invoke/MethodHandle" ∧ yX3_putInStep.cls ≠ "java/lang/invoke/VarHandle" ∧ (parseMethodDescriptor yX3_putInStep.desc).map (fun d => d.parameters.length) = some 2 := by decide +kernel
set_option maxHeartbeats 4000000 in
set_option maxRecDepth 100000 in
theorem f_X3_putInStep (l : Launch) (E : EE) (sz : Nat) {a_ a_tape a_rules a_places a_steps : Nat} {p1 : Int32} {p2 : Int32} {c_siteCount : Int32} {c_stepCount : Int32} {c_seenRules : Int32} {c_at : Int32} {c_wordStart : Int32} {c_number : Int32} {c_failed : Int32} {c_steps : Nat → Int32} {n_steps : Nat → Int32} (hF : F_X3_putInStep p1 p2 c_steps c_stepCount = some n_steps) : Met l yX3_putInStep v_f_X3_putInStep (({ frames := 0, cells := 0, slots := 0, locals := 0 } : Room)) (va_Pc [.ref a_, .int p1, .int p2] (pW E sz (w_X3_putInStep E a_ a_tape a_rules a_places a_steps c_siteCount c_stepCount c_seenRules c_at c_wordStart c_number c_failed c_steps))) (va_Qv (fun (_u : Unit) => True) (fun (_u : Unit) tt => va_P E.1 vwCl (w_X3_putInStep E a_ a_tape a_rules a_places a_steps c_siteCount c_stepCount c_seenRules c_at c_wordStart c_number c_failed n_steps) tt.heap ∧ va_D (va_A (w_X3_putInStep E a_ a_tape a_rules a_places a_steps c_siteCount c_stepCount c_seenRules c_at c_wordStart c_number c_failed c_steps) sz) (w_X3_putInStep E a_ a_tape a_rules a_places a_steps c_siteCount c_stepCount c_seenRules c_at c_wordStart c_number c_failed n_steps)) (va_A (w_X3_putInStep E a_ a_tape a_rules a_places a_steps c_siteCount c_stepCount c_seenRules c_at c_wordStart c_number c_failed c_steps) sz)) 0 0 (va_A (w_X3_putInStep E a_ a_tape a_rules a_places a_steps c_siteCount c_stepCount c_seenRules c_at c_wordStart c_number c_failed c_steps) sz) := by
  refine Met.ofW (cc := cX3_putInStep) (maxL := 3) (ret := none) (by decide) rfl ?_
  intro p e s m args below meth c s₁ B hml hv
  obtain ⟨rfl, hsz, ⟨hK, hN⟩, hP, hD0⟩ := hv
  have hx := B.exec
  have hb := B.bytes
  have hr := B.returns
  have hts := atoms_spec (ws := v_f_X3_putInStep) B.pre
  have hown : s.vm.findClass RX3 = some m.cls := own_of hd_X3_putInStep.1 (findClass_of_methodNamed B.named)
  have hlocks : meth.locks = false := B.notSynchronized
  subst hsz
  have hD := hD0.self (sz := s.heap.size)
  generalize hAe : va_A (w_X3_putInStep E a_ a_tape a_rules a_places a_steps c_siteCount c_stepCount c_seenRules c_at c_wordStart c_number c_failed c_steps) s.heap.size = A at hD ⊢
  have hA : ∀ q : Nat, s.heap.size ≤ q → A q := fun q h => by rw [← hAe]; exact Or.inr h
  have hS : va_S A s.heap s.heap [] := va_S.rf
  have hl := lv_entry ([.ref a_, .int p1, .int p2]) (n := 3) (Nat.le_of_ble_eq_true rfl)
  rw [lg_entry_eq]
  generalize (lg_sl ([.ref a_, .int p1, .int p2]) ++ List.replicate (3 - (lg_sl ([.ref a_, .int p1, .int p2])).length) Slot.unset).toArray = ls at hl ⊢
  have hl : lv_has ls 3 [(0, .ref a_), (1, .int p1), (2, .int p2)] := hl
  obtain ⟨Q, hQ⟩ : ∃ Q : State → Prop, Q = MQ below (va_Qv (fun (_u : Unit) => True) (fun (_u : Unit) tt => va_P E.1 vwCl (w_X3_putInStep E a_ a_tape a_rules a_places a_steps c_siteCount c_stepCount c_seenRules c_at c_wordStart c_number c_failed n_steps) tt.heap ∧ va_D A (w_X3_putInStep E a_ a_tape a_rules a_places a_steps c_siteCount c_stepCount c_seenRules c_at c_wordStart c_number c_failed n_steps)) A) #[Value.ref a_, Value.int p1, Value.int p2] s 0 0 A := ⟨_, rfl⟩
  rw [← hQ]
  change W p l e ({ frames := 0, cells := 0, slots := 0, locals := 0 } : Room) s m #[Value.ref a_, Value.int p1, Value.int p2] below meth c s.heap [] 0 0 Q (F0 m 0 ls [])
  suffices hh9 : ∀ (H : Heap) (locs : List Loc), va_P E.1 vwCl (w_X3_putInStep E a_ a_tape a_rules a_places a_steps c_siteCount c_stepCount c_seenRules c_at c_wordStart c_number c_failed c_steps) H → va_D A (w_X3_putInStep E a_ a_tape a_rules a_places a_steps c_siteCount c_stepCount c_seenRules c_at c_wordStart c_number c_failed c_steps) → va_S A s.heap H locs → W p l e ({ frames := 0, cells := 0, slots := 0, locals := 0 } : Room) s m #[Value.ref a_, Value.int p1, Value.int p2] below meth c H locs 0 0 Q (F0 m 0 ls []) from hh9 s.heap [] hP hD hS
  clear hP hD hS
  intro H locs hP hD hS
  replace hP : va_P E.1 vwCl [(a_, .inr (4, [.ref a_tape, .ref a_rules, .ref a_places, .ref a_steps, .int c_siteCount, .int c_stepCount, .int c_seenRules, .int c_at, .int c_wordStart, .int c_number, .int c_failed])), (a_steps, .inl (E.2.1, 48, .inl c_steps))] H := hP
  replace hD : va_D A [(a_, .inr (4, [.ref a_tape, .ref a_rules, .ref a_places, .ref a_steps, .int c_siteCount, .int c_stepCount, .int c_seenRules, .int c_at, .int c_wordStart, .int c_number, .int c_failed])), (a_steps, .inl (E.2.1, 48, .inl c_steps))] := hD
  unfold F_X3_putInStep at hF
  refine lv_aload_n hx hb dX3_putInStep_0 rfl (lv_at hl 0 rfl) ?_
  refine gt_X3_5 (v := .int c_stepCount) hx hb hts i_f_X3_putInStep_X3 hown hK hP 0 rfl (hts (.fieldLink RX3 25 "HushWatch$Reader" "stepCount" "I") (List.mem_of_getElem? (i := 1) rfl)) rfl dX3_putInStep_1 ?_
  refine lv_bipush (v := 12) hx hb dX3_putInStep_4 (by decide) ?_
  refine lv_icmp_ge (tgt := 32) hx hb dX3_putInStep_6 (by decide) (fun c_1 => ?_) (fun c_1 => ?_)
  ·
    replace hF := ip c_1 hF
    rw [hQ]
    have h9 := fin9 (P := fun u9 : (Nat → Int32) => va_P E.1 vwCl (w_X3_putInStep E a_ a_tape a_rules a_places a_steps c_siteCount c_stepCount c_seenRules c_at c_wordStart c_number c_failed u9) H ∧ va_D A (w_X3_putInStep E a_ a_tape a_rules a_places a_steps c_siteCount c_stepCount c_seenRules c_at c_wordStart c_number c_failed u9)) hF ⟨hP, hD⟩
    obtain ⟨hP9, hD9⟩ := h9
    exact W.vret hx hb hr (fun tt ht hW => ⟨⟨(), rfl, trivial, ht ▸ hP9, hD9⟩, hS.F ht⟩) hS.2.2 dX3_putInStep_32
  ·
    replace hF := inn c_1 hF
    refine lv_iload_n hx hb dX3_putInStep_9 rfl (lv_at hl 1 rfl) ?_
    refine lv_if_lt (tgt := 32) hx hb dX3_putInStep_10 (by decide) (fun c_2 => ?_) (fun c_2 => ?_)
    ·
      replace hF := ip c_2 hF
      rw [hQ]
      have h9 := fin9 (P := fun u9 : (Nat → Int32) => va_P E.1 vwCl (w_X3_putInStep E a_ a_tape a_rules a_places a_steps c_siteCount c_stepCount c_seenRules c_at c_wordStart c_number c_failed u9) H ∧ va_D A (w_X3_putInStep E a_ a_tape a_rules a_places a_steps c_siteCount c_stepCount c_seenRules c_at c_wordStart c_number c_failed u9)) hF ⟨hP, hD⟩
      obtain ⟨hP9, hD9⟩ := h9
      exact W.vret hx hb hr (fun tt ht hW => ⟨⟨(), rfl, trivial, ht ▸ hP9, hD9⟩, hS.F ht⟩) hS.2.2 dX3_putInStep_32
    ·
      replace hF := inn c_2 hF
      refine lv_iload_n hx hb dX3_putInStep_13 rfl (lv_at hl 1 rfl) ?_
      refine lv_iconst (v := 4) hx hb dX3_putInStep_14 (by decide) ?_
      refine lv_icmp_ge (tgt := 32) hx hb dX3_putInStep_15 (by decide) (fun c_3 => ?_) (fun c_3 => ?_)
      ·
        replace hF := ip c_3 hF
        rw [hQ]
        have h9 := fin9 (P := fun u9 : (Nat → Int32) => va_P E.1 vwCl (w_X3_putInStep E a_ a_tape a_rules a_places a_steps c_siteCount c_stepCount c_seenRules c_at c_wordStart c_number c_failed u9) H ∧ va_D A (w_X3_putInStep E a_ a_tape a_rules a_places a_steps c_siteCount c_stepCount c_seenRules c_at c_wordStart c_number c_failed u9)) hF ⟨hP, hD⟩
        obtain ⟨hP9, hD9⟩ := h9
        exact W.vret hx hb hr (fun tt ht hW => ⟨⟨(), rfl, trivial, ht ▸ hP9, hD9⟩, hS.F ht⟩) hS.2.2 dX3_putInStep_32
      ·
        replace hF := inn c_3 hF
        refine lv_aload_n hx hb dX3_putInStep_18 rfl (lv_at hl 0 rfl) ?_
        refine gt_X3_3 (v := .ref a_steps) hx hb hts i_f_X3_putInStep_X3 hown hK hP 0 rfl (hts (.fieldLink RX3 18 "HushWatch$Reader" "steps" "[I") (List.mem_of_getElem? (i := 2) rfl)) rfl dX3_putInStep_19 ?_
        refine lv_aload_n hx hb dX3_putInStep_22 rfl (lv_at hl 0 rfl) ?_
        refine gt_X3_5 (v := .int c_stepCount) hx hb hts i_f_X3_putInStep_X3 hown hK hP 0 rfl (hts (.fieldLink RX3 25 "HushWatch$Reader" "stepCount" "I") (List.mem_of_getElem? (i := 1) rfl)) rfl dX3_putInStep_23 ?_
        refine lv_iconst (v := 4) hx hb dX3_putInStep_26 (by decide) ?_
        refine lv_imul hx hb dX3_putInStep_27 ?_
        refine lv_iload_n hx hb dX3_putInStep_28 rfl (lv_at hl 1 rfl) ?_
        refine lv_iadd hx hb dX3_putInStep_29 ?_
        refine lv_iload_n hx hb dX3_putInStep_30 rfl (lv_at hl 2 rfl) ?_
        replace hF := ix_s hF
        obtain ⟨hi_4, hF⟩ := hF
        refine va_iast hx hb hK hP hD hS 1 0 rfl rfl hi_4 dX3_putInStep_31 (fun H locs hP hD hS => ?_)
        replace hP : va_P E.1 vwCl [(a_, .inr (4, [.ref a_tape, .ref a_rules, .ref a_places, .ref a_steps, .int c_siteCount, .int c_stepCount, .int c_seenRules, .int c_at, .int c_wordStart, .int c_number, .int c_failed])), (a_steps, .inl (E.2.1, 48, .inl (upd c_steps ((c_stepCount * (4 : Int32)) + p1).toNatClampNeg p2)))] H := hP
        replace hD : va_D A [(a_, .inr (4, [.ref a_tape, .ref a_rules, .ref a_places, .ref a_steps, .int c_siteCount, .int c_stepCount, .int c_seenRules, .int c_at, .int c_wordStart, .int c_number, .int c_failed])), (a_steps, .inl (E.2.1, 48, .inl (upd c_steps ((c_stepCount * (4 : Int32)) + p1).toNatClampNeg p2)))] := hD
        replace hF := nm_s hF
        obtain ⟨f_5, hf_5, hF⟩ := hF
        rw [← hf_5] at hP hD
        rw [hQ]
        have h9 := fin9 (P := fun u9 : (Nat → Int32) => va_P E.1 vwCl (w_X3_putInStep E a_ a_tape a_rules a_places a_steps c_siteCount c_stepCount c_seenRules c_at c_wordStart c_number c_failed u9) H ∧ va_D A (w_X3_putInStep E a_ a_tape a_rules a_places a_steps c_siteCount c_stepCount c_seenRules c_at c_wordStart c_number c_failed u9)) hF ⟨hP, hD⟩
        obtain ⟨hP9, hD9⟩ := h9
        exact W.vret hx hb hr (fun tt ht hW => ⟨⟨(), rfl, trivial, ht ▸ hP9, hD9⟩, hS.F ht⟩) hS.2.2 dX3_putInStep_32

def B_X3_readWord_12 (c_tape_length : Int32) (c_tape_bytes : Nat → Int32) (c_at : Int32) : Option ((Int32) ⊕ (Int32)) :=
  if c_tape_length ≤ c_at then some (.inr c_at) else bd1 (F_X6_signAt c_at c_tape_bytes c_tape_length) (fun r_4 => bd1 (F_X3_isLetter r_4) (fun r_6 => if r_6 = (0 : Int32) then some (.inr c_at) else some (.inl (c_at + (1 : Int32)))))
def J_X3_readWord_56 (c_at : Int32) (c_wordStart : Int32) (c_failed : Int32) : Option (Int32 × Int32 × Int32 × Int32) :=
  if c_wordStart < c_at then some ((1 : Int32), c_at, c_wordStart, c_failed) else bd2 (F_X3_failAt c_at c_failed) (fun r_13 w_14 => if r_13 = (0 : Int32) then some ((0 : Int32), c_at, c_wordStart, w_14) else some ((1 : Int32), c_at, c_wordStart, w_14))
def F_X3_readWord (K : Nat) (c_tape_bytes : Nat → Int32) (c_tape_length : Int32) (c_at : Int32) (c_wordStart : Int32) (c_failed : Int32) : Option (Int32 × Int32 × Int32 × Int32) :=
  bd1 (F_X3_skipBlanks K c_tape_bytes c_tape_length c_at) (fun w_1 => bd1 (lpF (fun u9 : Int32 => B_X3_readWord_12 c_tape_length c_tape_bytes u9) K w_1) (fun c_at_10 => J_X3_readWord_56 c_at_10 w_1 c_failed))
abbrev w_X3_readWord (E : EE) (a_ a_tape a_rules a_places a_steps a_tape_bytes : Nat) (c_siteCount : Int32) (c_stepCount : Int32) (c_seenRules : Int32) (c_at : Int32) (c_wordStart : Int32) (c_number : Int32) (c_failed : Int32) (c_tape_length : Int32) (c_tape_bytes : Nat → Int32) : va_W := [(a_, .inr (4, [.ref a_tape, .ref a_rules, .ref a_places, .ref a_steps, .int c_siteCount, .int c_stepCount, .int c_seenRules, .int c_at, .int c_wordStart, .int c_number, .int c_failed])), (a_tape, .inr (7, [.ref a_tape_bytes, .int c_tape_length])), (a_tape_bytes, .inl (E.2.2.1, 320, .inl c_tape_bytes))]
def v_f_X3_readWord : List Cond := List.cons (.code yX3_readWord cX3_readWord 1 (some .boolean)) (HAppend.hAppend (α := List Cond) (β := List Cond) (γ := List Cond) [.fieldLink RX3 31 "HushWatch$Reader" "at" "I", .fieldLink RX3 34 "HushWatch$Reader" "wordStart" "I", .fieldLink RX3 43 "HushWatch$Reader" "tape" "LHushWatch$Tape;", .methodLink RX3 140 yX3_skipBlanks, .instanceMethod yX3_skipBlanks, .selects RX3 yX3_skipBlanks yX3_skipBlanks, .initialized RX3, .methodLink RX3 143 yX6_signAt, .instanceMethod yX6_signAt, .selects RX6 yX6_signAt yX6_signAt, .initialized RX6, .methodLink RX3 147 yX3_isLetter, .static yX3_isLetter, .methodLink RX3 87 yX3_failAt, .instanceMethod yX3_failAt, .selects RX3 yX3_failAt yX3_failAt] (HAppend.hAppend (α := List Cond) (β := List Cond) (γ := List Cond) v_f_X3_skipBlanks (HAppend.hAppend (α := List Cond) (β := List Cond) (γ := List Cond) wsX30 (HAppend.hAppend (α := List Cond) (β := List Cond) (γ := List Cond) wsX60 (HAppend.hAppend (α := List Cond) (β := List Cond) (γ := List Cond) v_f_X6_signAt (HAppend.hAppend (α := List Cond) (β := List Cond) (γ := List Cond) v_f_X3_isLetter (HAppend.hAppend (α := List Cond) (β := List Cond) (γ := List Cond) v_f_X3_failAt [])))))))
theorem gw_f_X3_readWord : v_f_X3_readWord.all goodWord = true := by decide +kernel
theorem i_f_X3_readWord_X3 : ∀ w ∈ wsX30, w ∈ v_f_X3_readWord := fun _ h => List.mem_cons_of_mem _ (List.mem_append_right _ (List.mem_append_right _ (List.mem_append_left _ h)))
theorem i_f_X3_readWord_X6 : ∀ w ∈ wsX60, w ∈ v_f_X3_readWord := fun _ h => List.mem_cons_of_mem _ (List.mem_append_right _ (List.mem_append_right _ (List.mem_append_right _ (List.mem_append_left _ h))))
theorem g_f_X3_readWord_f_X3_skipBlanks_140 : GoodIn v_f_X3_readWord (wsV RX3 140 RX3 yX3_skipBlanks v_f_X3_skipBlanks) := goodIn_app (goodIn_of _ (by decide +kernel)) (goodIn_sub (fun _ h => List.mem_cons_of_mem _ (List.mem_append_right _ (List.mem_append_left _ h))) gw_f_X3_skipBlanks)
theorem g_f_X3_readWord_f_X6_signAt_143 : GoodIn v_f_X3_readWord (wsV RX3 143 RX6 yX6_signAt v_f_X6_signAt) := goodIn_app (goodIn_of _ (by decide +kernel)) (goodIn_sub (fun _ h => List.mem_cons_of_mem _ (List.mem_append_right _ (List.mem_append_right _ (List.mem_append_right _ (List.mem_append_right _ (List.mem_append_left _ h)))))) gw_f_X6_signAt)
theorem g_f_X3_readWord_f_X3_isLetter_147 : GoodIn v_f_X3_readWord (va_wsS RX3 147 yX3_isLetter v_f_X3_isLetter) := goodIn_app (goodIn_of _ (by decide +kernel)) (goodIn_sub (fun _ h => List.mem_cons_of_mem _ (List.mem_append_right _ (List.mem_append_right _ (List.mem_append_right _ (List.mem_append_right _ (List.mem_append_right _ (List.mem_append_left _ h))))))) gw_f_X3_isLetter)
theorem g_f_X3_readWord_f_X3_failAt_87 : GoodIn v_f_X3_readWord (wsV RX3 87 RX3 yX3_failAt v_f_X3_failAt) := goodIn_app (goodIn_of _ (by decide +kernel)) (goodIn_sub (fun _ h => List.mem_cons_of_mem _ (List.mem_append_right _ (List.mem_append_right _ (List.mem_append_right _ (List.mem_append_right _ (List.mem_append_right _ (List.mem_append_right _ (List.mem_append_left _ h)))))))) gw_f_X3_failAt)
theorem hd_X3_readWord : yX3_readWord.cls = RX3 ∧ yX3_readWord.cls ≠ "java/lang/invoke/MethodHandle" ∧ yX3_readWord.cls ≠ "java/lang/invoke/VarHandle" ∧ (parseMethodDescriptor yX3_readWord.desc).map (fun d => d.parameters.length) = some 0 := by decide +kernel
set_option maxHeartbeats 4000000 in
set_option maxRecDepth 100000 in
theorem wb_X3_readWord_12 {p : Program} (l : Launch) {e : Env} {s : State} {m : MethodId} {below : List Frame} {meth : Method} {c : Code} {Q : State → Prop} (E : EE) (K : Nat) {a_ a_tape a_rules a_places a_steps a_tape_bytes : Nat} {c_siteCount : Int32} {c_stepCount : Int32} {c_seenRules : Int32} {c_number : Int32} {c_tape_length : Int32} {c_tape_bytes : Nat → Int32} {c_at : Int32} {c_wordStart : Int32} {c_failed : Int32} (hx : p.tables.exec = Jvm.exec) (hb : c.code = cX3_readWord) (hml : c.maxLocals = 1) (hown : s.vm.findClass RX3 = some m.cls) (hts : ∀ w ∈ v_f_X3_readWord, w.before #[Value.ref a_] s = true) (hK : va_K E.1 vwCl (TY E) s) (hN : NX s) {A : Nat → Prop} (hA : ∀ q : Nat, s.heap.size ≤ q → A q) {xx : (Int32) ⊕ (Int32)} (hC : ∀ (c_at : Int32), xx = .inl c_at → ∀ (H : Heap) (locs : List Loc) (ls : Array Slot), va_P E.1 vwCl (w_X3_readWord E a_ a_tape a_rules a_places a_steps a_tape_bytes c_siteCount c_stepCount c_seenRules c_at c_wordStart c_number c_failed c_tape_length c_tape_bytes) H → va_D A (w_X3_readWord E a_ a_tape a_rules a_places a_steps a_tape_bytes c_siteCount c_stepCount c_seenRules c_at c_wordStart c_number c_failed c_tape_length c_tape_bytes) → va_S A s.heap H locs → lv_has ls 1 [(0, .ref a_)] → W p l e ({ frames := 2, cells := 0, slots := 0, locals := 41 } : Room) s m #[Value.ref a_] below meth c H locs 0 0 Q (F0 m 12 ls [])) (hE : ∀ (c_at : Int32), xx = .inr c_at → ((∀ (H : Heap) (locs : List Loc) (ls : Array Slot), va_P E.1 vwCl (w_X3_readWord E a_ a_tape a_rules a_places a_steps a_tape_bytes c_siteCount c_stepCount c_seenRules c_at c_wordStart c_number c_failed c_tape_length c_tape_bytes) H → va_D A (w_X3_readWord E a_ a_tape a_rules a_places a_steps a_tape_bytes c_siteCount c_stepCount c_seenRules c_at c_wordStart c_number c_failed c_tape_length c_tape_bytes) → va_S A s.heap H locs → lv_has ls 1 [(0, .ref a_)] → W p l e ({ frames := 2, cells := 0, slots := 0, locals := 41 } : Room) s m #[Value.ref a_] below meth c H locs 0 0 Q (F0 m 56 ls [])))) (hF : B_X3_readWord_12 c_tape_length c_tape_bytes c_at = some xx) : ∀ (H : Heap) (locs : List Loc) (ls : Array Slot), va_P E.1 vwCl (w_X3_readWord E a_ a_tape a_rules a_places a_steps a_tape_bytes c_siteCount c_stepCount c_seenRules c_at c_wordStart c_number c_failed c_tape_length c_tape_bytes) H → va_D A (w_X3_readWord E a_ a_tape a_rules a_places a_steps a_tape_bytes c_siteCount c_stepCount c_seenRules c_at c_wordStart c_number c_failed c_tape_length c_tape_bytes) → va_S A s.heap H locs → lv_has ls 1 [(0, .ref a_)] → W p l e ({ frames := 2, cells := 0, slots := 0, locals := 41 } : Room) s m #[Value.ref a_] below meth c H locs 0 0 Q (F0 m 12 ls []) := by
  unfold B_X3_readWord_12 at hF
  intro H locs ls hP hD hS hl
  replace hP : va_P E.1 vwCl [(a_, .inr (4, [.ref a_tape, .ref a_rules, .ref a_places, .ref a_steps, .int c_siteCount, .int c_stepCount, .int c_seenRules, .int c_at, .int c_wordStart, .int c_number, .int c_failed])), (a_tape, .inr (7, [.ref a_tape_bytes, .int c_tape_length])), (a_tape_bytes, .inl (E.2.2.1, 320, .inl c_tape_bytes))] H := hP
  replace hD : va_D A [(a_, .inr (4, [.ref a_tape, .ref a_rules, .ref a_places, .ref a_steps, .int c_siteCount, .int c_stepCount, .int c_seenRules, .int c_at, .int c_wordStart, .int c_number, .int c_failed])), (a_tape, .inr (7, [.ref a_tape_bytes, .int c_tape_length])), (a_tape_bytes, .inl (E.2.2.1, 320, .inl c_tape_bytes))] := hD
  refine lv_aload_n hx hb dX3_readWord_12 rfl (lv_at hl 0 rfl) ?_
  refine gt_X3_7 (v := .int c_at) hx hb hts i_f_X3_readWord_X3 hown hK hP 0 rfl (hts (.fieldLink RX3 31 "HushWatch$Reader" "at" "I") (List.mem_of_getElem? (i := 1) rfl)) rfl dX3_readWord_13 ?_
  refine lv_aload_n hx hb dX3_readWord_16 rfl (lv_at hl 0 rfl) ?_
  refine gt_X3_0 (v := .ref a_tape) hx hb hts i_f_X3_readWord_X3 hown hK hP 0 rfl (hts (.fieldLink RX3 43 "HushWatch$Reader" "tape" "LHushWatch$Tape;") (List.mem_of_getElem? (i := 3) rfl)) rfl dX3_readWord_17 ?_
  refine va_getN (D := E.1) (ci := 7) (v := .int c_tape_length) (C := RX6) (T := TX6) (N := 2) hx hb hts i_f_X3_readWord_X6 hown hK hP 1 rfl rfl 1 (by decide) (nx hN 2 rfl) (fun _ h9 => h9) rfl dX3_readWord_20 ?_
  refine lv_icmp_ge (tgt := 56) hx hb dX3_readWord_23 (by decide) (fun c_3 => ?_) (fun c_3 => ?_)
  ·
    replace hF := ip c_3 hF
    cases hF
    exact hE c_at rfl H locs ls (hP.sub [0, 1, 2] rfl) (hD.sub [0, 1, 2] (by decide) rfl) hS (lv_sub hl [0] rfl)
  ·
    replace hF := inn c_3 hF
    refine lv_aload_n hx hb dX3_readWord_26 rfl (lv_at hl 0 rfl) ?_
    refine gt_X3_0 (v := .ref a_tape) hx hb hts i_f_X3_readWord_X3 hown hK hP 0 rfl (hts (.fieldLink RX3 43 "HushWatch$Reader" "tape" "LHushWatch$Tape;") (List.mem_of_getElem? (i := 3) rfl)) rfl dX3_readWord_27 ?_
    refine lv_aload_n hx hb dX3_readWord_30 rfl (lv_at hl 0 rfl) ?_
    refine gt_X3_7 (v := .int c_at) hx hb hts i_f_X3_readWord_X3 hown hK hP 0 rfl (hts (.fieldLink RX3 31 "HushWatch$Reader" "at" "I") (List.mem_of_getElem? (i := 1) rfl)) rfl dX3_readWord_31 ?_
    replace hF := bd1_s hF
    obtain ⟨r_4, hc_5, hF⟩ := hF
    have hPc : va_P E.1 vwCl (w_X6_signAt E a_tape a_tape_bytes c_tape_length c_tape_bytes) H := hP.sub (ws' := [(a_tape, .inr (7, [.ref a_tape_bytes, .int c_tape_length])), (a_tape_bytes, .inl (E.2.2.1, 320, .inl c_tape_bytes))]) [1, 2] rfl
    have hrc := va_recv hK hPc (ci := 7) (q0 := 0) rfl rfl
    refine pE_i (va_runV (As := [.int c_at]) (rest := [])  ⟨hx, hb, hml, hown, hts⟩ (f_X6_signAt l E (a_ := a_tape) (a_bytes := a_tape_bytes) (p1 := c_at) (c_length := c_tape_length) (c_bytes := c_tape_bytes) hc_5) (cwV 1 hts g_f_X3_readWord_f_X6_signAt_143 rfl rfl rfl hd_X6_signAt ⟨Nat.le_of_ble_eq_true rfl, Nat.le_of_ble_eq_true rfl⟩) ⟨pP.blind, hrc, (pP.pre ⟨hK, hN⟩ hPc)⟩ rfl rfl hl.1 rfl (lv_room (Nat.le_of_ble_eq_true rfl)) dX3_readWord_34 ⟨Nat.le_of_ble_eq_true rfl, Nat.le_of_ble_eq_true rfl⟩) ?_
    replace hF := bd1_s hF
    obtain ⟨r_6, hc_7, hF⟩ := hF
    have hPc : va_P E.1 vwCl [] H := fun k q h => by simp at h
    refine pE_z (va_runS (As := [.int r_4]) (rest := [])  ⟨hx, hb, hml, hown, hts⟩ (f_X3_isLetter l E (p0 := r_4) hc_7) (va_cwS 1 hts g_f_X3_readWord_f_X3_isLetter_147 rfl rfl rfl hd_X3_isLetter.2 ⟨Nat.le_of_ble_eq_true rfl, Nat.le_of_ble_eq_true rfl⟩) ⟨pP.blind, (pP.pre ⟨hK, hN⟩ hPc)⟩ rfl rfl hl.1 rfl (lv_room (Nat.le_of_ble_eq_true rfl)) dX3_readWord_37 ⟨Nat.le_of_ble_eq_true rfl, Nat.le_of_ble_eq_true rfl⟩) (fun hb_8 => ?_)
    refine lv_if_eq (tgt := 56) hx hb dX3_readWord_40 (by decide) (fun c_9 => ?_) (fun c_9 => ?_)
    ·
      replace hF := ip c_9 hF
      cases hF
      exact hE c_at rfl H locs ls (hP.sub [0, 1, 2] rfl) (hD.sub [0, 1, 2] (by decide) rfl) hS (lv_sub hl [0] rfl)
    ·
      replace hF := inn c_9 hF
      refine lv_aload_n hx hb dX3_readWord_43 rfl (lv_at hl 0 rfl) ?_
      refine lv_dup hx hb dX3_readWord_44 rfl ?_
      refine gt_X3_7 (v := .int c_at) hx hb hts i_f_X3_readWord_X3 hown hK hP 0 rfl (hts (.fieldLink RX3 31 "HushWatch$Reader" "at" "I") (List.mem_of_getElem? (i := 1) rfl)) rfl dX3_readWord_45 ?_
      refine lv_iconst (v := 1) hx hb dX3_readWord_48 (by decide) ?_
      refine lv_iadd hx hb dX3_readWord_49 ?_
      refine pt_X3_7 (v := .int (c_at + (1 : Int32))) hx hb hts i_f_X3_readWord_X3 hown hK hP hD hS 0 rfl (hts (.fieldLink RX3 31 "HushWatch$Reader" "at" "I") (List.mem_of_getElem? (i := 1) rfl)) rfl rfl (Nat.le_of_ble_eq_true rfl) dX3_readWord_50 (fun H locs hP hD hS => ?_)
      replace hP : va_P E.1 vwCl [(a_, .inr (4, [.ref a_tape, .ref a_rules, .ref a_places, .ref a_steps, .int c_siteCount, .int c_stepCount, .int c_seenRules, .int (c_at + (1 : Int32)), .int c_wordStart, .int c_number, .int c_failed])), (a_tape, .inr (7, [.ref a_tape_bytes, .int c_tape_length])), (a_tape_bytes, .inl (E.2.2.1, 320, .inl c_tape_bytes))] H := hP
      replace hD : va_D A [(a_, .inr (4, [.ref a_tape, .ref a_rules, .ref a_places, .ref a_steps, .int c_siteCount, .int c_stepCount, .int c_seenRules, .int (c_at + (1 : Int32)), .int c_wordStart, .int c_number, .int c_failed])), (a_tape, .inr (7, [.ref a_tape_bytes, .int c_tape_length])), (a_tape_bytes, .inl (E.2.2.1, 320, .inl c_tape_bytes))] := hD
      refine lv_goto (tgt := 12) hx hb dX3_readWord_53 (by decide) ?_
      cases hF
      exact hC (c_at + (1 : Int32)) rfl H locs ls (hP.sub [0, 1, 2] rfl) (hD.sub [0, 1, 2] (by decide) rfl) hS (lv_sub hl [0] rfl)

set_option maxHeartbeats 4000000 in
set_option maxRecDepth 100000 in
theorem lw_X3_readWord_12 {p : Program} (l : Launch) {e : Env} {s : State} {m : MethodId} {below : List Frame} {meth : Method} {c : Code} {Q : State → Prop} (E : EE) (K : Nat) {a_ a_tape a_rules a_places a_steps a_tape_bytes : Nat} {c_siteCount : Int32} {c_stepCount : Int32} {c_seenRules : Int32} {c_number : Int32} {c_tape_length : Int32} {c_tape_bytes : Nat → Int32} {c_wordStart : Int32} {c_failed : Int32} (hx : p.tables.exec = Jvm.exec) (hb : c.code = cX3_readWord) (hml : c.maxLocals = 1) (hown : s.vm.findClass RX3 = some m.cls) (hts : ∀ w ∈ v_f_X3_readWord, w.before #[Value.ref a_] s = true) (hK : va_K E.1 vwCl (TY E) s) (hN : NX s) {A : Nat → Prop} (hA : ∀ q : Nat, s.heap.size ≤ q → A q) (j9 : Nat) (c_at : Int32) (c_at' : Int32) (hL : lpF (fun u9 : Int32 => B_X3_readWord_12 c_tape_length c_tape_bytes u9) j9 c_at = some c_at') (hX : (∀ (H : Heap) (locs : List Loc) (ls : Array Slot), va_P E.1 vwCl (w_X3_readWord E a_ a_tape a_rules a_places a_steps a_tape_bytes c_siteCount c_stepCount c_seenRules c_at' c_wordStart c_number c_failed c_tape_length c_tape_bytes) H → va_D A (w_X3_readWord E a_ a_tape a_rules a_places a_steps a_tape_bytes c_siteCount c_stepCount c_seenRules c_at' c_wordStart c_number c_failed c_tape_length c_tape_bytes) → va_S A s.heap H locs → lv_has ls 1 [(0, .ref a_)] → W p l e ({ frames := 2, cells := 0, slots := 0, locals := 41 } : Room) s m #[Value.ref a_] below meth c H locs 0 0 Q (F0 m 56 ls []))) : ∀ (H : Heap) (locs : List Loc) (ls : Array Slot), va_P E.1 vwCl (w_X3_readWord E a_ a_tape a_rules a_places a_steps a_tape_bytes c_siteCount c_stepCount c_seenRules c_at c_wordStart c_number c_failed c_tape_length c_tape_bytes) H → va_D A (w_X3_readWord E a_ a_tape a_rules a_places a_steps a_tape_bytes c_siteCount c_stepCount c_seenRules c_at c_wordStart c_number c_failed c_tape_length c_tape_bytes) → va_S A s.heap H locs → lv_has ls 1 [(0, .ref a_)] → W p l e ({ frames := 2, cells := 0, slots := 0, locals := 41 } : Room) s m #[Value.ref a_] below meth c H locs 0 0 Q (F0 m 12 ls []) := by
  exact lp_rule (P := (fun u9 : Int32 => ∀ (H : Heap) (locs : List Loc) (ls : Array Slot), va_P E.1 vwCl (w_X3_readWord E a_ a_tape a_rules a_places a_steps a_tape_bytes c_siteCount c_stepCount c_seenRules u9 c_wordStart c_number c_failed c_tape_length c_tape_bytes) H → va_D A (w_X3_readWord E a_ a_tape a_rules a_places a_steps a_tape_bytes c_siteCount c_stepCount c_seenRules u9 c_wordStart c_number c_failed c_tape_length c_tape_bytes) → va_S A s.heap H locs → lv_has ls 1 [(0, .ref a_)] → W p l e ({ frames := 2, cells := 0, slots := 0, locals := 41 } : Room) s m #[Value.ref a_] below meth c H locs 0 0 Q (F0 m 12 ls []))) (R := (fun r9 : Int32 => (∀ (H : Heap) (locs : List Loc) (ls : Array Slot), va_P E.1 vwCl (w_X3_readWord E a_ a_tape a_rules a_places a_steps a_tape_bytes c_siteCount c_stepCount c_seenRules r9 c_wordStart c_number c_failed c_tape_length c_tape_bytes) H → va_D A (w_X3_readWord E a_ a_tape a_rules a_places a_steps a_tape_bytes c_siteCount c_stepCount c_seenRules r9 c_wordStart c_number c_failed c_tape_length c_tape_bytes) → va_S A s.heap H locs → lv_has ls 1 [(0, .ref a_)] → W p l e ({ frames := 2, cells := 0, slots := 0, locals := 41 } : Room) s m #[Value.ref a_] below meth c H locs 0 0 Q (F0 m 56 ls [])))) (fun u9 xx hF hC hE => wb_X3_readWord_12 l E K (c_siteCount := c_siteCount) (c_stepCount := c_stepCount) (c_seenRules := c_seenRules) (c_number := c_number) (c_tape_length := c_tape_length) (c_tape_bytes := c_tape_bytes) (c_at := u9) (c_wordStart := c_wordStart) (c_failed := c_failed) hx hb hml hown hts hK hN hA (fun c_at q9 => hC _ q9) (fun c_at q9 => hE _ q9) hF) j9 c_at c_at' hL hX

set_option maxHeartbeats 4000000 in
set_option maxRecDepth 100000 in
theorem j_X3_readWord_56 {p : Program} (l : Launch) {e : Env} {s : State} {m : MethodId} {below : List Frame} {meth : Method} {c : Code} {Q : State → Prop} (E : EE) (K : Nat) {a_ a_tape a_rules a_places a_steps a_tape_bytes : Nat} {c_siteCount : Int32} {c_stepCount : Int32} {c_seenRules : Int32} {c_number : Int32} {c_tape_length : Int32} {c_tape_bytes : Nat → Int32} {c_at : Int32} {c_wordStart : Int32} {c_failed : Int32} (hx : p.tables.exec = Jvm.exec) (hb : c.code = cX3_readWord) (hml : c.maxLocals = 1) (hown : s.vm.findClass RX3 = some m.cls) (hts : ∀ w ∈ v_f_X3_readWord, w.before #[Value.ref a_] s = true) (hK : va_K E.1 vwCl (TY E) s) (hN : NX s) {A : Nat → Prop} (hA : ∀ q : Nat, s.heap.size ≤ q → A q) {rr : Int32} {n_at : Int32} {n_wordStart : Int32} {n_failed : Int32} (hr : meth.sig.returnType = (some .boolean)) (hlocks : meth.locks = false) (hQ : Q = MQ below (va_Qi (fun (q : Int32) (_u : Unit) => q = rr ∧ (q = 0 ∨ q = 1)) (fun (_u : Unit) tt => va_P E.1 vwCl (w_X3_readWord E a_ a_tape a_rules a_places a_steps a_tape_bytes c_siteCount c_stepCount c_seenRules n_at n_wordStart c_number n_failed c_tape_length c_tape_bytes) tt.heap ∧ va_D A (w_X3_readWord E a_ a_tape a_rules a_places a_steps a_tape_bytes c_siteCount c_stepCount c_seenRules n_at n_wordStart c_number n_failed c_tape_length c_tape_bytes)) A) #[Value.ref a_] s 0 0 A) (hF : J_X3_readWord_56 c_at c_wordStart c_failed = some (rr, n_at, n_wordStart, n_failed)) : ∀ (H : Heap) (locs : List Loc) (ls : Array Slot), va_P E.1 vwCl (w_X3_readWord E a_ a_tape a_rules a_places a_steps a_tape_bytes c_siteCount c_stepCount c_seenRules c_at c_wordStart c_number c_failed c_tape_length c_tape_bytes) H → va_D A (w_X3_readWord E a_ a_tape a_rules a_places a_steps a_tape_bytes c_siteCount c_stepCount c_seenRules c_at c_wordStart c_number c_failed c_tape_length c_tape_bytes) → va_S A s.heap H locs → lv_has ls 1 [(0, .ref a_)] → W p l e ({ frames := 2, cells := 0, slots := 0, locals := 41 } : Room) s m #[Value.ref a_] below meth c H locs 0 0 Q (F0 m 56 ls []) := by
  unfold J_X3_readWord_56 at hF
  intro H locs ls hP hD hS hl
  replace hP : va_P E.1 vwCl [(a_, .inr (4, [.ref a_tape, .ref a_rules, .ref a_places, .ref a_steps, .int c_siteCount, .int c_stepCount, .int c_seenRules, .int c_at, .int c_wordStart, .int c_number, .int c_failed])), (a_tape, .inr (7, [.ref a_tape_bytes, .int c_tape_length])), (a_tape_bytes, .inl (E.2.2.1, 320, .inl c_tape_bytes))] H := hP
  replace hD : va_D A [(a_, .inr (4, [.ref a_tape, .ref a_rules, .ref a_places, .ref a_steps, .int c_siteCount, .int c_stepCount, .int c_seenRules, .int c_at, .int c_wordStart, .int c_number, .int c_failed])), (a_tape, .inr (7, [.ref a_tape_bytes, .int c_tape_length])), (a_tape_bytes, .inl (E.2.2.1, 320, .inl c_tape_bytes))] := hD
  refine lv_aload_n hx hb dX3_readWord_56 rfl (lv_at hl 0 rfl) ?_
  refine gt_X3_7 (v := .int c_at) hx hb hts i_f_X3_readWord_X3 hown hK hP 0 rfl (hts (.fieldLink RX3 31 "HushWatch$Reader" "at" "I") (List.mem_of_getElem? (i := 1) rfl)) rfl dX3_readWord_57 ?_
  refine lv_aload_n hx hb dX3_readWord_60 rfl (lv_at hl 0 rfl) ?_
  refine gt_X3_8 (v := .int c_wordStart) hx hb hts i_f_X3_readWord_X3 hown hK hP 0 rfl (hts (.fieldLink RX3 34 "HushWatch$Reader" "wordStart" "I") (List.mem_of_getElem? (i := 2) rfl)) rfl dX3_readWord_61 ?_
  refine lv_icmp_gt (tgt := 78) hx hb dX3_readWord_64 (by decide) (fun c_12 => ?_) (fun c_12 => ?_)
  ·
    replace hF := ip c_12 hF
    refine lv_iconst (v := 1) hx hb dX3_readWord_78 (by decide) ?_
    refine lv_goto (tgt := 83) hx hb dX3_readWord_79 (by decide) ?_
    rw [hQ]
    have h9 := fin9 (P := fun u9 : Int32 × Int32 × Int32 × Int32 => (1 : Int32) = u9.1 ∧ va_P E.1 vwCl (w_X3_readWord E a_ a_tape a_rules a_places a_steps a_tape_bytes c_siteCount c_stepCount c_seenRules u9.2.1 u9.2.2.1 c_number u9.2.2.2 c_tape_length c_tape_bytes) H ∧ va_D A (w_X3_readWord E a_ a_tape a_rules a_places a_steps a_tape_bytes c_siteCount c_stepCount c_seenRules u9.2.1 u9.2.2.1 c_number u9.2.2.2 c_tape_length c_tape_bytes)) hF ⟨rfl, hP, hD⟩
    obtain ⟨e9_0, hP9, hD9⟩ := h9
    exact W.zret (v := (1 : Int32)) hx hb hr rfl (fun tt ht hW => ⟨⟨_, (), rfl, ⟨e9_0, Or.inr rfl⟩, ht ▸ hP9, hD9⟩, hS.F ht⟩) hS.2.2 dX3_readWord_83
  ·
    replace hF := inn c_12 hF
    refine lv_aload_n hx hb dX3_readWord_67 rfl (lv_at hl 0 rfl) ?_
    refine lv_aload_n hx hb dX3_readWord_68 rfl (lv_at hl 0 rfl) ?_
    refine gt_X3_7 (v := .int c_at) hx hb hts i_f_X3_readWord_X3 hown hK hP 0 rfl (hts (.fieldLink RX3 31 "HushWatch$Reader" "at" "I") (List.mem_of_getElem? (i := 1) rfl)) rfl dX3_readWord_69 ?_
    replace hF := bd2_s hF
    obtain ⟨r_13, w_14, hc_15, hF⟩ := hF
    obtain ⟨hPc, hDc, hFc⟩ := wcut (wc := (w_X3_failAt E a_ a_tape a_rules a_places a_steps c_siteCount c_stepCount c_seenRules c_at c_wordStart c_number c_failed)) hP hD hS hA [0] (by decide) rfl
    have hrc := va_recv hK hPc (ci := 4) (q0 := 0) rfl rfl
    refine cE_z (wc := (w_X3_failAt E a_ a_tape a_rules a_places a_steps c_siteCount c_stepCount c_seenRules c_at c_wordStart c_number c_failed)) (wr := [(a_tape, .inr (7, [.ref a_tape_bytes, .int c_tape_length])), (a_tape_bytes, .inl (E.2.2.1, 320, .inl c_tape_bytes))]) (w1 := (w_X3_failAt E a_ a_tape a_rules a_places a_steps c_siteCount c_stepCount c_seenRules c_at c_wordStart c_number w_14)) (va_runV (As := [.int c_at]) (rest := [])  ⟨hx, hb, hml, hown, hts⟩ (f_X3_failAt l E H.size (a_ := a_) (a_tape := a_tape) (a_rules := a_rules) (a_places := a_places) (a_steps := a_steps) (p1 := c_at) (c_siteCount := c_siteCount) (c_stepCount := c_stepCount) (c_seenRules := c_seenRules) (c_at := c_at) (c_wordStart := c_wordStart) (c_number := c_number) (c_failed := c_failed) hc_15) (cwV 1 hts g_f_X3_readWord_f_X3_failAt_87 rfl rfl rfl hd_X3_failAt ⟨Nat.le_of_ble_eq_true rfl, Nat.le_of_ble_eq_true rfl⟩) ⟨pW.blind, hrc, (pW.pre ⟨hK, hN⟩ hPc hDc)⟩ rfl rfl hl.1 rfl (lv_room (Nat.le_of_ble_eq_true rfl)) dX3_readWord_72 ⟨Nat.le_of_ble_eq_true rfl, Nat.le_of_ble_eq_true rfl⟩) hS hFc hP hD [0] [1, 2] rfl rfl (by decide) (by decide) (fun hb_16 H locs hP hD hS => ?_)
    replace hP : va_P E.1 vwCl [(a_tape, .inr (7, [.ref a_tape_bytes, .int c_tape_length])), (a_tape_bytes, .inl (E.2.2.1, 320, .inl c_tape_bytes)), (a_, .inr (4, [.ref a_tape, .ref a_rules, .ref a_places, .ref a_steps, .int c_siteCount, .int c_stepCount, .int c_seenRules, .int c_at, .int c_wordStart, .int c_number, .int w_14]))] H := hP
    replace hD : va_D A [(a_tape, .inr (7, [.ref a_tape_bytes, .int c_tape_length])), (a_tape_bytes, .inl (E.2.2.1, 320, .inl c_tape_bytes)), (a_, .inr (4, [.ref a_tape, .ref a_rules, .ref a_places, .ref a_steps, .int c_siteCount, .int c_stepCount, .int c_seenRules, .int c_at, .int c_wordStart, .int c_number, .int w_14]))] := hD
    refine lv_if_eq (tgt := 82) hx hb dX3_readWord_75 (by decide) (fun c_17 => ?_) (fun c_17 => ?_)
    ·
      replace hF := ip c_17 hF
      refine lv_iconst (v := 0) hx hb dX3_readWord_82 (by decide) ?_
      rw [hQ]
      have h9 := fin9 (P := fun u9 : Int32 × Int32 × Int32 × Int32 => (0 : Int32) = u9.1 ∧ va_P E.1 vwCl (w_X3_readWord E a_ a_tape a_rules a_places a_steps a_tape_bytes c_siteCount c_stepCount c_seenRules u9.2.1 u9.2.2.1 c_number u9.2.2.2 c_tape_length c_tape_bytes) H ∧ va_D A (w_X3_readWord E a_ a_tape a_rules a_places a_steps a_tape_bytes c_siteCount c_stepCount c_seenRules u9.2.1 u9.2.2.1 c_number u9.2.2.2 c_tape_length c_tape_bytes)) hF ⟨rfl, hP.sub [2, 0, 1] rfl, hD.sub [2, 0, 1] (by decide) rfl⟩
      obtain ⟨e9_0, hP9, hD9⟩ := h9
      exact W.zret (v := (0 : Int32)) hx hb hr rfl (fun tt ht hW => ⟨⟨_, (), rfl, ⟨e9_0, Or.inl rfl⟩, ht ▸ hP9, hD9⟩, hS.F ht⟩) hS.2.2 dX3_readWord_83
    ·
      replace hF := inn c_17 hF
      refine lv_iconst (v := 1) hx hb dX3_readWord_78 (by decide) ?_
      refine lv_goto (tgt := 83) hx hb dX3_readWord_79 (by decide) ?_
      rw [hQ]
      have h9 := fin9 (P := fun u9 : Int32 × Int32 × Int32 × Int32 => (1 : Int32) = u9.1 ∧ va_P E.1 vwCl (w_X3_readWord E a_ a_tape a_rules a_places a_steps a_tape_bytes c_siteCount c_stepCount c_seenRules u9.2.1 u9.2.2.1 c_number u9.2.2.2 c_tape_length c_tape_bytes) H ∧ va_D A (w_X3_readWord E a_ a_tape a_rules a_places a_steps a_tape_bytes c_siteCount c_stepCount c_seenRules u9.2.1 u9.2.2.1 c_number u9.2.2.2 c_tape_length c_tape_bytes)) hF ⟨rfl, hP.sub [2, 0, 1] rfl, hD.sub [2, 0, 1] (by decide) rfl⟩
      obtain ⟨e9_0, hP9, hD9⟩ := h9
      exact W.zret (v := (1 : Int32)) hx hb hr rfl (fun tt ht hW => ⟨⟨_, (), rfl, ⟨e9_0, Or.inr rfl⟩, ht ▸ hP9, hD9⟩, hS.F ht⟩) hS.2.2 dX3_readWord_83

set_option maxHeartbeats 4000000 in
set_option maxRecDepth 100000 in
theorem f_X3_readWord (l : Launch) (E : EE) (sz : Nat) (K : Nat) {a_ a_tape a_rules a_places a_steps a_tape_bytes : Nat} {c_siteCount : Int32} {c_stepCount : Int32} {c_seenRules : Int32} {c_at : Int32} {c_wordStart : Int32} {c_number : Int32} {c_failed : Int32} {c_tape_length : Int32} {c_tape_bytes : Nat → Int32} {rr : Int32} {n_at : Int32} {n_wordStart : Int32} {n_failed : Int32} (hF : F_X3_readWord K c_tape_bytes c_tape_length c_at c_wordStart c_failed = some (rr, n_at, n_wordStart, n_failed)) : Met l yX3_readWord v_f_X3_readWord (({ frames := 2, cells := 0, slots := 0, locals := 41 } : Room)) (va_Pc [.ref a_] (pW E sz (w_X3_readWord E a_ a_tape a_rules a_places a_steps a_tape_bytes c_siteCount c_stepCount c_seenRules c_at c_wordStart c_number c_failed c_tape_length c_tape_bytes))) (va_Qi (fun (q : Int32) (_u : Unit) => q = rr ∧ (q = 0 ∨ q = 1)) (fun (_u : Unit) tt => va_P E.1 vwCl (w_X3_readWord E a_ a_tape a_rules a_places a_steps a_tape_bytes c_siteCount c_stepCount c_seenRules n_at n_wordStart c_number n_failed c_tape_length c_tape_bytes) tt.heap ∧ va_D (va_A (w_X3_readWord E a_ a_tape a_rules a_places a_steps a_tape_bytes c_siteCount c_stepCount c_seenRules c_at c_wordStart c_number c_failed c_tape_length c_tape_bytes) sz) (w_X3_readWord E a_ a_tape a_rules a_places a_steps a_tape_bytes c_siteCount c_stepCount c_seenRules n_at n_wordStart c_number n_failed c_tape_length c_tape_bytes)) (va_A (w_X3_readWord E a_ a_tape a_rules a_places a_steps a_tape_bytes c_siteCount c_stepCount c_seenRules c_at c_wordStart c_number c_failed c_tape_length c_tape_bytes) sz)) 0 0 (va_A (w_X3_readWord E a_ a_tape a_rules a_places a_steps a_tape_bytes c_siteCount c_stepCount c_seenRules c_at c_wordStart c_number c_failed c_tape_length c_tape_bytes) sz) := by
  refine Met.ofW (cc := cX3_readWord) (maxL := 1) (ret := (some .boolean)) (by decide) rfl ?_
  intro p e s m args below meth c s₁ B hml hv
  obtain ⟨rfl, hsz, ⟨hK, hN⟩, hP, hD0⟩ := hv
  have hx := B.exec
  have hb := B.bytes
  have hr := B.returns
  have hts := atoms_spec (ws := v_f_X3_readWord) B.pre
  have hown : s.vm.findClass RX3 = some m.cls := own_of hd_X3_readWord.1 (findClass_of_methodNamed B.named)
  have hlocks : meth.locks = false := B.notSynchronized
  subst hsz
  have hD := hD0.self (sz := s.heap.size)
  generalize hAe : va_A (w_X3_readWord E a_ a_tape a_rules a_places a_steps a_tape_bytes c_siteCount c_stepCount c_seenRules c_at c_wordStart c_number c_failed c_tape_length c_tape_bytes) s.heap.size = A at hD ⊢
  have hA : ∀ q : Nat, s.heap.size ≤ q → A q := fun q h => by rw [← hAe]; exact Or.inr h
  have hS : va_S A s.heap s.heap [] := va_S.rf
  have hl := lv_entry ([.ref a_]) (n := 1) (Nat.le_of_ble_eq_true rfl)
  rw [lg_entry_eq]
  generalize (lg_sl ([.ref a_]) ++ List.replicate (1 - (lg_sl ([.ref a_])).length) Slot.unset).toArray = ls at hl ⊢
  have hl : lv_has ls 1 [(0, .ref a_)] := hl
  obtain ⟨Q, hQ⟩ : ∃ Q : State → Prop, Q = MQ below (va_Qi (fun (q : Int32) (_u : Unit) => q = rr ∧ (q = 0 ∨ q = 1)) (fun (_u : Unit) tt => va_P E.1 vwCl (w_X3_readWord E a_ a_tape a_rules a_places a_steps a_tape_bytes c_siteCount c_stepCount c_seenRules n_at n_wordStart c_number n_failed c_tape_length c_tape_bytes) tt.heap ∧ va_D A (w_X3_readWord E a_ a_tape a_rules a_places a_steps a_tape_bytes c_siteCount c_stepCount c_seenRules n_at n_wordStart c_number n_failed c_tape_length c_tape_bytes)) A) #[Value.ref a_] s 0 0 A := ⟨_, rfl⟩
  rw [← hQ]
  change W p l e ({ frames := 2, cells := 0, slots := 0, locals := 41 } : Room) s m #[Value.ref a_] below meth c s.heap [] 0 0 Q (F0 m 0 ls [])
  suffices hh9 : ∀ (H : Heap) (locs : List Loc), va_P E.1 vwCl (w_X3_readWord E a_ a_tape a_rules a_places a_steps a_tape_bytes c_siteCount c_stepCount c_seenRules c_at c_wordStart c_number c_failed c_tape_length c_tape_bytes) H → va_D A (w_X3_readWord E a_ a_tape a_rules a_places a_steps a_tape_bytes c_siteCount c_stepCount c_seenRules c_at c_wordStart c_number c_failed c_tape_length c_tape_bytes) → va_S A s.heap H locs → W p l e ({ frames := 2, cells := 0, slots := 0, locals := 41 } : Room) s m #[Value.ref a_] below meth c H locs 0 0 Q (F0 m 0 ls []) from hh9 s.heap [] hP hD hS
  clear hP hD hS
  intro H locs hP hD hS
  replace hP : va_P E.1 vwCl [(a_, .inr (4, [.ref a_tape, .ref a_rules, .ref a_places, .ref a_steps, .int c_siteCount, .int c_stepCount, .int c_seenRules, .int c_at, .int c_wordStart, .int c_number, .int c_failed])), (a_tape, .inr (7, [.ref a_tape_bytes, .int c_tape_length])), (a_tape_bytes, .inl (E.2.2.1, 320, .inl c_tape_bytes))] H := hP
  replace hD : va_D A [(a_, .inr (4, [.ref a_tape, .ref a_rules, .ref a_places, .ref a_steps, .int c_siteCount, .int c_stepCount, .int c_seenRules, .int c_at, .int c_wordStart, .int c_number, .int c_failed])), (a_tape, .inr (7, [.ref a_tape_bytes, .int c_tape_length])), (a_tape_bytes, .inl (E.2.2.1, 320, .inl c_tape_bytes))] := hD
  unfold F_X3_readWord at hF
  refine lv_aload_n hx hb dX3_readWord_0 rfl (lv_at hl 0 rfl) ?_
  replace hF := bd1_s hF
  obtain ⟨w_1, hc_2, hF⟩ := hF
  obtain ⟨hPc, hDc, hFc⟩ := wcut (wc := (w_X3_skipBlanks E a_ a_tape a_rules a_places a_steps a_tape_bytes c_siteCount c_stepCount c_seenRules c_at c_wordStart c_number c_failed c_tape_length c_tape_bytes)) hP hD hS hA [0, 1, 2] (by decide) rfl
  have hrc := va_recv hK hPc (ci := 4) (q0 := 0) rfl rfl
  refine cE_v (wc := (w_X3_skipBlanks E a_ a_tape a_rules a_places a_steps a_tape_bytes c_siteCount c_stepCount c_seenRules c_at c_wordStart c_number c_failed c_tape_length c_tape_bytes)) (wr := []) (w1 := (w_X3_skipBlanks E a_ a_tape a_rules a_places a_steps a_tape_bytes c_siteCount c_stepCount c_seenRules w_1 c_wordStart c_number c_failed c_tape_length c_tape_bytes)) (va_runV (As := []) (rest := [])  ⟨hx, hb, hml, hown, hts⟩ (f_X3_skipBlanks l E H.size K (a_ := a_) (a_tape := a_tape) (a_rules := a_rules) (a_places := a_places) (a_steps := a_steps) (a_tape_bytes := a_tape_bytes) (c_siteCount := c_siteCount) (c_stepCount := c_stepCount) (c_seenRules := c_seenRules) (c_at := c_at) (c_wordStart := c_wordStart) (c_number := c_number) (c_failed := c_failed) (c_tape_length := c_tape_length) (c_tape_bytes := c_tape_bytes) hc_2) (cwV 0 hts g_f_X3_readWord_f_X3_skipBlanks_140 rfl rfl rfl hd_X3_skipBlanks ⟨Nat.le_of_ble_eq_true rfl, Nat.le_of_ble_eq_true rfl⟩) ⟨pW.blind, hrc, (pW.pre ⟨hK, hN⟩ hPc hDc)⟩ rfl rfl hl.1 rfl (lv_room (Nat.le_of_ble_eq_true rfl)) dX3_readWord_1 ⟨Nat.le_of_ble_eq_true rfl, Nat.le_of_ble_eq_true rfl⟩) hS hFc hP hD [0, 1, 2] [] rfl rfl (by decide) (by decide) (fun H locs hP hD hS => ?_)
  replace hP : va_P E.1 vwCl [(a_, .inr (4, [.ref a_tape, .ref a_rules, .ref a_places, .ref a_steps, .int c_siteCount, .int c_stepCount, .int c_seenRules, .int w_1, .int c_wordStart, .int c_number, .int c_failed])), (a_tape, .inr (7, [.ref a_tape_bytes, .int c_tape_length])), (a_tape_bytes, .inl (E.2.2.1, 320, .inl c_tape_bytes))] H := hP
  replace hD : va_D A [(a_, .inr (4, [.ref a_tape, .ref a_rules, .ref a_places, .ref a_steps, .int c_siteCount, .int c_stepCount, .int c_seenRules, .int w_1, .int c_wordStart, .int c_number, .int c_failed])), (a_tape, .inr (7, [.ref a_tape_bytes, .int c_tape_length])), (a_tape_bytes, .inl (E.2.2.1, 320, .inl c_tape_bytes))] := hD
  refine lv_aload_n hx hb dX3_readWord_4 rfl (lv_at hl 0 rfl) ?_
  refine lv_aload_n hx hb dX3_readWord_5 rfl (lv_at hl 0 rfl) ?_
  refine gt_X3_7 (v := .int w_1) hx hb hts i_f_X3_readWord_X3 hown hK hP 0 rfl (hts (.fieldLink RX3 31 "HushWatch$Reader" "at" "I") (List.mem_of_getElem? (i := 1) rfl)) rfl dX3_readWord_6 ?_
  refine pt_X3_8 (v := .int w_1) hx hb hts i_f_X3_readWord_X3 hown hK hP hD hS 0 rfl (hts (.fieldLink RX3 34 "HushWatch$Reader" "wordStart" "I") (List.mem_of_getElem? (i := 2) rfl)) rfl rfl (Nat.le_of_ble_eq_true rfl) dX3_readWord_9 (fun H locs hP hD hS => ?_)
  replace hP : va_P E.1 vwCl [(a_, .inr (4, [.ref a_tape, .ref a_rules, .ref a_places, .ref a_steps, .int c_siteCount, .int c_stepCount, .int c_seenRules, .int w_1, .int w_1, .int c_number, .int c_failed])), (a_tape, .inr (7, [.ref a_tape_bytes, .int c_tape_length])), (a_tape_bytes, .inl (E.2.2.1, 320, .inl c_tape_bytes))] H := hP
  replace hD : va_D A [(a_, .inr (4, [.ref a_tape, .ref a_rules, .ref a_places, .ref a_steps, .int c_siteCount, .int c_stepCount, .int c_seenRules, .int w_1, .int w_1, .int c_number, .int c_failed])), (a_tape, .inr (7, [.ref a_tape_bytes, .int c_tape_length])), (a_tape_bytes, .inl (E.2.2.1, 320, .inl c_tape_bytes))] := hD
  replace hF := bd1_s hF
  obtain ⟨c_at_10, hL_11, hF⟩ := hF
  refine lw_X3_readWord_12 l E K (c_siteCount := c_siteCount) (c_stepCount := c_stepCount) (c_seenRules := c_seenRules) (c_number := c_number) (c_tape_length := c_tape_length) (c_tape_bytes := c_tape_bytes) (c_wordStart := w_1) (c_failed := c_failed) hx hb hml hown hts hK hN hA K w_1 c_at_10 hL_11 ?_ H locs ls (hP.sub [0, 1, 2] rfl) (hD.sub [0, 1, 2] (by decide) rfl) hS (lv_sub hl [0] rfl)
  ·
    intro H locs ls hP hD hS hl
    replace hP : va_P E.1 vwCl [(a_, .inr (4, [.ref a_tape, .ref a_rules, .ref a_places, .ref a_steps, .int c_siteCount, .int c_stepCount, .int c_seenRules, .int c_at_10, .int w_1, .int c_number, .int c_failed])), (a_tape, .inr (7, [.ref a_tape_bytes, .int c_tape_length])), (a_tape_bytes, .inl (E.2.2.1, 320, .inl c_tape_bytes))] H := hP
    replace hD : va_D A [(a_, .inr (4, [.ref a_tape, .ref a_rules, .ref a_places, .ref a_steps, .int c_siteCount, .int c_stepCount, .int c_seenRules, .int c_at_10, .int w_1, .int c_number, .int c_failed])), (a_tape, .inr (7, [.ref a_tape_bytes, .int c_tape_length])), (a_tape_bytes, .inl (E.2.2.1, 320, .inl c_tape_bytes))] := hD
    exact j_X3_readWord_56 l E K (c_siteCount := c_siteCount) (c_stepCount := c_stepCount) (c_seenRules := c_seenRules) (c_number := c_number) (c_tape_length := c_tape_length) (c_tape_bytes := c_tape_bytes) (c_at := c_at_10) (c_wordStart := w_1) (c_failed := c_failed) hx hb hml hown hts hK hN hA hr hlocks hQ hF H locs ls (hP.sub [0, 1, 2] rfl) (hD.sub [0, 1, 2] (by decide) rfl) hS (lv_sub hl [0] rfl)
