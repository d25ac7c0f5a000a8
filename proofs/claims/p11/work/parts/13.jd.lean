def dl_J3_checkIndex_8e157_13_jd_0 : List (Nat × Instr × Nat) := [(0, .iload_n 0, 1), (1, .ifCond .lt 8, 3), (4, .iload_n 0, 1), (5, .iload_n 1, 1), (6, .if_icmp .lt 10, 3), (16, .iload_n 0, 1), (17, .ireturn, 1)]
set_option maxRecDepth 100000 in
theorem dall_J3_checkIndex_8e157_13_jd_0 : dchk cJ3_checkIndex_8e157 dl_J3_checkIndex_8e157_13_jd_0 = true := by decide +kernel
theorem dJ3_checkIndex_8e157_0 : decode cJ3_checkIndex_8e157 0 = .ok (.iload_n 0, 1) := dchk_at dall_J3_checkIndex_8e157_13_jd_0 (k := 0) rfl
theorem dJ3_checkIndex_8e157_1 : decode cJ3_checkIndex_8e157 1 = .ok (.ifCond .lt 8, 3) := dchk_at dall_J3_checkIndex_8e157_13_jd_0 (k := 1) rfl
theorem dJ3_checkIndex_8e157_4 : decode cJ3_checkIndex_8e157 4 = .ok (.iload_n 0, 1) := dchk_at dall_J3_checkIndex_8e157_13_jd_0 (k := 2) rfl
theorem dJ3_checkIndex_8e157_5 : decode cJ3_checkIndex_8e157 5 = .ok (.iload_n 1, 1) := dchk_at dall_J3_checkIndex_8e157_13_jd_0 (k := 3) rfl
theorem dJ3_checkIndex_8e157_6 : decode cJ3_checkIndex_8e157 6 = .ok (.if_icmp .lt 10, 3) := dchk_at dall_J3_checkIndex_8e157_13_jd_0 (k := 4) rfl
theorem dJ3_checkIndex_8e157_16 : decode cJ3_checkIndex_8e157 16 = .ok (.iload_n 0, 1) := dchk_at dall_J3_checkIndex_8e157_13_jd_0 (k := 5) rfl
theorem dJ3_checkIndex_8e157_17 : decode cJ3_checkIndex_8e157 17 = .ok (.ireturn, 1) := dchk_at dall_J3_checkIndex_8e157_13_jd_0 (k := 6) rfl
def dl_J6_bitCount_0f7a4_13_jd_0 : List (Nat × Instr × Nat) := [(0, .iload_n 0, 1), (1, .iload_n 0, 1), (2, .iconst 1, 1), (3, .iushr, 1), (4, .ldc_w 265, 3), (7, .iand, 1), (8, .isub, 1), (9, .istore_n 0, 1), (10, .iload_n 0, 1), (11, .ldc_w 266, 3), (14, .iand, 1), (15, .iload_n 0, 1), (16, .iconst 2, 1), (17, .iushr, 1), (18, .ldc_w 266, 3), (21, .iand, 1), (22, .iadd, 1), (23, .istore_n 0, 1), (24, .iload_n 0, 1), (25, .iload_n 0, 1), (26, .iconst 4, 1), (27, .iushr, 1), (28, .iadd, 1), (29, .ldc_w 267, 3), (32, .iand, 1), (33, .istore_n 0, 1), (34, .iload_n 0, 1), (35, .iload_n 0, 1), (36, .bipush 8, 2), (38, .iushr, 1), (39, .iadd, 1), (40, .istore_n 0, 1), (41, .iload_n 0, 1), (42, .iload_n 0, 1), (43, .bipush 16, 2), (45, .iushr, 1), (46, .iadd, 1), (47, .istore_n 0, 1), (48, .iload_n 0, 1), (49, .bipush 63, 2), (51, .iand, 1), (52, .ireturn, 1)]
set_option maxRecDepth 100000 in
theorem dall_J6_bitCount_0f7a4_13_jd_0 : dchk cJ6_bitCount_0f7a4 dl_J6_bitCount_0f7a4_13_jd_0 = true := by decide +kernel
theorem dJ6_bitCount_0f7a4_0 : decode cJ6_bitCount_0f7a4 0 = .ok (.iload_n 0, 1) := dchk_at dall_J6_bitCount_0f7a4_13_jd_0 (k := 0) rfl
theorem dJ6_bitCount_0f7a4_1 : decode cJ6_bitCount_0f7a4 1 = .ok (.iload_n 0, 1) := dchk_at dall_J6_bitCount_0f7a4_13_jd_0 (k := 1) rfl
theorem dJ6_bitCount_0f7a4_2 : decode cJ6_bitCount_0f7a4 2 = .ok (.iconst 1, 1) := dchk_at dall_J6_bitCount_0f7a4_13_jd_0 (k := 2) rfl
theorem dJ6_bitCount_0f7a4_3 : decode cJ6_bitCount_0f7a4 3 = .ok (.iushr, 1) := dchk_at dall_J6_bitCount_0f7a4_13_jd_0 (k := 3) rfl
theorem dJ6_bitCount_0f7a4_4 : decode cJ6_bitCount_0f7a4 4 = .ok (.ldc_w 265, 3) := dchk_at dall_J6_bitCount_0f7a4_13_jd_0 (k := 4) rfl
theorem dJ6_bitCount_0f7a4_7 : decode cJ6_bitCount_0f7a4 7 = .ok (.iand, 1) := dchk_at dall_J6_bitCount_0f7a4_13_jd_0 (k := 5) rfl
theorem dJ6_bitCount_0f7a4_8 : decode cJ6_bitCount_0f7a4 8 = .ok (.isub, 1) := dchk_at dall_J6_bitCount_0f7a4_13_jd_0 (k := 6) rfl
theorem dJ6_bitCount_0f7a4_9 : decode cJ6_bitCount_0f7a4 9 = .ok (.istore_n 0, 1) := dchk_at dall_J6_bitCount_0f7a4_13_jd_0 (k := 7) rfl
theorem dJ6_bitCount_0f7a4_10 : decode cJ6_bitCount_0f7a4 10 = .ok (.iload_n 0, 1) := dchk_at dall_J6_bitCount_0f7a4_13_jd_0 (k := 8) rfl
theorem dJ6_bitCount_0f7a4_11 : decode cJ6_bitCount_0f7a4 11 = .ok (.ldc_w 266, 3) := dchk_at dall_J6_bitCount_0f7a4_13_jd_0 (k := 9) rfl
theorem dJ6_bitCount_0f7a4_14 : decode cJ6_bitCount_0f7a4 14 = .ok (.iand, 1) := dchk_at dall_J6_bitCount_0f7a4_13_jd_0 (k := 10) rfl
theorem dJ6_bitCount_0f7a4_15 : decode cJ6_bitCount_0f7a4 15 = .ok (.iload_n 0, 1) := dchk_at dall_J6_bitCount_0f7a4_13_jd_0 (k := 11) rfl
theorem dJ6_bitCount_0f7a4_16 : decode cJ6_bitCount_0f7a4 16 = .ok (.iconst 2, 1) := dchk_at dall_J6_bitCount_0f7a4_13_jd_0 (k := 12) rfl
theorem dJ6_bitCount_0f7a4_17 : decode cJ6_bitCount_0f7a4 17 = .ok (.iushr, 1) := dchk_at dall_J6_bitCount_0f7a4_13_jd_0 (k := 13) rfl
theorem dJ6_bitCount_0f7a4_18 : decode cJ6_bitCount_0f7a4 18 = .ok (.ldc_w 266, 3) := dchk_at dall_J6_bitCount_0f7a4_13_jd_0 (k := 14) rfl
theorem dJ6_bitCount_0f7a4_21 : decode cJ6_bitCount_0f7a4 21 = .ok (.iand, 1) := dchk_at dall_J6_bitCount_0f7a4_13_jd_0 (k := 15) rfl
theorem dJ6_bitCount_0f7a4_22 : decode cJ6_bitCount_0f7a4 22 = .ok (.iadd, 1) := dchk_at dall_J6_bitCount_0f7a4_13_jd_0 (k := 16) rfl
theorem dJ6_bitCount_0f7a4_23 : decode cJ6_bitCount_0f7a4 23 = .ok (.istore_n 0, 1) := dchk_at dall_J6_bitCount_0f7a4_13_jd_0 (k := 17) rfl
theorem dJ6_bitCount_0f7a4_24 : decode cJ6_bitCount_0f7a4 24 = .ok (.iload_n 0, 1) := dchk_at dall_J6_bitCount_0f7a4_13_jd_0 (k := 18) rfl
theorem dJ6_bitCount_0f7a4_25 : decode cJ6_bitCount_0f7a4 25 = .ok (.iload_n 0, 1) := dchk_at dall_J6_bitCount_0f7a4_13_jd_0 (k := 19) rfl
theorem dJ6_bitCount_0f7a4_26 : decode cJ6_bitCount_0f7a4 26 = .ok (.iconst 4, 1) := dchk_at dall_J6_bitCount_0f7a4_13_jd_0 (k := 20) rfl
theorem dJ6_bitCount_0f7a4_27 : decode cJ6_bitCount_0f7a4 27 = .ok (.iushr, 1) := dchk_at dall_J6_bitCount_0f7a4_13_jd_0 (k := 21) rfl
theorem dJ6_bitCount_0f7a4_28 : decode cJ6_bitCount_0f7a4 28 = .ok (.iadd, 1) := dchk_at dall_J6_bitCount_0f7a4_13_jd_0 (k := 22) rfl
theorem dJ6_bitCount_0f7a4_29 : decode cJ6_bitCount_0f7a4 29 = .ok (.ldc_w 267, 3) := dchk_at dall_J6_bitCount_0f7a4_13_jd_0 (k := 23) rfl
theorem dJ6_bitCount_0f7a4_32 : decode cJ6_bitCount_0f7a4 32 = .ok (.iand, 1) := dchk_at dall_J6_bitCount_0f7a4_13_jd_0 (k := 24) rfl
theorem dJ6_bitCount_0f7a4_33 : decode cJ6_bitCount_0f7a4 33 = .ok (.istore_n 0, 1) := dchk_at dall_J6_bitCount_0f7a4_13_jd_0 (k := 25) rfl
theorem dJ6_bitCount_0f7a4_34 : decode cJ6_bitCount_0f7a4 34 = .ok (.iload_n 0, 1) := dchk_at dall_J6_bitCount_0f7a4_13_jd_0 (k := 26) rfl
theorem dJ6_bitCount_0f7a4_35 : decode cJ6_bitCount_0f7a4 35 = .ok (.iload_n 0, 1) := dchk_at dall_J6_bitCount_0f7a4_13_jd_0 (k := 27) rfl
theorem dJ6_bitCount_0f7a4_36 : decode cJ6_bitCount_0f7a4 36 = .ok (.bipush 8, 2) := dchk_at dall_J6_bitCount_0f7a4_13_jd_0 (k := 28) rfl
theorem dJ6_bitCount_0f7a4_38 : decode cJ6_bitCount_0f7a4 38 = .ok (.iushr, 1) := dchk_at dall_J6_bitCount_0f7a4_13_jd_0 (k := 29) rfl
theorem dJ6_bitCount_0f7a4_39 : decode cJ6_bitCount_0f7a4 39 = .ok (.iadd, 1) := dchk_at dall_J6_bitCount_0f7a4_13_jd_0 (k := 30) rfl
theorem dJ6_bitCount_0f7a4_40 : decode cJ6_bitCount_0f7a4 40 = .ok (.istore_n 0, 1) := dchk_at dall_J6_bitCount_0f7a4_13_jd_0 (k := 31) rfl
theorem dJ6_bitCount_0f7a4_41 : decode cJ6_bitCount_0f7a4 41 = .ok (.iload_n 0, 1) := dchk_at dall_J6_bitCount_0f7a4_13_jd_0 (k := 32) rfl
theorem dJ6_bitCount_0f7a4_42 : decode cJ6_bitCount_0f7a4 42 = .ok (.iload_n 0, 1) := dchk_at dall_J6_bitCount_0f7a4_13_jd_0 (k := 33) rfl
theorem dJ6_bitCount_0f7a4_43 : decode cJ6_bitCount_0f7a4 43 = .ok (.bipush 16, 2) := dchk_at dall_J6_bitCount_0f7a4_13_jd_0 (k := 34) rfl
theorem dJ6_bitCount_0f7a4_45 : decode cJ6_bitCount_0f7a4 45 = .ok (.iushr, 1) := dchk_at dall_J6_bitCount_0f7a4_13_jd_0 (k := 35) rfl
theorem dJ6_bitCount_0f7a4_46 : decode cJ6_bitCount_0f7a4 46 = .ok (.iadd, 1) := dchk_at dall_J6_bitCount_0f7a4_13_jd_0 (k := 36) rfl
theorem dJ6_bitCount_0f7a4_47 : decode cJ6_bitCount_0f7a4 47 = .ok (.istore_n 0, 1) := dchk_at dall_J6_bitCount_0f7a4_13_jd_0 (k := 37) rfl
theorem dJ6_bitCount_0f7a4_48 : decode cJ6_bitCount_0f7a4 48 = .ok (.iload_n 0, 1) := dchk_at dall_J6_bitCount_0f7a4_13_jd_0 (k := 38) rfl
theorem dJ6_bitCount_0f7a4_49 : decode cJ6_bitCount_0f7a4 49 = .ok (.bipush 63, 2) := dchk_at dall_J6_bitCount_0f7a4_13_jd_0 (k := 39) rfl
theorem dJ6_bitCount_0f7a4_51 : decode cJ6_bitCount_0f7a4 51 = .ok (.iand, 1) := dchk_at dall_J6_bitCount_0f7a4_13_jd_0 (k := 40) rfl
theorem dJ6_bitCount_0f7a4_52 : decode cJ6_bitCount_0f7a4 52 = .ok (.ireturn, 1) := dchk_at dall_J6_bitCount_0f7a4_13_jd_0 (k := 41) rfl
def dl_J9_floorDiv_7cf53_13_jd_0 : List (Nat × Instr × Nat) := [(0, .iload_n 0, 1), (1, .iload_n 1, 1), (2, .idiv, 1), (3, .istore_n 2, 1), (4, .iload_n 0, 1), (5, .iload_n 1, 1), (6, .ixor, 1), (7, .ifCond .ge 14, 3), (21, .iload_n 2, 1), (22, .ireturn, 1), (10, .iload_n 2, 1), (11, .iload_n 1, 1), (12, .imul, 1), (13, .iload_n 0, 1), (14, .if_icmp .eq 7, 3), (17, .iload_n 2, 1), (18, .iconst 1, 1), (19, .isub, 1), (20, .ireturn, 1)]
set_option maxRecDepth 100000 in
theorem dall_J9_floorDiv_7cf53_13_jd_0 : dchk cJ9_floorDiv_7cf53 dl_J9_floorDiv_7cf53_13_jd_0 = true := by decide +kernel
theorem dJ9_floorDiv_7cf53_0 : decode cJ9_floorDiv_7cf53 0 = .ok (.iload_n 0, 1) := dchk_at dall_J9_floorDiv_7cf53_13_jd_0 (k := 0) rfl
theorem dJ9_floorDiv_7cf53_1 : decode cJ9_floorDiv_7cf53 1 = .ok (.iload_n 1, 1) := dchk_at dall_J9_floorDiv_7cf53_13_jd_0 (k := 1) rfl
theorem dJ9_floorDiv_7cf53_2 : decode cJ9_floorDiv_7cf53 2 = .ok (.idiv, 1) := dchk_at dall_J9_floorDiv_7cf53_13_jd_0 (k := 2) rfl
theorem dJ9_floorDiv_7cf53_3 : decode cJ9_floorDiv_7cf53 3 = .ok (.istore_n 2, 1) := dchk_at dall_J9_floorDiv_7cf53_13_jd_0 (k := 3) rfl
theorem dJ9_floorDiv_7cf53_4 : decode cJ9_floorDiv_7cf53 4 = .ok (.iload_n 0, 1) := dchk_at dall_J9_floorDiv_7cf53_13_jd_0 (k := 4) rfl
theorem dJ9_floorDiv_7cf53_5 : decode cJ9_floorDiv_7cf53 5 = .ok (.iload_n 1, 1) := dchk_at dall_J9_floorDiv_7cf53_13_jd_0 (k := 5) rfl
theorem dJ9_floorDiv_7cf53_6 : decode cJ9_floorDiv_7cf53 6 = .ok (.ixor, 1) := dchk_at dall_J9_floorDiv_7cf53_13_jd_0 (k := 6) rfl
theorem dJ9_floorDiv_7cf53_7 : decode cJ9_floorDiv_7cf53 7 = .ok (.ifCond .ge 14, 3) := dchk_at dall_J9_floorDiv_7cf53_13_jd_0 (k := 7) rfl
theorem dJ9_floorDiv_7cf53_21 : decode cJ9_floorDiv_7cf53 21 = .ok (.iload_n 2, 1) := dchk_at dall_J9_floorDiv_7cf53_13_jd_0 (k := 8) rfl
theorem dJ9_floorDiv_7cf53_22 : decode cJ9_floorDiv_7cf53 22 = .ok (.ireturn, 1) := dchk_at dall_J9_floorDiv_7cf53_13_jd_0 (k := 9) rfl
theorem dJ9_floorDiv_7cf53_10 : decode cJ9_floorDiv_7cf53 10 = .ok (.iload_n 2, 1) := dchk_at dall_J9_floorDiv_7cf53_13_jd_0 (k := 10) rfl
theorem dJ9_floorDiv_7cf53_11 : decode cJ9_floorDiv_7cf53 11 = .ok (.iload_n 1, 1) := dchk_at dall_J9_floorDiv_7cf53_13_jd_0 (k := 11) rfl
theorem dJ9_floorDiv_7cf53_12 : decode cJ9_floorDiv_7cf53 12 = .ok (.imul, 1) := dchk_at dall_J9_floorDiv_7cf53_13_jd_0 (k := 12) rfl
theorem dJ9_floorDiv_7cf53_13 : decode cJ9_floorDiv_7cf53 13 = .ok (.iload_n 0, 1) := dchk_at dall_J9_floorDiv_7cf53_13_jd_0 (k := 13) rfl
theorem dJ9_floorDiv_7cf53_14 : decode cJ9_floorDiv_7cf53 14 = .ok (.if_icmp .eq 7, 3) := dchk_at dall_J9_floorDiv_7cf53_13_jd_0 (k := 14) rfl
theorem dJ9_floorDiv_7cf53_17 : decode cJ9_floorDiv_7cf53 17 = .ok (.iload_n 2, 1) := dchk_at dall_J9_floorDiv_7cf53_13_jd_0 (k := 15) rfl
theorem dJ9_floorDiv_7cf53_18 : decode cJ9_floorDiv_7cf53 18 = .ok (.iconst 1, 1) := dchk_at dall_J9_floorDiv_7cf53_13_jd_0 (k := 16) rfl
theorem dJ9_floorDiv_7cf53_19 : decode cJ9_floorDiv_7cf53 19 = .ok (.isub, 1) := dchk_at dall_J9_floorDiv_7cf53_13_jd_0 (k := 17) rfl
theorem dJ9_floorDiv_7cf53_20 : decode cJ9_floorDiv_7cf53 20 = .ok (.ireturn, 1) := dchk_at dall_J9_floorDiv_7cf53_13_jd_0 (k := 18) rfl
def dl_J9_floorMod_7cf53_13_jd_0 : List (Nat × Instr × Nat) := [(0, .iload_n 0, 1), (1, .iload_n 1, 1), (2, .irem, 1), (3, .istore_n 2, 1), (4, .iload_n 0, 1), (5, .iload_n 1, 1), (6, .ixor, 1), (7, .ifCond .ge 11, 3), (18, .iload_n 2, 1), (19, .ireturn, 1), (10, .iload_n 2, 1), (11, .ifCond .eq 7, 3), (14, .iload_n 2, 1), (15, .iload_n 1, 1), (16, .iadd, 1), (17, .ireturn, 1)]
set_option maxRecDepth 100000 in
theorem dall_J9_floorMod_7cf53_13_jd_0 : dchk cJ9_floorMod_7cf53 dl_J9_floorMod_7cf53_13_jd_0 = true := by decide +kernel
theorem dJ9_floorMod_7cf53_0 : decode cJ9_floorMod_7cf53 0 = .ok (.iload_n 0, 1) := dchk_at dall_J9_floorMod_7cf53_13_jd_0 (k := 0) rfl
theorem dJ9_floorMod_7cf53_1 : decode cJ9_floorMod_7cf53 1 = .ok (.iload_n 1, 1) := dchk_at dall_J9_floorMod_7cf53_13_jd_0 (k := 1) rfl
theorem dJ9_floorMod_7cf53_2 : decode cJ9_floorMod_7cf53 2 = .ok (.irem, 1) := dchk_at dall_J9_floorMod_7cf53_13_jd_0 (k := 2) rfl
theorem dJ9_floorMod_7cf53_3 : decode cJ9_floorMod_7cf53 3 = .ok (.istore_n 2, 1) := dchk_at dall_J9_floorMod_7cf53_13_jd_0 (k := 3) rfl
theorem dJ9_floorMod_7cf53_4 : decode cJ9_floorMod_7cf53 4 = .ok (.iload_n 0, 1) := dchk_at dall_J9_floorMod_7cf53_13_jd_0 (k := 4) rfl
theorem dJ9_floorMod_7cf53_5 : decode cJ9_floorMod_7cf53 5 = .ok (.iload_n 1, 1) := dchk_at dall_J9_floorMod_7cf53_13_jd_0 (k := 5) rfl
theorem dJ9_floorMod_7cf53_6 : decode cJ9_floorMod_7cf53 6 = .ok (.ixor, 1) := dchk_at dall_J9_floorMod_7cf53_13_jd_0 (k := 6) rfl
theorem dJ9_floorMod_7cf53_7 : decode cJ9_floorMod_7cf53 7 = .ok (.ifCond .ge 11, 3) := dchk_at dall_J9_floorMod_7cf53_13_jd_0 (k := 7) rfl
theorem dJ9_floorMod_7cf53_18 : decode cJ9_floorMod_7cf53 18 = .ok (.iload_n 2, 1) := dchk_at dall_J9_floorMod_7cf53_13_jd_0 (k := 8) rfl
theorem dJ9_floorMod_7cf53_19 : decode cJ9_floorMod_7cf53 19 = .ok (.ireturn, 1) := dchk_at dall_J9_floorMod_7cf53_13_jd_0 (k := 9) rfl
theorem dJ9_floorMod_7cf53_10 : decode cJ9_floorMod_7cf53 10 = .ok (.iload_n 2, 1) := dchk_at dall_J9_floorMod_7cf53_13_jd_0 (k := 10) rfl
theorem dJ9_floorMod_7cf53_11 : decode cJ9_floorMod_7cf53 11 = .ok (.ifCond .eq 7, 3) := dchk_at dall_J9_floorMod_7cf53_13_jd_0 (k := 11) rfl
theorem dJ9_floorMod_7cf53_14 : decode cJ9_floorMod_7cf53 14 = .ok (.iload_n 2, 1) := dchk_at dall_J9_floorMod_7cf53_13_jd_0 (k := 12) rfl
theorem dJ9_floorMod_7cf53_15 : decode cJ9_floorMod_7cf53 15 = .ok (.iload_n 1, 1) := dchk_at dall_J9_floorMod_7cf53_13_jd_0 (k := 13) rfl
theorem dJ9_floorMod_7cf53_16 : decode cJ9_floorMod_7cf53 16 = .ok (.iadd, 1) := dchk_at dall_J9_floorMod_7cf53_13_jd_0 (k := 14) rfl
theorem dJ9_floorMod_7cf53_17 : decode cJ9_floorMod_7cf53 17 = .ok (.ireturn, 1) := dchk_at dall_J9_floorMod_7cf53_13_jd_0 (k := 15) rfl
def dl_J0_checkIndex_df160_13_jd_0 : List (Nat × Instr × Nat) := [(0, .iload_n 0, 1), (1, .iload_n 1, 1), (2, .getstatic 1053, 3), (5, .invokestatic 1059, 3), (8, .pop, 1), (9, .return_, 1)]
set_option maxRecDepth 100000 in
theorem dall_J0_checkIndex_df160_13_jd_0 : dchk cJ0_checkIndex_df160 dl_J0_checkIndex_df160_13_jd_0 = true := by decide +kernel
theorem dJ0_checkIndex_df160_0 : decode cJ0_checkIndex_df160 0 = .ok (.iload_n 0, 1) := dchk_at dall_J0_checkIndex_df160_13_jd_0 (k := 0) rfl
theorem dJ0_checkIndex_df160_1 : decode cJ0_checkIndex_df160 1 = .ok (.iload_n 1, 1) := dchk_at dall_J0_checkIndex_df160_13_jd_0 (k := 1) rfl
theorem dJ0_checkIndex_df160_2 : decode cJ0_checkIndex_df160 2 = .ok (.getstatic 1053, 3) := dchk_at dall_J0_checkIndex_df160_13_jd_0 (k := 2) rfl
theorem dJ0_checkIndex_df160_5 : decode cJ0_checkIndex_df160 5 = .ok (.invokestatic 1059, 3) := dchk_at dall_J0_checkIndex_df160_13_jd_0 (k := 3) rfl
theorem dJ0_checkIndex_df160_8 : decode cJ0_checkIndex_df160 8 = .ok (.pop, 1) := dchk_at dall_J0_checkIndex_df160_13_jd_0 (k := 4) rfl
theorem dJ0_checkIndex_df160_9 : decode cJ0_checkIndex_df160 9 = .ok (.return_, 1) := dchk_at dall_J0_checkIndex_df160_13_jd_0 (k := 5) rfl
def dl_J1_charAt_3b067_13_jd_0 : List (Nat × Instr × Nat) := [(0, .iload_n 1, 1), (1, .aload_n 0, 1), (2, .arraylength, 1), (3, .invokestatic 9, 3), (6, .aload_n 0, 1), (7, .iload_n 1, 1), (8, .baload, 1), (9, .sipush 255, 3), (12, .iand, 1), (13, .i2c, 1), (14, .ireturn, 1)]
set_option maxRecDepth 100000 in
theorem dall_J1_charAt_3b067_13_jd_0 : dchk cJ1_charAt_3b067 dl_J1_charAt_3b067_13_jd_0 = true := by decide +kernel
theorem dJ1_charAt_3b067_0 : decode cJ1_charAt_3b067 0 = .ok (.iload_n 1, 1) := dchk_at dall_J1_charAt_3b067_13_jd_0 (k := 0) rfl
theorem dJ1_charAt_3b067_1 : decode cJ1_charAt_3b067 1 = .ok (.aload_n 0, 1) := dchk_at dall_J1_charAt_3b067_13_jd_0 (k := 1) rfl
theorem dJ1_charAt_3b067_2 : decode cJ1_charAt_3b067 2 = .ok (.arraylength, 1) := dchk_at dall_J1_charAt_3b067_13_jd_0 (k := 2) rfl
theorem dJ1_charAt_3b067_3 : decode cJ1_charAt_3b067 3 = .ok (.invokestatic 9, 3) := dchk_at dall_J1_charAt_3b067_13_jd_0 (k := 3) rfl
theorem dJ1_charAt_3b067_6 : decode cJ1_charAt_3b067 6 = .ok (.aload_n 0, 1) := dchk_at dall_J1_charAt_3b067_13_jd_0 (k := 4) rfl
theorem dJ1_charAt_3b067_7 : decode cJ1_charAt_3b067 7 = .ok (.iload_n 1, 1) := dchk_at dall_J1_charAt_3b067_13_jd_0 (k := 5) rfl
theorem dJ1_charAt_3b067_8 : decode cJ1_charAt_3b067 8 = .ok (.baload, 1) := dchk_at dall_J1_charAt_3b067_13_jd_0 (k := 6) rfl
theorem dJ1_charAt_3b067_9 : decode cJ1_charAt_3b067 9 = .ok (.sipush 255, 3) := dchk_at dall_J1_charAt_3b067_13_jd_0 (k := 7) rfl
theorem dJ1_charAt_3b067_12 : decode cJ1_charAt_3b067 12 = .ok (.iand, 1) := dchk_at dall_J1_charAt_3b067_13_jd_0 (k := 8) rfl
theorem dJ1_charAt_3b067_13 : decode cJ1_charAt_3b067 13 = .ok (.i2c, 1) := dchk_at dall_J1_charAt_3b067_13_jd_0 (k := 9) rfl
theorem dJ1_charAt_3b067_14 : decode cJ1_charAt_3b067 14 = .ok (.ireturn, 1) := dchk_at dall_J1_charAt_3b067_13_jd_0 (k := 10) rfl
def dl_J0_coder_7d493_13_jd_0 : List (Nat × Instr × Nat) := [(0, .getstatic 38, 3), (3, .ifCond .eq 10, 3), (6, .aload_n 0, 1), (7, .getfield 15, 3), (10, .goto 4, 3), (14, .ireturn, 1)]
set_option maxRecDepth 100000 in
theorem dall_J0_coder_7d493_13_jd_0 : dchk cJ0_coder_7d493 dl_J0_coder_7d493_13_jd_0 = true := by decide +kernel
theorem dJ0_coder_7d493_0 : decode cJ0_coder_7d493 0 = .ok (.getstatic 38, 3) := dchk_at dall_J0_coder_7d493_13_jd_0 (k := 0) rfl
theorem dJ0_coder_7d493_3 : decode cJ0_coder_7d493 3 = .ok (.ifCond .eq 10, 3) := dchk_at dall_J0_coder_7d493_13_jd_0 (k := 1) rfl
theorem dJ0_coder_7d493_6 : decode cJ0_coder_7d493 6 = .ok (.aload_n 0, 1) := dchk_at dall_J0_coder_7d493_13_jd_0 (k := 2) rfl
theorem dJ0_coder_7d493_7 : decode cJ0_coder_7d493 7 = .ok (.getfield 15, 3) := dchk_at dall_J0_coder_7d493_13_jd_0 (k := 3) rfl
theorem dJ0_coder_7d493_10 : decode cJ0_coder_7d493 10 = .ok (.goto 4, 3) := dchk_at dall_J0_coder_7d493_13_jd_0 (k := 4) rfl
theorem dJ0_coder_7d493_14 : decode cJ0_coder_7d493 14 = .ok (.ireturn, 1) := dchk_at dall_J0_coder_7d493_13_jd_0 (k := 5) rfl
def dl_J0_length_8abf5_13_jd_0 : List (Nat × Instr × Nat) := [(0, .aload_n 0, 1), (1, .getfield 9, 3), (4, .arraylength, 1), (5, .aload_n 0, 1), (6, .invokevirtual 335, 3), (9, .ishr, 1), (10, .ireturn, 1)]
set_option maxRecDepth 100000 in
theorem dall_J0_length_8abf5_13_jd_0 : dchk cJ0_length_8abf5 dl_J0_length_8abf5_13_jd_0 = true := by decide +kernel
theorem dJ0_length_8abf5_0 : decode cJ0_length_8abf5 0 = .ok (.aload_n 0, 1) := dchk_at dall_J0_length_8abf5_13_jd_0 (k := 0) rfl
theorem dJ0_length_8abf5_1 : decode cJ0_length_8abf5 1 = .ok (.getfield 9, 3) := dchk_at dall_J0_length_8abf5_13_jd_0 (k := 1) rfl
theorem dJ0_length_8abf5_4 : decode cJ0_length_8abf5 4 = .ok (.arraylength, 1) := dchk_at dall_J0_length_8abf5_13_jd_0 (k := 2) rfl
theorem dJ0_length_8abf5_5 : decode cJ0_length_8abf5 5 = .ok (.aload_n 0, 1) := dchk_at dall_J0_length_8abf5_13_jd_0 (k := 3) rfl
theorem dJ0_length_8abf5_6 : decode cJ0_length_8abf5 6 = .ok (.invokevirtual 335, 3) := dchk_at dall_J0_length_8abf5_13_jd_0 (k := 4) rfl
theorem dJ0_length_8abf5_9 : decode cJ0_length_8abf5 9 = .ok (.ishr, 1) := dchk_at dall_J0_length_8abf5_13_jd_0 (k := 5) rfl
theorem dJ0_length_8abf5_10 : decode cJ0_length_8abf5 10 = .ok (.ireturn, 1) := dchk_at dall_J0_length_8abf5_13_jd_0 (k := 6) rfl
def dl_J0_isLatin1_aae02_13_jd_0 : List (Nat × Instr × Nat) := [(0, .getstatic 38, 3), (3, .ifCond .eq 14, 3), (6, .aload_n 0, 1), (7, .getfield 15, 3), (10, .ifCond .ne 7, 3), (13, .iconst 1, 1), (14, .goto 4, 3), (18, .ireturn, 1)]
set_option maxRecDepth 100000 in
theorem dall_J0_isLatin1_aae02_13_jd_0 : dchk cJ0_isLatin1_aae02 dl_J0_isLatin1_aae02_13_jd_0 = true := by decide +kernel
theorem dJ0_isLatin1_aae02_0 : decode cJ0_isLatin1_aae02 0 = .ok (.getstatic 38, 3) := dchk_at dall_J0_isLatin1_aae02_13_jd_0 (k := 0) rfl
theorem dJ0_isLatin1_aae02_3 : decode cJ0_isLatin1_aae02 3 = .ok (.ifCond .eq 14, 3) := dchk_at dall_J0_isLatin1_aae02_13_jd_0 (k := 1) rfl
theorem dJ0_isLatin1_aae02_6 : decode cJ0_isLatin1_aae02 6 = .ok (.aload_n 0, 1) := dchk_at dall_J0_isLatin1_aae02_13_jd_0 (k := 2) rfl
theorem dJ0_isLatin1_aae02_7 : decode cJ0_isLatin1_aae02 7 = .ok (.getfield 15, 3) := dchk_at dall_J0_isLatin1_aae02_13_jd_0 (k := 3) rfl
theorem dJ0_isLatin1_aae02_10 : decode cJ0_isLatin1_aae02 10 = .ok (.ifCond .ne 7, 3) := dchk_at dall_J0_isLatin1_aae02_13_jd_0 (k := 4) rfl
theorem dJ0_isLatin1_aae02_13 : decode cJ0_isLatin1_aae02 13 = .ok (.iconst 1, 1) := dchk_at dall_J0_isLatin1_aae02_13_jd_0 (k := 5) rfl
theorem dJ0_isLatin1_aae02_14 : decode cJ0_isLatin1_aae02 14 = .ok (.goto 4, 3) := dchk_at dall_J0_isLatin1_aae02_13_jd_0 (k := 6) rfl
theorem dJ0_isLatin1_aae02_18 : decode cJ0_isLatin1_aae02 18 = .ok (.ireturn, 1) := dchk_at dall_J0_isLatin1_aae02_13_jd_0 (k := 7) rfl
def dl_J0_charAt_5068e_13_jd_0 : List (Nat × Instr × Nat) := [(0, .aload_n 0, 1), (1, .invokevirtual 492, 3), (4, .ifCond .eq 12, 3), (7, .aload_n 0, 1), (8, .getfield 9, 3), (11, .iload_n 1, 1), (12, .invokestatic 495, 3), (15, .ireturn, 1)]
set_option maxRecDepth 100000 in
theorem dall_J0_charAt_5068e_13_jd_0 : dchk cJ0_charAt_5068e dl_J0_charAt_5068e_13_jd_0 = true := by decide +kernel
theorem dJ0_charAt_5068e_0 : decode cJ0_charAt_5068e 0 = .ok (.aload_n 0, 1) := dchk_at dall_J0_charAt_5068e_13_jd_0 (k := 0) rfl
theorem dJ0_charAt_5068e_1 : decode cJ0_charAt_5068e 1 = .ok (.invokevirtual 492, 3) := dchk_at dall_J0_charAt_5068e_13_jd_0 (k := 1) rfl
theorem dJ0_charAt_5068e_4 : decode cJ0_charAt_5068e 4 = .ok (.ifCond .eq 12, 3) := dchk_at dall_J0_charAt_5068e_13_jd_0 (k := 2) rfl
theorem dJ0_charAt_5068e_7 : decode cJ0_charAt_5068e 7 = .ok (.aload_n 0, 1) := dchk_at dall_J0_charAt_5068e_13_jd_0 (k := 3) rfl
theorem dJ0_charAt_5068e_8 : decode cJ0_charAt_5068e 8 = .ok (.getfield 9, 3) := dchk_at dall_J0_charAt_5068e_13_jd_0 (k := 4) rfl
theorem dJ0_charAt_5068e_11 : decode cJ0_charAt_5068e 11 = .ok (.iload_n 1, 1) := dchk_at dall_J0_charAt_5068e_13_jd_0 (k := 5) rfl
theorem dJ0_charAt_5068e_12 : decode cJ0_charAt_5068e 12 = .ok (.invokestatic 495, 3) := dchk_at dall_J0_charAt_5068e_13_jd_0 (k := 6) rfl
theorem dJ0_charAt_5068e_15 : decode cJ0_charAt_5068e 15 = .ok (.ireturn, 1) := dchk_at dall_J0_charAt_5068e_13_jd_0 (k := 7) rfl
def F_J3_checkIndex_8e157 (p0 : Int32) (p1 : Int32) : Option (Int32) :=
  if p0 < (0 : Int32) then none else if p0 < p1 then some p0 else none

def v_f_J3_checkIndex_8e157 : List Cond := List.cons (.code yJ3_checkIndex_8e157 cJ3_checkIndex_8e157 3 (some .int)) (HAppend.hAppend (α := List Cond) (β := List Cond) (γ := List Cond) [] [])
theorem gw_f_J3_checkIndex_8e157 : v_f_J3_checkIndex_8e157.all goodWord = true := by decide +kernel
theorem hd_J3_checkIndex_8e157 : yJ3_checkIndex_8e157.cls = RJ3 ∧ yJ3_checkIndex_8e157.cls ≠ "java/lang/invoke/MethodHandle" ∧ yJ3_checkIndex_8e157.cls ≠ "java/lang/invoke/VarHandle" ∧ (parseMethodDescriptor yJ3_checkIndex_8e157.desc).map (fun d => d.parameters.length) = some 3 := by decide +kernel
set_option maxHeartbeats 4000000 in
set_option maxRecDepth 100000 in
theorem f_J3_checkIndex_8e157 (l : Launch) (E : EE) {p2 : Nat} {p0 : Int32} {p1 : Int32} {rr : Int32} (hF : F_J3_checkIndex_8e157 p0 p1 = some rr) : Met l yJ3_checkIndex_8e157 v_f_J3_checkIndex_8e157 (({ frames := 0, cells := 0, slots := 0, locals := 0 } : Room)) (va_Pc [.int p0, .int p1, .ref p2] (pP E [])) (vp_Si (fun q : Int32 => q = rr)) 0 0 (fun _ => False) := by
  refine Met.ofWF (cc := cJ3_checkIndex_8e157) (maxL := 3) (ret := (some .int)) (by decide +kernel) rfl ?_
  intro p e s m args below meth c s₁ B hml hv
  obtain ⟨rfl, ⟨hK, hN⟩, hP⟩ := hv
  have hx := B.exec
  have hb := B.bytes
  have hr := B.returns
  have hts := atoms_spec (ws := v_f_J3_checkIndex_8e157) B.pre
  have hown : s.vm.findClass RJ3 = some m.cls := own_of hd_J3_checkIndex_8e157.1 (findClass_of_methodNamed B.named)
  have hlocks : meth.locks = false := B.notSynchronized
  replace hP : va_P E.1 vwCl [] s.heap := hP
  have hl := lv_entry ([.int p0, .int p1, .ref p2]) (n := 3) (Nat.le_of_ble_eq_true rfl)
  rw [lg_entry_eq]
  generalize (lg_sl ([.int p0, .int p1, .ref p2]) ++ List.replicate (3 - (lg_sl ([.int p0, .int p1, .ref p2])).length) Slot.unset).toArray = ls at hl ⊢
  have hl : lv_has ls 3 [(0, .int p0), (1, .int p1), (2, .ref p2)] := hl
  obtain ⟨Q, hQ⟩ : ∃ Q : State → Prop, Q = MQ below (vp_Si (fun q : Int32 => q = rr)) #[Value.int p0, Value.int p1, Value.ref p2] s 0 0 (fun _ => False) := ⟨_, rfl⟩
  rw [← hQ]
  change W p l e ({ frames := 0, cells := 0, slots := 0, locals := 0 } : Room) s m #[Value.int p0, Value.int p1, Value.ref p2] below meth c s.heap [] 0 0 Q (F0 m 0 ls [])
  unfold F_J3_checkIndex_8e157 at hF
  refine lv_iload_n hx hb dJ3_checkIndex_8e157_0 rfl (lv_at hl 0 rfl) ?_
  refine lv_if_lt (tgt := 9) hx hb dJ3_checkIndex_8e157_1 (by decide) (fun c_1 => ?_) (fun c_1 => ?_)
  ·
    replace hF := ip c_1 hF
    cases hF
  ·
    replace hF := inn c_1 hF
    refine lv_iload_n hx hb dJ3_checkIndex_8e157_4 rfl (lv_at hl 0 rfl) ?_
    refine lv_iload_n hx hb dJ3_checkIndex_8e157_5 rfl (lv_at hl 1 rfl) ?_
    refine lv_icmp_lt (tgt := 16) hx hb dJ3_checkIndex_8e157_6 (by decide) (fun c_2 => ?_) (fun c_2 => ?_)
    ·
      replace hF := ip c_2 hF
      refine lv_iload_n hx hb dJ3_checkIndex_8e157_16 rfl (lv_at hl 0 rfl) ?_
      rw [hQ]
      obtain e9_0 := inj1 hF
      exact W.iret (v := p0) hx hb hr (fun tt ht hW => ⟨_, rfl, e9_0, ht⟩) (fun _ h => by cases h) dJ3_checkIndex_8e157_17
    ·
      replace hF := inn c_2 hF
      cases hF

def F_J3_checkIndex_8e157null (p0 : Int32) (p1 : Int32) : Option (Int32) :=
  if p0 < (0 : Int32) then none else if p0 < p1 then some p0 else none

def v_f_J3_checkIndex_8e157null : List Cond := List.cons (.code yJ3_checkIndex_8e157 cJ3_checkIndex_8e157 3 (some .int)) (HAppend.hAppend (α := List Cond) (β := List Cond) (γ := List Cond) [] [])
theorem gw_f_J3_checkIndex_8e157null : v_f_J3_checkIndex_8e157null.all goodWord = true := by decide +kernel
set_option maxHeartbeats 4000000 in
set_option maxRecDepth 100000 in
theorem f_J3_checkIndex_8e157null (l : Launch) (E : EE) {p0 : Int32} {p1 : Int32} {rr : Int32} (hF : F_J3_checkIndex_8e157null p0 p1 = some rr) : Met l yJ3_checkIndex_8e157 v_f_J3_checkIndex_8e157null (({ frames := 0, cells := 0, slots := 0, locals := 0 } : Room)) (va_Pc [.int p0, .int p1, .null] (pP E [])) (vp_Si (fun q : Int32 => q = rr)) 0 0 (fun _ => False) := by
  refine Met.ofWF (cc := cJ3_checkIndex_8e157) (maxL := 3) (ret := (some .int)) (by decide +kernel) rfl ?_
  intro p e s m args below meth c s₁ B hml hv
  obtain ⟨rfl, ⟨hK, hN⟩, hP⟩ := hv
  have hx := B.exec
  have hb := B.bytes
  have hr := B.returns
  have hts := atoms_spec (ws := v_f_J3_checkIndex_8e157null) B.pre
  have hown : s.vm.findClass RJ3 = some m.cls := own_of hd_J3_checkIndex_8e157.1 (findClass_of_methodNamed B.named)
  have hlocks : meth.locks = false := B.notSynchronized
  replace hP : va_P E.1 vwCl [] s.heap := hP
  have hl := lv_entry ([.int p0, .int p1, .null]) (n := 3) (Nat.le_of_ble_eq_true rfl)
  rw [lg_entry_eq]
  generalize (lg_sl ([.int p0, .int p1, .null]) ++ List.replicate (3 - (lg_sl ([.int p0, .int p1, .null])).length) Slot.unset).toArray = ls at hl ⊢
  have hl : lv_has ls 3 [(0, .int p0), (1, .int p1), (2, .null)] := hl
  obtain ⟨Q, hQ⟩ : ∃ Q : State → Prop, Q = MQ below (vp_Si (fun q : Int32 => q = rr)) #[Value.int p0, Value.int p1, Value.null] s 0 0 (fun _ => False) := ⟨_, rfl⟩
  rw [← hQ]
  change W p l e ({ frames := 0, cells := 0, slots := 0, locals := 0 } : Room) s m #[Value.int p0, Value.int p1, Value.null] below meth c s.heap [] 0 0 Q (F0 m 0 ls [])
  unfold F_J3_checkIndex_8e157null at hF
  refine lv_iload_n hx hb dJ3_checkIndex_8e157_0 rfl (lv_at hl 0 rfl) ?_
  refine lv_if_lt (tgt := 9) hx hb dJ3_checkIndex_8e157_1 (by decide) (fun c_1 => ?_) (fun c_1 => ?_)
  ·
    replace hF := ip c_1 hF
    cases hF
  ·
    replace hF := inn c_1 hF
    refine lv_iload_n hx hb dJ3_checkIndex_8e157_4 rfl (lv_at hl 0 rfl) ?_
    refine lv_iload_n hx hb dJ3_checkIndex_8e157_5 rfl (lv_at hl 1 rfl) ?_
    refine lv_icmp_lt (tgt := 16) hx hb dJ3_checkIndex_8e157_6 (by decide) (fun c_2 => ?_) (fun c_2 => ?_)
    ·
      replace hF := ip c_2 hF
      refine lv_iload_n hx hb dJ3_checkIndex_8e157_16 rfl (lv_at hl 0 rfl) ?_
      rw [hQ]
      obtain e9_0 := inj1 hF
      exact W.iret (v := p0) hx hb hr (fun tt ht hW => ⟨_, rfl, e9_0, ht⟩) (fun _ h => by cases h) dJ3_checkIndex_8e157_17
    ·
      replace hF := inn c_2 hF
      cases hF

def F_J6_bitCount_0f7a4 (p0 : Int32) : Option (Int32) :=
  some ((((((((p0 - ((ushrF p0 (1 : Int32)) &&& (1431655765 : Int32))) &&& (858993459 : Int32)) + ((ushrF (p0 - ((ushrF p0 (1 : Int32)) &&& (1431655765 : Int32))) (2 : Int32)) &&& (858993459 : Int32))) + (ushrF (((p0 - ((ushrF p0 (1 : Int32)) &&& (1431655765 : Int32))) &&& (858993459 : Int32)) + ((ushrF (p0 - ((ushrF p0 (1 : Int32)) &&& (1431655765 : Int32))) (2 : Int32)) &&& (858993459 : Int32))) (4 : Int32))) &&& (252645135 : Int32)) + (ushrF (((((p0 - ((ushrF p0 (1 : Int32)) &&& (1431655765 : Int32))) &&& (858993459 : Int32)) + ((ushrF (p0 - ((ushrF p0 (1 : Int32)) &&& (1431655765 : Int32))) (2 : Int32)) &&& (858993459 : Int32))) + (ushrF (((p0 - ((ushrF p0 (1 : Int32)) &&& (1431655765 : Int32))) &&& (858993459 : Int32)) + ((ushrF (p0 - ((ushrF p0 (1 : Int32)) &&& (1431655765 : Int32))) (2 : Int32)) &&& (858993459 : Int32))) (4 : Int32))) &&& (252645135 : Int32)) (8 : Int32))) + (ushrF ((((((p0 - ((ushrF p0 (1 : Int32)) &&& (1431655765 : Int32))) &&& (858993459 : Int32)) + ((ushrF (p0 - ((ushrF p0 (1 : Int32)) &&& (1431655765 : Int32))) (2 : Int32)) &&& (858993459 : Int32))) + (ushrF (((p0 - ((ushrF p0 (1 : Int32)) &&& (1431655765 : Int32))) &&& (858993459 : Int32)) + ((ushrF (p0 - ((ushrF p0 (1 : Int32)) &&& (1431655765 : Int32))) (2 : Int32)) &&& (858993459 : Int32))) (4 : Int32))) &&& (252645135 : Int32)) + (ushrF (((((p0 - ((ushrF p0 (1 : Int32)) &&& (1431655765 : Int32))) &&& (858993459 : Int32)) + ((ushrF (p0 - ((ushrF p0 (1 : Int32)) &&& (1431655765 : Int32))) (2 : Int32)) &&& (858993459 : Int32))) + (ushrF (((p0 - ((ushrF p0 (1 : Int32)) &&& (1431655765 : Int32))) &&& (858993459 : Int32)) + ((ushrF (p0 - ((ushrF p0 (1 : Int32)) &&& (1431655765 : Int32))) (2 : Int32)) &&& (858993459 : Int32))) (4 : Int32))) &&& (252645135 : Int32)) (8 : Int32))) (16 : Int32))) &&& (63 : Int32))

def v_f_J6_bitCount_0f7a4 : List Cond := List.cons (.code yJ6_bitCount_0f7a4 cJ6_bitCount_0f7a4 1 (some .int)) (HAppend.hAppend (α := List Cond) (β := List Cond) (γ := List Cond) [.constant RJ6 265 (1431655765), .constant RJ6 266 (858993459), .constant RJ6 267 (252645135)] [])
theorem gw_f_J6_bitCount_0f7a4 : v_f_J6_bitCount_0f7a4.all goodWord = true := by decide +kernel
theorem hd_J6_bitCount_0f7a4 : yJ6_bitCount_0f7a4.cls = RJ6 ∧ yJ6_bitCount_0f7a4.cls ≠ "java/lang/invoke/MethodHandle" ∧ yJ6_bitCount_0f7a4.cls ≠ "java/lang/invoke/VarHandle" ∧ (parseMethodDescriptor yJ6_bitCount_0f7a4.desc).map (fun d => d.parameters.length) = some 1 := by decide +kernel
set_option maxHeartbeats 4000000 in
set_option maxRecDepth 100000 in
theorem f_J6_bitCount_0f7a4 (l : Launch) (E : EE) {p0 : Int32} {rr : Int32} (hF : F_J6_bitCount_0f7a4 p0 = some rr) : Met l yJ6_bitCount_0f7a4 v_f_J6_bitCount_0f7a4 (({ frames := 0, cells := 0, slots := 0, locals := 0 } : Room)) (va_Pc [.int p0] (pP E [])) (vp_Si (fun q : Int32 => q = rr)) 0 0 (fun _ => False) := by
  refine Met.ofWF (cc := cJ6_bitCount_0f7a4) (maxL := 1) (ret := (some .int)) (by decide +kernel) rfl ?_
  intro p e s m args below meth c s₁ B hml hv
  obtain ⟨rfl, ⟨hK, hN⟩, hP⟩ := hv
  have hx := B.exec
  have hb := B.bytes
  have hr := B.returns
  have hts := atoms_spec (ws := v_f_J6_bitCount_0f7a4) B.pre
  have hown : s.vm.findClass RJ6 = some m.cls := own_of hd_J6_bitCount_0f7a4.1 (findClass_of_methodNamed B.named)
  have hlocks : meth.locks = false := B.notSynchronized
  replace hP : va_P E.1 vwCl [] s.heap := hP
  have hl := lv_entry ([.int p0]) (n := 1) (Nat.le_of_ble_eq_true rfl)
  rw [lg_entry_eq]
  generalize (lg_sl ([.int p0]) ++ List.replicate (1 - (lg_sl ([.int p0])).length) Slot.unset).toArray = ls at hl ⊢
  have hl : lv_has ls 1 [(0, .int p0)] := hl
  obtain ⟨Q, hQ⟩ : ∃ Q : State → Prop, Q = MQ below (vp_Si (fun q : Int32 => q = rr)) #[Value.int p0] s 0 0 (fun _ => False) := ⟨_, rfl⟩
  rw [← hQ]
  change W p l e ({ frames := 0, cells := 0, slots := 0, locals := 0 } : Room) s m #[Value.int p0] below meth c s.heap [] 0 0 Q (F0 m 0 ls [])
  unfold F_J6_bitCount_0f7a4 at hF
  refine lv_iload_n hx hb dJ6_bitCount_0f7a4_0 rfl (lv_at hl 0 rfl) ?_
  refine lv_iload_n hx hb dJ6_bitCount_0f7a4_1 rfl (lv_at hl 0 rfl) ?_
  refine lv_iconst (v := 1) hx hb dJ6_bitCount_0f7a4_2 (by decide) ?_
  refine lv_iushr (v := (ushrF p0 (1 : Int32))) hx hb dJ6_bitCount_0f7a4_3 rfl ?_
  refine lv_ldcw (v := 1431655765) hx hb hown (hts (.constant RJ6 265 (1431655765)) (List.mem_of_getElem? (i := 1) rfl)) dJ6_bitCount_0f7a4_4 ?_
  refine lv_iand hx hb dJ6_bitCount_0f7a4_7 ?_
  refine lv_isub hx hb dJ6_bitCount_0f7a4_8 ?_
  refine lv_istore_n (lv' := [(0, .int (p0 - ((ushrF p0 (1 : Int32)) &&& (1431655765 : Int32))))]) hx hb dJ6_bitCount_0f7a4_9 rfl hl (by decide) rfl (fun ls hl => ?_)
  refine lv_iload_n hx hb dJ6_bitCount_0f7a4_10 rfl (lv_at hl 0 rfl) ?_
  refine lv_ldcw (v := 858993459) hx hb hown (hts (.constant RJ6 266 (858993459)) (List.mem_of_getElem? (i := 2) rfl)) dJ6_bitCount_0f7a4_11 ?_
  refine lv_iand hx hb dJ6_bitCount_0f7a4_14 ?_
  refine lv_iload_n hx hb dJ6_bitCount_0f7a4_15 rfl (lv_at hl 0 rfl) ?_
  refine lv_iconst (v := 2) hx hb dJ6_bitCount_0f7a4_16 (by decide) ?_
  refine lv_iushr (v := (ushrF (p0 - ((ushrF p0 (1 : Int32)) &&& (1431655765 : Int32))) (2 : Int32))) hx hb dJ6_bitCount_0f7a4_17 rfl ?_
  refine lv_ldcw (v := 858993459) hx hb hown (hts (.constant RJ6 266 (858993459)) (List.mem_of_getElem? (i := 2) rfl)) dJ6_bitCount_0f7a4_18 ?_
  refine lv_iand hx hb dJ6_bitCount_0f7a4_21 ?_
  refine lv_iadd hx hb dJ6_bitCount_0f7a4_22 ?_
  refine lv_istore_n (lv' := [(0, .int (((p0 - ((ushrF p0 (1 : Int32)) &&& (1431655765 : Int32))) &&& (858993459 : Int32)) + ((ushrF (p0 - ((ushrF p0 (1 : Int32)) &&& (1431655765 : Int32))) (2 : Int32)) &&& (858993459 : Int32))))]) hx hb dJ6_bitCount_0f7a4_23 rfl hl (by decide) rfl (fun ls hl => ?_)
  refine lv_iload_n hx hb dJ6_bitCount_0f7a4_24 rfl (lv_at hl 0 rfl) ?_
  refine lv_iload_n hx hb dJ6_bitCount_0f7a4_25 rfl (lv_at hl 0 rfl) ?_
  refine lv_iconst (v := 4) hx hb dJ6_bitCount_0f7a4_26 (by decide) ?_
  refine lv_iushr (v := (ushrF (((p0 - ((ushrF p0 (1 : Int32)) &&& (1431655765 : Int32))) &&& (858993459 : Int32)) + ((ushrF (p0 - ((ushrF p0 (1 : Int32)) &&& (1431655765 : Int32))) (2 : Int32)) &&& (858993459 : Int32))) (4 : Int32))) hx hb dJ6_bitCount_0f7a4_27 rfl ?_
  refine lv_iadd hx hb dJ6_bitCount_0f7a4_28 ?_
  refine lv_ldcw (v := 252645135) hx hb hown (hts (.constant RJ6 267 (252645135)) (List.mem_of_getElem? (i := 3) rfl)) dJ6_bitCount_0f7a4_29 ?_
  refine lv_iand hx hb dJ6_bitCount_0f7a4_32 ?_
  refine lv_istore_n (lv' := [(0, .int (((((p0 - ((ushrF p0 (1 : Int32)) &&& (1431655765 : Int32))) &&& (858993459 : Int32)) + ((ushrF (p0 - ((ushrF p0 (1 : Int32)) &&& (1431655765 : Int32))) (2 : Int32)) &&& (858993459 : Int32))) + (ushrF (((p0 - ((ushrF p0 (1 : Int32)) &&& (1431655765 : Int32))) &&& (858993459 : Int32)) + ((ushrF (p0 - ((ushrF p0 (1 : Int32)) &&& (1431655765 : Int32))) (2 : Int32)) &&& (858993459 : Int32))) (4 : Int32))) &&& (252645135 : Int32)))]) hx hb dJ6_bitCount_0f7a4_33 rfl hl (by decide) rfl (fun ls hl => ?_)
  refine lv_iload_n hx hb dJ6_bitCount_0f7a4_34 rfl (lv_at hl 0 rfl) ?_
  refine lv_iload_n hx hb dJ6_bitCount_0f7a4_35 rfl (lv_at hl 0 rfl) ?_
  refine lv_bipush (v := 8) hx hb dJ6_bitCount_0f7a4_36 (by decide) ?_
  refine lv_iushr (v := (ushrF (((((p0 - ((ushrF p0 (1 : Int32)) &&& (1431655765 : Int32))) &&& (858993459 : Int32)) + ((ushrF (p0 - ((ushrF p0 (1 : Int32)) &&& (1431655765 : Int32))) (2 : Int32)) &&& (858993459 : Int32))) + (ushrF (((p0 - ((ushrF p0 (1 : Int32)) &&& (1431655765 : Int32))) &&& (858993459 : Int32)) + ((ushrF (p0 - ((ushrF p0 (1 : Int32)) &&& (1431655765 : Int32))) (2 : Int32)) &&& (858993459 : Int32))) (4 : Int32))) &&& (252645135 : Int32)) (8 : Int32))) hx hb dJ6_bitCount_0f7a4_38 rfl ?_
  refine lv_iadd hx hb dJ6_bitCount_0f7a4_39 ?_
  refine lv_istore_n (lv' := [(0, .int ((((((p0 - ((ushrF p0 (1 : Int32)) &&& (1431655765 : Int32))) &&& (858993459 : Int32)) + ((ushrF (p0 - ((ushrF p0 (1 : Int32)) &&& (1431655765 : Int32))) (2 : Int32)) &&& (858993459 : Int32))) + (ushrF (((p0 - ((ushrF p0 (1 : Int32)) &&& (1431655765 : Int32))) &&& (858993459 : Int32)) + ((ushrF (p0 - ((ushrF p0 (1 : Int32)) &&& (1431655765 : Int32))) (2 : Int32)) &&& (858993459 : Int32))) (4 : Int32))) &&& (252645135 : Int32)) + (ushrF (((((p0 - ((ushrF p0 (1 : Int32)) &&& (1431655765 : Int32))) &&& (858993459 : Int32)) + ((ushrF (p0 - ((ushrF p0 (1 : Int32)) &&& (1431655765 : Int32))) (2 : Int32)) &&& (858993459 : Int32))) + (ushrF (((p0 - ((ushrF p0 (1 : Int32)) &&& (1431655765 : Int32))) &&& (858993459 : Int32)) + ((ushrF (p0 - ((ushrF p0 (1 : Int32)) &&& (1431655765 : Int32))) (2 : Int32)) &&& (858993459 : Int32))) (4 : Int32))) &&& (252645135 : Int32)) (8 : Int32))))]) hx hb dJ6_bitCount_0f7a4_40 rfl hl (by decide) rfl (fun ls hl => ?_)
  refine lv_iload_n hx hb dJ6_bitCount_0f7a4_41 rfl (lv_at hl 0 rfl) ?_
  refine lv_iload_n hx hb dJ6_bitCount_0f7a4_42 rfl (lv_at hl 0 rfl) ?_
  refine lv_bipush (v := 16) hx hb dJ6_bitCount_0f7a4_43 (by decide) ?_
  refine lv_iushr (v := (ushrF ((((((p0 - ((ushrF p0 (1 : Int32)) &&& (1431655765 : Int32))) &&& (858993459 : Int32)) + ((ushrF (p0 - ((ushrF p0 (1 : Int32)) &&& (1431655765 : Int32))) (2 : Int32)) &&& (858993459 : Int32))) + (ushrF (((p0 - ((ushrF p0 (1 : Int32)) &&& (1431655765 : Int32))) &&& (858993459 : Int32)) + ((ushrF (p0 - ((ushrF p0 (1 : Int32)) &&& (1431655765 : Int32))) (2 : Int32)) &&& (858993459 : Int32))) (4 : Int32))) &&& (252645135 : Int32)) + (ushrF (((((p0 - ((ushrF p0 (1 : Int32)) &&& (1431655765 : Int32))) &&& (858993459 : Int32)) + ((ushrF (p0 - ((ushrF p0 (1 : Int32)) &&& (1431655765 : Int32))) (2 : Int32)) &&& (858993459 : Int32))) + (ushrF (((p0 - ((ushrF p0 (1 : Int32)) &&& (1431655765 : Int32))) &&& (858993459 : Int32)) + ((ushrF (p0 - ((ushrF p0 (1 : Int32)) &&& (1431655765 : Int32))) (2 : Int32)) &&& (858993459 : Int32))) (4 : Int32))) &&& (252645135 : Int32)) (8 : Int32))) (16 : Int32))) hx hb dJ6_bitCount_0f7a4_45 rfl ?_
  refine lv_iadd hx hb dJ6_bitCount_0f7a4_46 ?_
  refine lv_istore_n (lv' := [(0, .int (((((((p0 - ((ushrF p0 (1 : Int32)) &&& (1431655765 : Int32))) &&& (858993459 : Int32)) + ((ushrF (p0 - ((ushrF p0 (1 : Int32)) &&& (1431655765 : Int32))) (2 : Int32)) &&& (858993459 : Int32))) + (ushrF (((p0 - ((ushrF p0 (1 : Int32)) &&& (1431655765 : Int32))) &&& (858993459 : Int32)) + ((ushrF (p0 - ((ushrF p0 (1 : Int32)) &&& (1431655765 : Int32))) (2 : Int32)) &&& (858993459 : Int32))) (4 : Int32))) &&& (252645135 : Int32)) + (ushrF (((((p0 - ((ushrF p0 (1 : Int32)) &&& (1431655765 : Int32))) &&& (858993459 : Int32)) + ((ushrF (p0 - ((ushrF p0 (1 : Int32)) &&& (1431655765 : Int32))) (2 : Int32)) &&& (858993459 : Int32))) + (ushrF (((p0 - ((ushrF p0 (1 : Int32)) &&& (1431655765 : Int32))) &&& (858993459 : Int32)) + ((ushrF (p0 - ((ushrF p0 (1 : Int32)) &&& (1431655765 : Int32))) (2 : Int32)) &&& (858993459 : Int32))) (4 : Int32))) &&& (252645135 : Int32)) (8 : Int32))) + (ushrF ((((((p0 - ((ushrF p0 (1 : Int32)) &&& (1431655765 : Int32))) &&& (858993459 : Int32)) + ((ushrF (p0 - ((ushrF p0 (1 : Int32)) &&& (1431655765 : Int32))) (2 : Int32)) &&& (858993459 : Int32))) + (ushrF (((p0 - ((ushrF p0 (1 : Int32)) &&& (1431655765 : Int32))) &&& (858993459 : Int32)) + ((ushrF (p0 - ((ushrF p0 (1 : Int32)) &&& (1431655765 : Int32))) (2 : Int32)) &&& (858993459 : Int32))) (4 : Int32))) &&& (252645135 : Int32)) + (ushrF (((((p0 - ((ushrF p0 (1 : Int32)) &&& (1431655765 : Int32))) &&& (858993459 : Int32)) + ((ushrF (p0 - ((ushrF p0 (1 : Int32)) &&& (1431655765 : Int32))) (2 : Int32)) &&& (858993459 : Int32))) + (ushrF (((p0 - ((ushrF p0 (1 : Int32)) &&& (1431655765 : Int32))) &&& (858993459 : Int32)) + ((ushrF (p0 - ((ushrF p0 (1 : Int32)) &&& (1431655765 : Int32))) (2 : Int32)) &&& (858993459 : Int32))) (4 : Int32))) &&& (252645135 : Int32)) (8 : Int32))) (16 : Int32))))]) hx hb dJ6_bitCount_0f7a4_47 rfl hl (by decide) rfl (fun ls hl => ?_)
  refine lv_iload_n hx hb dJ6_bitCount_0f7a4_48 rfl (lv_at hl 0 rfl) ?_
  refine lv_bipush (v := 63) hx hb dJ6_bitCount_0f7a4_49 (by decide) ?_
  refine lv_iand hx hb dJ6_bitCount_0f7a4_51 ?_
  rw [hQ]
  obtain e9_0 := inj1 hF
  exact W.iret (v := (((((((p0 - ((ushrF p0 (1 : Int32)) &&& (1431655765 : Int32))) &&& (858993459 : Int32)) + ((ushrF (p0 - ((ushrF p0 (1 : Int32)) &&& (1431655765 : Int32))) (2 : Int32)) &&& (858993459 : Int32))) + (ushrF (((p0 - ((ushrF p0 (1 : Int32)) &&& (1431655765 : Int32))) &&& (858993459 : Int32)) + ((ushrF (p0 - ((ushrF p0 (1 : Int32)) &&& (1431655765 : Int32))) (2 : Int32)) &&& (858993459 : Int32))) (4 : Int32))) &&& (252645135 : Int32)) + (ushrF (((((p0 - ((ushrF p0 (1 : Int32)) &&& (1431655765 : Int32))) &&& (858993459 : Int32)) + ((ushrF (p0 - ((ushrF p0 (1 : Int32)) &&& (1431655765 : Int32))) (2 : Int32)) &&& (858993459 : Int32))) + (ushrF (((p0 - ((ushrF p0 (1 : Int32)) &&& (1431655765 : Int32))) &&& (858993459 : Int32)) + ((ushrF (p0 - ((ushrF p0 (1 : Int32)) &&& (1431655765 : Int32))) (2 : Int32)) &&& (858993459 : Int32))) (4 : Int32))) &&& (252645135 : Int32)) (8 : Int32))) + (ushrF ((((((p0 - ((ushrF p0 (1 : Int32)) &&& (1431655765 : Int32))) &&& (858993459 : Int32)) + ((ushrF (p0 - ((ushrF p0 (1 : Int32)) &&& (1431655765 : Int32))) (2 : Int32)) &&& (858993459 : Int32))) + (ushrF (((p0 - ((ushrF p0 (1 : Int32)) &&& (1431655765 : Int32))) &&& (858993459 : Int32)) + ((ushrF (p0 - ((ushrF p0 (1 : Int32)) &&& (1431655765 : Int32))) (2 : Int32)) &&& (858993459 : Int32))) (4 : Int32))) &&& (252645135 : Int32)) + (ushrF (((((p0 - ((ushrF p0 (1 : Int32)) &&& (1431655765 : Int32))) &&& (858993459 : Int32)) + ((ushrF (p0 - ((ushrF p0 (1 : Int32)) &&& (1431655765 : Int32))) (2 : Int32)) &&& (858993459 : Int32))) + (ushrF (((p0 - ((ushrF p0 (1 : Int32)) &&& (1431655765 : Int32))) &&& (858993459 : Int32)) + ((ushrF (p0 - ((ushrF p0 (1 : Int32)) &&& (1431655765 : Int32))) (2 : Int32)) &&& (858993459 : Int32))) (4 : Int32))) &&& (252645135 : Int32)) (8 : Int32))) (16 : Int32))) &&& (63 : Int32)) hx hb hr (fun tt ht hW => ⟨_, rfl, e9_0, ht⟩) (fun _ h => by cases h) dJ6_bitCount_0f7a4_52

def F_J9_floorDiv_7cf53 (p0 : Int32) (p1 : Int32) : Option (Int32) :=
  nzI p1 (if (0 : Int32) ≤ p0 ^^^ p1 then some (p0 / p1) else if (p0 / p1) * p1 = p0 then some (p0 / p1) else some ((p0 / p1) - (1 : Int32)))

def v_f_J9_floorDiv_7cf53 : List Cond := List.cons (.code yJ9_floorDiv_7cf53 cJ9_floorDiv_7cf53 3 (some .int)) (HAppend.hAppend (α := List Cond) (β := List Cond) (γ := List Cond) [] [])
theorem gw_f_J9_floorDiv_7cf53 : v_f_J9_floorDiv_7cf53.all goodWord = true := by decide +kernel
theorem hd_J9_floorDiv_7cf53 : yJ9_floorDiv_7cf53.cls = RJ9 ∧ yJ9_floorDiv_7cf53.cls ≠ "java/lang/invoke/MethodHandle" ∧ yJ9_floorDiv_7cf53.cls ≠ "java/lang/invoke/VarHandle" ∧ (parseMethodDescriptor yJ9_floorDiv_7cf53.desc).map (fun d => d.parameters.length) = some 2 := by decide +kernel
set_option maxHeartbeats 4000000 in
set_option maxRecDepth 100000 in
theorem f_J9_floorDiv_7cf53 (l : Launch) (E : EE) {p0 : Int32} {p1 : Int32} {rr : Int32} (hF : F_J9_floorDiv_7cf53 p0 p1 = some rr) : Met l yJ9_floorDiv_7cf53 v_f_J9_floorDiv_7cf53 (({ frames := 0, cells := 0, slots := 0, locals := 0 } : Room)) (va_Pc [.int p0, .int p1] (pP E [])) (vp_Si (fun q : Int32 => q = rr)) 0 0 (fun _ => False) := by
  refine Met.ofWF (cc := cJ9_floorDiv_7cf53) (maxL := 3) (ret := (some .int)) (by decide +kernel) rfl ?_
  intro p e s m args below meth c s₁ B hml hv
  obtain ⟨rfl, ⟨hK, hN⟩, hP⟩ := hv
  have hx := B.exec
  have hb := B.bytes
  have hr := B.returns
  have hts := atoms_spec (ws := v_f_J9_floorDiv_7cf53) B.pre
  have hown : s.vm.findClass RJ9 = some m.cls := own_of hd_J9_floorDiv_7cf53.1 (findClass_of_methodNamed B.named)
  have hlocks : meth.locks = false := B.notSynchronized
  replace hP : va_P E.1 vwCl [] s.heap := hP
  have hl := lv_entry ([.int p0, .int p1]) (n := 3) (Nat.le_of_ble_eq_true rfl)
  rw [lg_entry_eq]
  generalize (lg_sl ([.int p0, .int p1]) ++ List.replicate (3 - (lg_sl ([.int p0, .int p1])).length) Slot.unset).toArray = ls at hl ⊢
  have hl : lv_has ls 3 [(0, .int p0), (1, .int p1)] := hl
  obtain ⟨Q, hQ⟩ : ∃ Q : State → Prop, Q = MQ below (vp_Si (fun q : Int32 => q = rr)) #[Value.int p0, Value.int p1] s 0 0 (fun _ => False) := ⟨_, rfl⟩
  rw [← hQ]
  change W p l e ({ frames := 0, cells := 0, slots := 0, locals := 0 } : Room) s m #[Value.int p0, Value.int p1] below meth c s.heap [] 0 0 Q (F0 m 0 ls [])
  unfold F_J9_floorDiv_7cf53 at hF
  refine lv_iload_n hx hb dJ9_floorDiv_7cf53_0 rfl (lv_at hl 0 rfl) ?_
  refine lv_iload_n hx hb dJ9_floorDiv_7cf53_1 rfl (lv_at hl 1 rfl) ?_
  replace hF := nzI_s hF
  obtain ⟨hz_1, hF⟩ := hF
  refine lv_idiv hx hb dJ9_floorDiv_7cf53_2 (hz_1) ?_
  refine lv_istore_n (lv' := [(2, .int (p0 / p1)), (0, .int p0), (1, .int p1)]) hx hb dJ9_floorDiv_7cf53_3 rfl hl (by decide) rfl (fun ls hl => ?_)
  refine lv_iload_n hx hb dJ9_floorDiv_7cf53_4 rfl (lv_at hl 1 rfl) ?_
  refine lv_iload_n hx hb dJ9_floorDiv_7cf53_5 rfl (lv_at hl 2 rfl) ?_
  refine lv_ixor hx hb dJ9_floorDiv_7cf53_6 ?_
  refine lv_if_ge (tgt := 21) hx hb dJ9_floorDiv_7cf53_7 (by decide) (fun c_2 => ?_) (fun c_2 => ?_)
  ·
    replace hF := ip c_2 hF
    refine lv_iload_n hx hb dJ9_floorDiv_7cf53_21 rfl (lv_at hl 0 rfl) ?_
    rw [hQ]
    obtain e9_0 := inj1 hF
    exact W.iret (v := p0 / p1) hx hb hr (fun tt ht hW => ⟨_, rfl, e9_0, ht⟩) (fun _ h => by cases h) dJ9_floorDiv_7cf53_22
  ·
    replace hF := inn c_2 hF
    refine lv_iload_n hx hb dJ9_floorDiv_7cf53_10 rfl (lv_at hl 0 rfl) ?_
    refine lv_iload_n hx hb dJ9_floorDiv_7cf53_11 rfl (lv_at hl 2 rfl) ?_
    refine lv_imul hx hb dJ9_floorDiv_7cf53_12 ?_
    refine lv_iload_n hx hb dJ9_floorDiv_7cf53_13 rfl (lv_at hl 1 rfl) ?_
    refine lv_icmp_eq (tgt := 21) hx hb dJ9_floorDiv_7cf53_14 (by decide) (fun c_3 => ?_) (fun c_3 => ?_)
    ·
      replace hF := ip c_3 hF
      refine lv_iload_n hx hb dJ9_floorDiv_7cf53_21 rfl (lv_at hl 0 rfl) ?_
      rw [hQ]
      obtain e9_0 := inj1 hF
      exact W.iret (v := p0 / p1) hx hb hr (fun tt ht hW => ⟨_, rfl, e9_0, ht⟩) (fun _ h => by cases h) dJ9_floorDiv_7cf53_22
    ·
      replace hF := inn c_3 hF
      refine lv_iload_n hx hb dJ9_floorDiv_7cf53_17 rfl (lv_at hl 0 rfl) ?_
      refine lv_iconst (v := 1) hx hb dJ9_floorDiv_7cf53_18 (by decide) ?_
      refine lv_isub hx hb dJ9_floorDiv_7cf53_19 ?_
      rw [hQ]
      obtain e9_0 := inj1 hF
      exact W.iret (v := (p0 / p1) - (1 : Int32)) hx hb hr (fun tt ht hW => ⟨_, rfl, e9_0, ht⟩) (fun _ h => by cases h) dJ9_floorDiv_7cf53_20

def F_J9_floorMod_7cf53 (p0 : Int32) (p1 : Int32) : Option (Int32) :=
  nzI p1 (if (0 : Int32) ≤ p0 ^^^ p1 then some (p0 - p0 / p1 * p1) else if p0 - p0 / p1 * p1 = (0 : Int32) then some (p0 - p0 / p1 * p1) else some ((p0 - p0 / p1 * p1) + p1))

def v_f_J9_floorMod_7cf53 : List Cond := List.cons (.code yJ9_floorMod_7cf53 cJ9_floorMod_7cf53 3 (some .int)) (HAppend.hAppend (α := List Cond) (β := List Cond) (γ := List Cond) [] [])
theorem gw_f_J9_floorMod_7cf53 : v_f_J9_floorMod_7cf53.all goodWord = true := by decide +kernel
theorem hd_J9_floorMod_7cf53 : yJ9_floorMod_7cf53.cls = RJ9 ∧ yJ9_floorMod_7cf53.cls ≠ "java/lang/invoke/MethodHandle" ∧ yJ9_floorMod_7cf53.cls ≠ "java/lang/invoke/VarHandle" ∧ (parseMethodDescriptor yJ9_floorMod_7cf53.desc).map (fun d => d.parameters.length) = some 2 := by decide +kernel
set_option maxHeartbeats 4000000 in
set_option maxRecDepth 100000 in
theorem f_J9_floorMod_7cf53 (l : Launch) (E : EE) {p0 : Int32} {p1 : Int32} {rr : Int32} (hF : F_J9_floorMod_7cf53 p0 p1 = some rr) : Met l yJ9_floorMod_7cf53 v_f_J9_floorMod_7cf53 (({ frames := 0, cells := 0, slots := 0, locals := 0 } : Room)) (va_Pc [.int p0, .int p1] (pP E [])) (vp_Si (fun q : Int32 => q = rr)) 0 0 (fun _ => False) := by
  refine Met.ofWF (cc := cJ9_floorMod_7cf53) (maxL := 3) (ret := (some .int)) (by decide +kernel) rfl ?_
  intro p e s m args below meth c s₁ B hml hv
  obtain ⟨rfl, ⟨hK, hN⟩, hP⟩ := hv
  have hx := B.exec
  have hb := B.bytes
  have hr := B.returns
  have hts := atoms_spec (ws := v_f_J9_floorMod_7cf53) B.pre
  have hown : s.vm.findClass RJ9 = some m.cls := own_of hd_J9_floorMod_7cf53.1 (findClass_of_methodNamed B.named)
  have hlocks : meth.locks = false := B.notSynchronized
  replace hP : va_P E.1 vwCl [] s.heap := hP
  have hl := lv_entry ([.int p0, .int p1]) (n := 3) (Nat.le_of_ble_eq_true rfl)
  rw [lg_entry_eq]
  generalize (lg_sl ([.int p0, .int p1]) ++ List.replicate (3 - (lg_sl ([.int p0, .int p1])).length) Slot.unset).toArray = ls at hl ⊢
  have hl : lv_has ls 3 [(0, .int p0), (1, .int p1)] := hl
  obtain ⟨Q, hQ⟩ : ∃ Q : State → Prop, Q = MQ below (vp_Si (fun q : Int32 => q = rr)) #[Value.int p0, Value.int p1] s 0 0 (fun _ => False) := ⟨_, rfl⟩
  rw [← hQ]
  change W p l e ({ frames := 0, cells := 0, slots := 0, locals := 0 } : Room) s m #[Value.int p0, Value.int p1] below meth c s.heap [] 0 0 Q (F0 m 0 ls [])
  unfold F_J9_floorMod_7cf53 at hF
  refine lv_iload_n hx hb dJ9_floorMod_7cf53_0 rfl (lv_at hl 0 rfl) ?_
  refine lv_iload_n hx hb dJ9_floorMod_7cf53_1 rfl (lv_at hl 1 rfl) ?_
  replace hF := nzI_s hF
  obtain ⟨hz_1, hF⟩ := hF
  refine lv_irem hx hb dJ9_floorMod_7cf53_2 (hz_1) ?_
  refine lv_istore_n (lv' := [(2, .int (p0 - p0 / p1 * p1)), (0, .int p0), (1, .int p1)]) hx hb dJ9_floorMod_7cf53_3 rfl hl (by decide) rfl (fun ls hl => ?_)
  refine lv_iload_n hx hb dJ9_floorMod_7cf53_4 rfl (lv_at hl 1 rfl) ?_
  refine lv_iload_n hx hb dJ9_floorMod_7cf53_5 rfl (lv_at hl 2 rfl) ?_
  refine lv_ixor hx hb dJ9_floorMod_7cf53_6 ?_
  refine lv_if_ge (tgt := 18) hx hb dJ9_floorMod_7cf53_7 (by decide) (fun c_2 => ?_) (fun c_2 => ?_)
  ·
    replace hF := ip c_2 hF
    refine lv_iload_n hx hb dJ9_floorMod_7cf53_18 rfl (lv_at hl 0 rfl) ?_
    rw [hQ]
    obtain e9_0 := inj1 hF
    exact W.iret (v := p0 - p0 / p1 * p1) hx hb hr (fun tt ht hW => ⟨_, rfl, e9_0, ht⟩) (fun _ h => by cases h) dJ9_floorMod_7cf53_19
  ·
    replace hF := inn c_2 hF
    refine lv_iload_n hx hb dJ9_floorMod_7cf53_10 rfl (lv_at hl 0 rfl) ?_
    refine lv_if_eq (tgt := 18) hx hb dJ9_floorMod_7cf53_11 (by decide) (fun c_3 => ?_) (fun c_3 => ?_)
    ·
      replace hF := ip c_3 hF
      refine lv_iload_n hx hb dJ9_floorMod_7cf53_18 rfl (lv_at hl 0 rfl) ?_
      rw [hQ]
      obtain e9_0 := inj1 hF
      exact W.iret (v := p0 - p0 / p1 * p1) hx hb hr (fun tt ht hW => ⟨_, rfl, e9_0, ht⟩) (fun _ h => by cases h) dJ9_floorMod_7cf53_19
    ·
      replace hF := inn c_3 hF
      refine lv_iload_n hx hb dJ9_floorMod_7cf53_14 rfl (lv_at hl 0 rfl) ?_
      refine lv_iload_n hx hb dJ9_floorMod_7cf53_15 rfl (lv_at hl 2 rfl) ?_
      refine lv_iadd hx hb dJ9_floorMod_7cf53_16 ?_
      rw [hQ]
      obtain e9_0 := inj1 hF
      exact W.iret (v := (p0 - p0 / p1 * p1) + p1) hx hb hr (fun tt ht hW => ⟨_, rfl, e9_0, ht⟩) (fun _ h => by cases h) dJ9_floorMod_7cf53_17

def F_J0_checkIndex_df160 (p0 : Int32) (p1 : Int32) : Option (Unit) :=
  bd1 (F_J3_checkIndex_8e157null p0 p1) (fun r_1 => some ())

def v_f_J0_checkIndex_df160 : List Cond := List.cons (.code yJ0_checkIndex_df160 cJ0_checkIndex_df160 2 none) (HAppend.hAppend (α := List Cond) (β := List Cond) (γ := List Cond) [.fieldLink RJ0 1053 "jdk/internal/util/Preconditions" "SIOOBE_FORMATTER" "Ljava/util/function/BiFunction;", .methodLink RJ0 1059 yJ3_checkIndex_8e157, .static yJ3_checkIndex_8e157, .initialized RJ3] (HAppend.hAppend (α := List Cond) (β := List Cond) (γ := List Cond) v_f_J3_checkIndex_8e157null (HAppend.hAppend (α := List Cond) (β := List Cond) (γ := List Cond) v_f_J3_checkIndex_8e157 [])))
theorem gw_f_J0_checkIndex_df160 : v_f_J0_checkIndex_df160.all goodWord = true := by decide +kernel
theorem g_f_J0_checkIndex_df160_f_J3_checkIndex_8e157null_1059 : GoodIn v_f_J0_checkIndex_df160 (va_wsS RJ0 1059 yJ3_checkIndex_8e157 v_f_J3_checkIndex_8e157null) := goodIn_app (goodIn_of _ (by decide +kernel)) (goodIn_sub (fun _ h => List.mem_cons_of_mem _ (List.mem_append_right _ (List.mem_append_left _ h))) gw_f_J3_checkIndex_8e157null)
theorem g_f_J0_checkIndex_df160_f_J3_checkIndex_8e157_1059 : GoodIn v_f_J0_checkIndex_df160 (va_wsS RJ0 1059 yJ3_checkIndex_8e157 v_f_J3_checkIndex_8e157) := goodIn_app (goodIn_of _ (by decide +kernel)) (goodIn_sub (fun _ h => List.mem_cons_of_mem _ (List.mem_append_right _ (List.mem_append_right _ (List.mem_append_left _ h)))) gw_f_J3_checkIndex_8e157)
theorem hd_J0_checkIndex_df160 : yJ0_checkIndex_df160.cls = RJ0 ∧ yJ0_checkIndex_df160.cls ≠ "java/lang/invoke/MethodHandle" ∧ yJ0_checkIndex_df160.cls ≠ "java/lang/invoke/VarHandle" ∧ (parseMethodDescriptor yJ0_checkIndex_df160.desc).map (fun d => d.parameters.length) = some 2 := by decide +kernel
set_option maxHeartbeats 4000000 in
set_option maxRecDepth 100000 in
theorem f_J0_checkIndex_df160 (l : Launch) (E : EE) (z9 : Nat → Nat) {p0 : Int32} {p1 : Int32} (hF : F_J0_checkIndex_df160 p0 p1 = some ()) : Met l yJ0_checkIndex_df160 v_f_J0_checkIndex_df160 (({ frames := 1, cells := 0, slots := 0, locals := 22 } : Room)) (va_Pc [.int p0, .int p1] (qPZ E z9 [])) (va_Sv (fun _ => True)) 0 0 (fun _ => False) := by
  refine Met.ofWF (cc := cJ0_checkIndex_df160) (maxL := 2) (ret := none) (by decide +kernel) rfl ?_
  intro p e s m args below meth c s₁ B hml hv
  obtain ⟨rfl, ⟨hK, hN⟩, hP, hZ⟩ := hv
  have hx := B.exec
  have hb := B.bytes
  have hr := B.returns
  have hts := atoms_spec (ws := v_f_J0_checkIndex_df160) B.pre
  have hown : s.vm.findClass RJ0 = some m.cls := own_of hd_J0_checkIndex_df160.1 (findClass_of_methodNamed B.named)
  have hlocks : meth.locks = false := B.notSynchronized
  replace hP : va_P E.1 vwCl [] s.heap := hP
  have hl := lv_entry ([.int p0, .int p1]) (n := 2) (Nat.le_of_ble_eq_true rfl)
  rw [lg_entry_eq]
  generalize (lg_sl ([.int p0, .int p1]) ++ List.replicate (2 - (lg_sl ([.int p0, .int p1])).length) Slot.unset).toArray = ls at hl ⊢
  have hl : lv_has ls 2 [(0, .int p0), (1, .int p1)] := hl
  obtain ⟨Q, hQ⟩ : ∃ Q : State → Prop, Q = MQ below (va_Sv (fun _ => True)) #[Value.int p0, Value.int p1] s 0 0 (fun _ => False) := ⟨_, rfl⟩
  rw [← hQ]
  change W p l e ({ frames := 1, cells := 0, slots := 0, locals := 22 } : Room) s m #[Value.int p0, Value.int p1] below meth c s.heap [] 0 0 Q (F0 m 0 ls [])
  unfold F_J0_checkIndex_df160 at hF
  refine lv_iload_n hx hb dJ0_checkIndex_df160_0 rfl (lv_at hl 0 rfl) ?_
  refine lv_iload_n hx hb dJ0_checkIndex_df160_1 rfl (lv_at hl 1 rfl) ?_
  rcases hZ.2.2.1.2.2.2.2.2 with hq9 | ⟨zt, hq9⟩
  ·
    refine va_gets hx hb hq9 (va_S.rf) hown (hts (.fieldLink RJ0 1053 "jdk/internal/util/Preconditions" "SIOOBE_FORMATTER" "Ljava/util/function/BiFunction;") (List.mem_of_getElem? (i := 1) rfl)) (fun _ h9 => h9) dJ0_checkIndex_df160_2 ?_
    replace hF := bd1_s hF
    obtain ⟨r_1, hc_2, hF⟩ := hF
    have hPc : va_P E.1 vwCl [] s.heap := fun k q h => by simp at h
    refine pE_i (va_runS (As := [.int p0, .int p1, .null]) (rest := [])  ⟨hx, hb, hml, hown, hts⟩ (f_J3_checkIndex_8e157null l E (p0 := p0) (p1 := p1) hc_2) (va_cwS 3 hts g_f_J0_checkIndex_df160_f_J3_checkIndex_8e157null_1059 rfl rfl rfl hd_J3_checkIndex_8e157.2 ⟨Nat.le_of_ble_eq_true rfl, Nat.le_of_ble_eq_true rfl⟩) ⟨pP.blind, (pP.pre ⟨hK, hN⟩ hPc)⟩ rfl rfl hl.1 rfl (lv_room (Nat.le_of_ble_eq_true rfl)) dJ0_checkIndex_df160_5 ⟨Nat.le_of_ble_eq_true rfl, Nat.le_of_ble_eq_true rfl⟩) ?_
    refine lv_pop hx hb dJ0_checkIndex_df160_8 rfl ?_
    rw [hQ]
    exact W.vret hx hb hr (fun tt ht hW => ⟨rfl, trivial, ht⟩) (fun _ h => by cases h) dJ0_checkIndex_df160_9
  ·
    refine va_gets hx hb hq9 (va_S.rf) hown (hts (.fieldLink RJ0 1053 "jdk/internal/util/Preconditions" "SIOOBE_FORMATTER" "Ljava/util/function/BiFunction;") (List.mem_of_getElem? (i := 1) rfl)) (fun _ h9 => h9) dJ0_checkIndex_df160_2 ?_
    replace hF := bd1_s hF
    obtain ⟨r_3, hc_4, hF⟩ := hF
    have hPc : va_P E.1 vwCl [] s.heap := fun k q h => by simp at h
    refine pE_i (va_runS (As := [.int p0, .int p1, .ref zt]) (rest := [])  ⟨hx, hb, hml, hown, hts⟩ (f_J3_checkIndex_8e157 l E (p0 := p0) (p1 := p1) hc_4) (va_cwS 3 hts g_f_J0_checkIndex_df160_f_J3_checkIndex_8e157_1059 rfl rfl rfl hd_J3_checkIndex_8e157.2 ⟨Nat.le_of_ble_eq_true rfl, Nat.le_of_ble_eq_true rfl⟩) ⟨pP.blind, (pP.pre ⟨hK, hN⟩ hPc)⟩ rfl rfl hl.1 rfl (lv_room (Nat.le_of_ble_eq_true rfl)) dJ0_checkIndex_df160_5 ⟨Nat.le_of_ble_eq_true rfl, Nat.le_of_ble_eq_true rfl⟩) ?_
    refine lv_pop hx hb dJ0_checkIndex_df160_8 rfl ?_
    rw [hQ]
    exact W.vret hx hb hr (fun tt ht hW => ⟨rfl, trivial, ht⟩) (fun _ h => by cases h) dJ0_checkIndex_df160_9

def F_J1_charAt_3b067 (p0 : Nat) (p1 : Int32) : Option (Int32) :=
  ltF p0 15 (bd1 (F_J0_checkIndex_df160 p1 (Int32.ofNat (strL.getD p0 0))) (fun u_2 => ltF p0 15 (ixF p1 (strL.getD p0 0) (some (((((strB.getD p0 []).getD p1.toNatClampNeg 0) &&& (255 : Int32)).toUInt32 % 65536).toInt32)))))

def v_f_J1_charAt_3b067 : List Cond := List.cons (.code yJ1_charAt_3b067 cJ1_charAt_3b067 2 (some .char)) (HAppend.hAppend (α := List Cond) (β := List Cond) (γ := List Cond) [.methodLink RJ1 9 yJ0_checkIndex_df160, .static yJ0_checkIndex_df160, .initialized RJ0] (HAppend.hAppend (α := List Cond) (β := List Cond) (γ := List Cond) v_f_J0_checkIndex_df160 []))
theorem gw_f_J1_charAt_3b067 : v_f_J1_charAt_3b067.all goodWord = true := by decide +kernel
theorem g_f_J1_charAt_3b067_f_J0_checkIndex_df160_9 : GoodIn v_f_J1_charAt_3b067 (va_wsS RJ1 9 yJ0_checkIndex_df160 v_f_J0_checkIndex_df160) := goodIn_app (goodIn_of _ (by decide +kernel)) (goodIn_sub (fun _ h => List.mem_cons_of_mem _ (List.mem_append_right _ (List.mem_append_left _ h))) gw_f_J0_checkIndex_df160)
theorem hd_J1_charAt_3b067 : yJ1_charAt_3b067.cls = RJ1 ∧ yJ1_charAt_3b067.cls ≠ "java/lang/invoke/MethodHandle" ∧ yJ1_charAt_3b067.cls ≠ "java/lang/invoke/VarHandle" ∧ (parseMethodDescriptor yJ1_charAt_3b067.desc).map (fun d => d.parameters.length) = some 2 := by decide +kernel
set_option maxHeartbeats 4000000 in
set_option maxRecDepth 100000 in
theorem f_J1_charAt_3b067 (l : Launch) (E : EE) (z9 : Nat → Nat) {p0 : Nat} {p1 : Int32} {rr : Int32} (hF : F_J1_charAt_3b067 p0 p1 = some rr) : Met l yJ1_charAt_3b067 v_f_J1_charAt_3b067 (({ frames := 2, cells := 0, slots := 0, locals := 43 } : Room)) (va_Pc [.ref (z9 (40 + p0)), .int p1] (qPZ E z9 [])) (vp_Si (fun q : Int32 => q = rr ∧ narrow .char (.int q) = .int q)) 0 0 (fun _ => False) := by
  refine Met.ofWF (cc := cJ1_charAt_3b067) (maxL := 2) (ret := (some .char)) (by decide +kernel) rfl ?_
  intro p e s m args below meth c s₁ B hml hv
  obtain ⟨rfl, ⟨hK, hN⟩, hP, hZ⟩ := hv
  have hx := B.exec
  have hb := B.bytes
  have hr := B.returns
  have hts := atoms_spec (ws := v_f_J1_charAt_3b067) B.pre
  have hown : s.vm.findClass RJ1 = some m.cls := own_of hd_J1_charAt_3b067.1 (findClass_of_methodNamed B.named)
  have hlocks : meth.locks = false := B.notSynchronized
  replace hP : va_P E.1 vwCl [] s.heap := hP
  have hl := lv_entry ([.ref (z9 (40 + p0)), .int p1]) (n := 2) (Nat.le_of_ble_eq_true rfl)
  rw [lg_entry_eq]
  generalize (lg_sl ([.ref (z9 (40 + p0)), .int p1]) ++ List.replicate (2 - (lg_sl ([.ref (z9 (40 + p0)), .int p1])).length) Slot.unset).toArray = ls at hl ⊢
  have hl : lv_has ls 2 [(0, .ref (z9 (40 + p0))), (1, .int p1)] := hl
  obtain ⟨Q, hQ⟩ : ∃ Q : State → Prop, Q = MQ below (vp_Si (fun q : Int32 => q = rr ∧ narrow .char (.int q) = .int q)) #[Value.ref (z9 (40 + p0)), Value.int p1] s 0 0 (fun _ => False) := ⟨_, rfl⟩
  rw [← hQ]
  change W p l e ({ frames := 2, cells := 0, slots := 0, locals := 43 } : Room) s m #[Value.ref (z9 (40 + p0)), Value.int p1] below meth c s.heap [] 0 0 Q (F0 m 0 ls [])
  unfold F_J1_charAt_3b067 at hF
  refine lv_iload_n hx hb dJ1_charAt_3b067_0 rfl (lv_at hl 1 rfl) ?_
  refine lv_aload_n hx hb dJ1_charAt_3b067_1 rfl (lv_at hl 0 rfl) ?_
  replace hF := ltF_s hF
  obtain ⟨hs_1, hF⟩ := hF
  refine va_tlen (v := (Int32.ofNat (strL.getD p0 0))) hx hb ((hZ.2.2.2.1.1 p0 hs_1).2.2.2) (va_S.rf) rfl dJ1_charAt_3b067_2 ?_
  replace hF := bd1_s hF
  obtain ⟨u_2, hc_3, hF⟩ := hF
  have hPc : va_P E.1 vwCl [] s.heap := fun k q h => by simp at h
  refine pc_v (va_runS (As := [.int p1, .int (Int32.ofNat (strL.getD p0 0))]) (rest := [])  ⟨hx, hb, hml, hown, hts⟩ (f_J0_checkIndex_df160 l E z9 (p0 := p1) (p1 := (Int32.ofNat (strL.getD p0 0))) hc_3) (va_cwS 2 hts g_f_J1_charAt_3b067_f_J0_checkIndex_df160_9 rfl rfl rfl hd_J0_checkIndex_df160.2 ⟨Nat.le_of_ble_eq_true rfl, Nat.le_of_ble_eq_true rfl⟩) ⟨qPZ.blind, (qPZ.pre0 ⟨hK, hN⟩ hPc hZ)⟩ rfl rfl hl.1 rfl (lv_room (Nat.le_of_ble_eq_true rfl)) dJ1_charAt_3b067_3 ⟨Nat.le_of_ble_eq_true rfl, Nat.le_of_ble_eq_true rfl⟩) ?_
  refine lv_aload_n hx hb dJ1_charAt_3b067_6 rfl (lv_at hl 0 rfl) ?_
  refine lv_iload_n hx hb dJ1_charAt_3b067_7 rfl (lv_at hl 1 rfl) ?_
  replace hF := ltF_s hF
  obtain ⟨hs_4, hF⟩ := hF
  replace hF := ix_s hF
  obtain ⟨hi_5, hF⟩ := hF
  refine va_tb (v := .int ((strB.getD p0 []).getD p1.toNatClampNeg 0)) hx hb ((hZ.2.2.2.1.1 p0 hs_4).2.2.2) (va_S.rf) hi_5 rfl dJ1_charAt_3b067_8 ?_
  refine lv_sipush (v := 255) hx hb dJ1_charAt_3b067_9 (by decide) ?_
  refine lv_iand hx hb dJ1_charAt_3b067_12 ?_
  refine lv_i2c (v := ((((strB.getD p0 []).getD p1.toNatClampNeg 0) &&& (255 : Int32)).toUInt32 % 65536).toInt32) hx hb dJ1_charAt_3b067_13 rfl ?_
  rw [hQ]
  obtain e9_0 := inj1 hF
  exact W.zret (v := ((((strB.getD p0 []).getD p1.toNatClampNeg 0) &&& (255 : Int32)).toUInt32 % 65536).toInt32) hx hb hr (nar_c _) (fun tt ht hW => ⟨_, rfl, ⟨e9_0, (nar_c _)⟩, ht⟩) (fun _ h => by cases h) dJ1_charAt_3b067_14

def F_J0_coder_7d493 (p0 : Nat) : Option (Int32) :=
  ltF p0 15 (some (0 : Int32))

def v_f_J0_coder_7d493 : List Cond := List.cons (.code yJ0_coder_7d493 cJ0_coder_7d493 1 (some .byte)) (HAppend.hAppend (α := List Cond) (β := List Cond) (γ := List Cond) [.fieldLink RJ0 38 "java/lang/String" "COMPACT_STRINGS" "Z", .fieldLink RJ0 15 "java/lang/String" "coder" "B"] [])
theorem gw_f_J0_coder_7d493 : v_f_J0_coder_7d493.all goodWord = true := by decide +kernel
theorem hd_J0_coder_7d493 : yJ0_coder_7d493.cls = RJ0 ∧ yJ0_coder_7d493.cls ≠ "java/lang/invoke/MethodHandle" ∧ yJ0_coder_7d493.cls ≠ "java/lang/invoke/VarHandle" ∧ (parseMethodDescriptor yJ0_coder_7d493.desc).map (fun d => d.parameters.length) = some 0 := by decide +kernel
set_option maxHeartbeats 4000000 in
set_option maxRecDepth 100000 in
theorem f_J0_coder_7d493 (l : Launch) (E : EE) (z9 : Nat → Nat) {p0 : Nat} {rr : Int32} (hF : F_J0_coder_7d493 p0 = some rr) : Met l yJ0_coder_7d493 v_f_J0_coder_7d493 (({ frames := 0, cells := 0, slots := 0, locals := 0 } : Room)) (va_Pc [.ref (z9 (20 + p0))] (qPZ E z9 [])) (vp_Si (fun q : Int32 => q = rr ∧ narrow .byte (.int q) = .int q)) 0 0 (fun _ => False) := by
  refine Met.ofWF (cc := cJ0_coder_7d493) (maxL := 1) (ret := (some .byte)) (by decide +kernel) rfl ?_
  intro p e s m args below meth c s₁ B hml hv
  obtain ⟨rfl, ⟨hK, hN⟩, hP, hZ⟩ := hv
  have hx := B.exec
  have hb := B.bytes
  have hr := B.returns
  have hts := atoms_spec (ws := v_f_J0_coder_7d493) B.pre
  have hown : s.vm.findClass RJ0 = some m.cls := own_of hd_J0_coder_7d493.1 (findClass_of_methodNamed B.named)
  have hlocks : meth.locks = false := B.notSynchronized
  replace hP : va_P E.1 vwCl [] s.heap := hP
  have hl := lv_entry ([.ref (z9 (20 + p0))]) (n := 1) (Nat.le_of_ble_eq_true rfl)
  rw [lg_entry_eq]
  generalize (lg_sl ([.ref (z9 (20 + p0))]) ++ List.replicate (1 - (lg_sl ([.ref (z9 (20 + p0))])).length) Slot.unset).toArray = ls at hl ⊢
  have hl : lv_has ls 1 [(0, .ref (z9 (20 + p0)))] := hl
  obtain ⟨Q, hQ⟩ : ∃ Q : State → Prop, Q = MQ below (vp_Si (fun q : Int32 => q = rr ∧ narrow .byte (.int q) = .int q)) #[Value.ref (z9 (20 + p0))] s 0 0 (fun _ => False) := ⟨_, rfl⟩
  rw [← hQ]
  change W p l e ({ frames := 0, cells := 0, slots := 0, locals := 0 } : Room) s m #[Value.ref (z9 (20 + p0))] below meth c s.heap [] 0 0 Q (F0 m 0 ls [])
  unfold F_J0_coder_7d493 at hF
  refine va_gets hx hb hZ.2.2.1.1 (va_S.rf) hown (hts (.fieldLink RJ0 38 "java/lang/String" "COMPACT_STRINGS" "Z") (List.mem_of_getElem? (i := 1) rfl)) (fun _ h9 => h9) dJ0_coder_7d493_0 ?_
  refine lv_if_eq (tgt := 13) hx hb dJ0_coder_7d493_3 (by decide) (fun q => absurd q (by decide)) (fun _ => ?_)
  refine lv_aload_n hx hb dJ0_coder_7d493_6 rfl (lv_at hl 0 rfl) ?_
  replace hF := ltF_s hF
  obtain ⟨hs_1, hF⟩ := hF
  refine vk_getf (v := .int (0 : Int32)) hx hb ((hZ.2.2.2.1.1 p0 hs_1).2.1) (va_S.rf) hown (hts (.fieldLink RJ0 15 "java/lang/String" "coder" "B") (List.mem_of_getElem? (i := 2) rfl)) (fun _ h9 => h9) dJ0_coder_7d493_7 ?_
  refine lv_goto (tgt := 14) hx hb dJ0_coder_7d493_10 (by decide) ?_
  rw [hQ]
  obtain e9_0 := inj1 hF
  exact W.zret (v := (0 : Int32)) hx hb hr rfl (fun tt ht hW => ⟨_, rfl, ⟨e9_0, rfl⟩, ht⟩) (fun _ h => by cases h) dJ0_coder_7d493_14

def F_J0_length_8abf5 (p0 : Nat) : Option (Int32) :=
  ltF p0 15 (ltF p0 15 (ltF p0 15 (bd1 (F_J0_coder_7d493 p0) (fun r_3 => some ((Int32.ofNat (strL.getD p0 0)) >>> (r_3 &&& (31 : Int32)))))))

def v_f_J0_length_8abf5 : List Cond := List.cons (.code yJ0_length_8abf5 cJ0_length_8abf5 1 (some .int)) (HAppend.hAppend (α := List Cond) (β := List Cond) (γ := List Cond) [.fieldLink RJ0 9 "java/lang/String" "value" "[B", .methodLink RJ0 335 yJ0_coder_7d493, .instanceMethod yJ0_coder_7d493, .selects RJ0 yJ0_coder_7d493 yJ0_coder_7d493, .initialized RJ0] (HAppend.hAppend (α := List Cond) (β := List Cond) (γ := List Cond) v_f_J0_coder_7d493 []))
theorem gw_f_J0_length_8abf5 : v_f_J0_length_8abf5.all goodWord = true := by decide +kernel
theorem g_f_J0_length_8abf5_f_J0_coder_7d493_335 : GoodIn v_f_J0_length_8abf5 (wsV RJ0 335 RJ0 yJ0_coder_7d493 v_f_J0_coder_7d493) := goodIn_app (goodIn_of _ (by decide +kernel)) (goodIn_sub (fun _ h => List.mem_cons_of_mem _ (List.mem_append_right _ (List.mem_append_left _ h))) gw_f_J0_coder_7d493)
theorem hd_J0_length_8abf5 : yJ0_length_8abf5.cls = RJ0 ∧ yJ0_length_8abf5.cls ≠ "java/lang/invoke/MethodHandle" ∧ yJ0_length_8abf5.cls ≠ "java/lang/invoke/VarHandle" ∧ (parseMethodDescriptor yJ0_length_8abf5.desc).map (fun d => d.parameters.length) = some 0 := by decide +kernel
set_option maxHeartbeats 4000000 in
set_option maxRecDepth 100000 in
theorem f_J0_length_8abf5 (l : Launch) (E : EE) (z9 : Nat → Nat) {p0 : Nat} {rr : Int32} (hF : F_J0_length_8abf5 p0 = some rr) : Met l yJ0_length_8abf5 v_f_J0_length_8abf5 (({ frames := 1, cells := 0, slots := 0, locals := 20 } : Room)) (va_Pc [.ref (z9 (20 + p0))] (qPZ E z9 [])) (vp_Si (fun q : Int32 => q = rr)) 0 0 (fun _ => False) := by
  refine Met.ofWF (cc := cJ0_length_8abf5) (maxL := 1) (ret := (some .int)) (by decide +kernel) rfl ?_
  intro p e s m args below meth c s₁ B hml hv
  obtain ⟨rfl, ⟨hK, hN⟩, hP, hZ⟩ := hv
  have hx := B.exec
  have hb := B.bytes
  have hr := B.returns
  have hts := atoms_spec (ws := v_f_J0_length_8abf5) B.pre
  have hown : s.vm.findClass RJ0 = some m.cls := own_of hd_J0_length_8abf5.1 (findClass_of_methodNamed B.named)
  have hlocks : meth.locks = false := B.notSynchronized
  replace hP : va_P E.1 vwCl [] s.heap := hP
  have hl := lv_entry ([.ref (z9 (20 + p0))]) (n := 1) (Nat.le_of_ble_eq_true rfl)
  rw [lg_entry_eq]
  generalize (lg_sl ([.ref (z9 (20 + p0))]) ++ List.replicate (1 - (lg_sl ([.ref (z9 (20 + p0))])).length) Slot.unset).toArray = ls at hl ⊢
  have hl : lv_has ls 1 [(0, .ref (z9 (20 + p0)))] := hl
  obtain ⟨Q, hQ⟩ : ∃ Q : State → Prop, Q = MQ below (vp_Si (fun q : Int32 => q = rr)) #[Value.ref (z9 (20 + p0))] s 0 0 (fun _ => False) := ⟨_, rfl⟩
  rw [← hQ]
  change W p l e ({ frames := 1, cells := 0, slots := 0, locals := 20 } : Room) s m #[Value.ref (z9 (20 + p0))] below meth c s.heap [] 0 0 Q (F0 m 0 ls [])
  unfold F_J0_length_8abf5 at hF
  refine lv_aload_n hx hb dJ0_length_8abf5_0 rfl (lv_at hl 0 rfl) ?_
  replace hF := ltF_s hF
  obtain ⟨hs_1, hF⟩ := hF
  refine vk_getf (v := .ref (z9 (40 + p0))) hx hb ((hZ.2.2.2.1.1 p0 hs_1).2.2.1) (va_S.rf) hown (hts (.fieldLink RJ0 9 "java/lang/String" "value" "[B") (List.mem_of_getElem? (i := 1) rfl)) (fun _ h9 => h9) dJ0_length_8abf5_1 ?_
  replace hF := ltF_s hF
  obtain ⟨hs_2, hF⟩ := hF
  refine va_tlen (v := (Int32.ofNat (strL.getD p0 0))) hx hb ((hZ.2.2.2.1.1 p0 hs_2).2.2.2) (va_S.rf) rfl dJ0_length_8abf5_4 ?_
  refine lv_aload_n hx hb dJ0_length_8abf5_5 rfl (lv_at hl 0 rfl) ?_
  replace hF := ltF_s hF
  obtain ⟨hs_4, hF⟩ := hF
  replace hF := bd1_s hF
  obtain ⟨r_3, hc_5, hF⟩ := hF
  have hPc : va_P E.1 vwCl [] s.heap := fun k q h => by simp at h
  refine pE_b (va_runV (As := []) (rest := [.int (Int32.ofNat (strL.getD p0 0))])  ⟨hx, hb, hml, hown, hts⟩ (f_J0_coder_7d493 l E z9 (p0 := p0) hc_5) (cwV 0 hts g_f_J0_length_8abf5_f_J0_coder_7d493_335 rfl rfl rfl hd_J0_coder_7d493 ⟨Nat.le_of_ble_eq_true rfl, Nat.le_of_ble_eq_true rfl⟩) ⟨qPZ.blind, vk_recv hZ.2.2.2.1 hs_4 (va_S.rf), (qPZ.pre0 ⟨hK, hN⟩ hPc hZ)⟩ rfl rfl hl.1 rfl (lv_room (Nat.le_of_ble_eq_true rfl)) dJ0_length_8abf5_6 ⟨Nat.le_of_ble_eq_true rfl, Nat.le_of_ble_eq_true rfl⟩) (fun hb_6 => ?_)
  refine lv_ishr hx hb dJ0_length_8abf5_9 ?_
  rw [hQ]
  obtain e9_0 := inj1 hF
  exact W.iret (v := (Int32.ofNat (strL.getD p0 0)) >>> (r_3 &&& (31 : Int32))) hx hb hr (fun tt ht hW => ⟨_, rfl, e9_0, ht⟩) (fun _ h => by cases h) dJ0_length_8abf5_10

def F_J0_isLatin1_aae02 (p0 : Nat) : Option (Int32) :=
  ltF p0 15 (some (1 : Int32))

def v_f_J0_isLatin1_aae02 : List Cond := List.cons (.code yJ0_isLatin1_aae02 cJ0_isLatin1_aae02 1 (some .boolean)) (HAppend.hAppend (α := List Cond) (β := List Cond) (γ := List Cond) [.fieldLink RJ0 38 "java/lang/String" "COMPACT_STRINGS" "Z", .fieldLink RJ0 15 "java/lang/String" "coder" "B"] [])
theorem gw_f_J0_isLatin1_aae02 : v_f_J0_isLatin1_aae02.all goodWord = true := by decide +kernel
theorem hd_J0_isLatin1_aae02 : yJ0_isLatin1_aae02.cls = RJ0 ∧ yJ0_isLatin1_aae02.cls ≠ "java/lang/invoke/MethodHandle" ∧ yJ0_isLatin1_aae02.cls ≠ "java/lang/invoke/VarHandle" ∧ (parseMethodDescriptor yJ0_isLatin1_aae02.desc).map (fun d => d.parameters.length) = some 0 := by decide +kernel
set_option maxHeartbeats 4000000 in
set_option maxRecDepth 100000 in
theorem f_J0_isLatin1_aae02 (l : Launch) (E : EE) (z9 : Nat → Nat) {p0 : Nat} {rr : Int32} (hF : F_J0_isLatin1_aae02 p0 = some rr) : Met l yJ0_isLatin1_aae02 v_f_J0_isLatin1_aae02 (({ frames := 0, cells := 0, slots := 0, locals := 0 } : Room)) (va_Pc [.ref (z9 (20 + p0))] (qPZ E z9 [])) (vp_Si (fun q : Int32 => q = rr ∧ (q = 0 ∨ q = 1))) 0 0 (fun _ => False) := by
  refine Met.ofWF (cc := cJ0_isLatin1_aae02) (maxL := 1) (ret := (some .boolean)) (by decide +kernel) rfl ?_
  intro p e s m args below meth c s₁ B hml hv
  obtain ⟨rfl, ⟨hK, hN⟩, hP, hZ⟩ := hv
  have hx := B.exec
  have hb := B.bytes
  have hr := B.returns
  have hts := atoms_spec (ws := v_f_J0_isLatin1_aae02) B.pre
  have hown : s.vm.findClass RJ0 = some m.cls := own_of hd_J0_isLatin1_aae02.1 (findClass_of_methodNamed B.named)
  have hlocks : meth.locks = false := B.notSynchronized
  replace hP : va_P E.1 vwCl [] s.heap := hP
  have hl := lv_entry ([.ref (z9 (20 + p0))]) (n := 1) (Nat.le_of_ble_eq_true rfl)
  rw [lg_entry_eq]
  generalize (lg_sl ([.ref (z9 (20 + p0))]) ++ List.replicate (1 - (lg_sl ([.ref (z9 (20 + p0))])).length) Slot.unset).toArray = ls at hl ⊢
  have hl : lv_has ls 1 [(0, .ref (z9 (20 + p0)))] := hl
  obtain ⟨Q, hQ⟩ : ∃ Q : State → Prop, Q = MQ below (vp_Si (fun q : Int32 => q = rr ∧ (q = 0 ∨ q = 1))) #[Value.ref (z9 (20 + p0))] s 0 0 (fun _ => False) := ⟨_, rfl⟩
  rw [← hQ]
  change W p l e ({ frames := 0, cells := 0, slots := 0, locals := 0 } : Room) s m #[Value.ref (z9 (20 + p0))] below meth c s.heap [] 0 0 Q (F0 m 0 ls [])
  unfold F_J0_isLatin1_aae02 at hF
  refine va_gets hx hb hZ.2.2.1.1 (va_S.rf) hown (hts (.fieldLink RJ0 38 "java/lang/String" "COMPACT_STRINGS" "Z") (List.mem_of_getElem? (i := 1) rfl)) (fun _ h9 => h9) dJ0_isLatin1_aae02_0 ?_
  refine lv_if_eq (tgt := 17) hx hb dJ0_isLatin1_aae02_3 (by decide) (fun q => absurd q (by decide)) (fun _ => ?_)
  refine lv_aload_n hx hb dJ0_isLatin1_aae02_6 rfl (lv_at hl 0 rfl) ?_
  replace hF := ltF_s hF
  obtain ⟨hs_1, hF⟩ := hF
  refine vk_getf (v := .int (0 : Int32)) hx hb ((hZ.2.2.2.1.1 p0 hs_1).2.1) (va_S.rf) hown (hts (.fieldLink RJ0 15 "java/lang/String" "coder" "B") (List.mem_of_getElem? (i := 2) rfl)) (fun _ h9 => h9) dJ0_isLatin1_aae02_7 ?_
  refine lv_if_ne (tgt := 17) hx hb dJ0_isLatin1_aae02_10 (by decide) (fun q => absurd (by decide) q) (fun _ => ?_)
  refine lv_iconst (v := 1) hx hb dJ0_isLatin1_aae02_13 (by decide) ?_
  refine lv_goto (tgt := 18) hx hb dJ0_isLatin1_aae02_14 (by decide) ?_
  rw [hQ]
  obtain e9_0 := inj1 hF
  exact W.zret (v := (1 : Int32)) hx hb hr rfl (fun tt ht hW => ⟨_, rfl, ⟨e9_0, Or.inr rfl⟩, ht⟩) (fun _ h => by cases h) dJ0_isLatin1_aae02_18

def F_J0_charAt_5068e (p0 : Nat) (p1 : Int32) : Option (Int32) :=
  ltF p0 15 (bd1 (F_J0_isLatin1_aae02 p0) (fun r_1 => if r_1 = (0 : Int32) then none else ltF p0 15 (bd1 (F_J1_charAt_3b067 p0 p1) (fun r_7 => some r_7))))

def v_f_J0_charAt_5068e : List Cond := List.cons (.code yJ0_charAt_5068e cJ0_charAt_5068e 2 (some .char)) (HAppend.hAppend (α := List Cond) (β := List Cond) (γ := List Cond) [.fieldLink RJ0 9 "java/lang/String" "value" "[B", .methodLink RJ0 492 yJ0_isLatin1_aae02, .instanceMethod yJ0_isLatin1_aae02, .selects RJ0 yJ0_isLatin1_aae02 yJ0_isLatin1_aae02, .initialized RJ0, .methodLink RJ0 495 yJ1_charAt_3b067, .static yJ1_charAt_3b067, .initialized RJ1] (HAppend.hAppend (α := List Cond) (β := List Cond) (γ := List Cond) v_f_J0_isLatin1_aae02 (HAppend.hAppend (α := List Cond) (β := List Cond) (γ := List Cond) v_f_J1_charAt_3b067 [])))
theorem gw_f_J0_charAt_5068e : v_f_J0_charAt_5068e.all goodWord = true := by decide +kernel
theorem g_f_J0_charAt_5068e_f_J0_isLatin1_aae02_492 : GoodIn v_f_J0_charAt_5068e (wsV RJ0 492 RJ0 yJ0_isLatin1_aae02 v_f_J0_isLatin1_aae02) := goodIn_app (goodIn_of _ (by decide +kernel)) (goodIn_sub (fun _ h => List.mem_cons_of_mem _ (List.mem_append_right _ (List.mem_append_left _ h))) gw_f_J0_isLatin1_aae02)
theorem g_f_J0_charAt_5068e_f_J1_charAt_3b067_495 : GoodIn v_f_J0_charAt_5068e (va_wsS RJ0 495 yJ1_charAt_3b067 v_f_J1_charAt_3b067) := goodIn_app (goodIn_of _ (by decide +kernel)) (goodIn_sub (fun _ h => List.mem_cons_of_mem _ (List.mem_append_right _ (List.mem_append_right _ (List.mem_append_left _ h)))) gw_f_J1_charAt_3b067)
theorem hd_J0_charAt_5068e : yJ0_charAt_5068e.cls = RJ0 ∧ yJ0_charAt_5068e.cls ≠ "java/lang/invoke/MethodHandle" ∧ yJ0_charAt_5068e.cls ≠ "java/lang/invoke/VarHandle" ∧ (parseMethodDescriptor yJ0_charAt_5068e.desc).map (fun d => d.parameters.length) = some 1 := by decide +kernel
set_option maxHeartbeats 4000000 in
set_option maxRecDepth 100000 in
theorem f_J0_charAt_5068e (l : Launch) (E : EE) (z9 : Nat → Nat) {p0 : Nat} {p1 : Int32} {rr : Int32} (hF : F_J0_charAt_5068e p0 p1 = some rr) : Met l yJ0_charAt_5068e v_f_J0_charAt_5068e (({ frames := 3, cells := 0, slots := 0, locals := 64 } : Room)) (va_Pc [.ref (z9 (20 + p0)), .int p1] (qPZ E z9 [])) (vp_Si (fun q : Int32 => q = rr ∧ narrow .char (.int q) = .int q)) 0 0 (fun _ => False) := by
  refine Met.ofWF (cc := cJ0_charAt_5068e) (maxL := 2) (ret := (some .char)) (by decide +kernel) rfl ?_
  intro p e s m args below meth c s₁ B hml hv
  obtain ⟨rfl, ⟨hK, hN⟩, hP, hZ⟩ := hv
  have hx := B.exec
  have hb := B.bytes
  have hr := B.returns
  have hts := atoms_spec (ws := v_f_J0_charAt_5068e) B.pre
  have hown : s.vm.findClass RJ0 = some m.cls := own_of hd_J0_charAt_5068e.1 (findClass_of_methodNamed B.named)
  have hlocks : meth.locks = false := B.notSynchronized
  replace hP : va_P E.1 vwCl [] s.heap := hP
  have hl := lv_entry ([.ref (z9 (20 + p0)), .int p1]) (n := 2) (Nat.le_of_ble_eq_true rfl)
  rw [lg_entry_eq]
  generalize (lg_sl ([.ref (z9 (20 + p0)), .int p1]) ++ List.replicate (2 - (lg_sl ([.ref (z9 (20 + p0)), .int p1])).length) Slot.unset).toArray = ls at hl ⊢
  have hl : lv_has ls 2 [(0, .ref (z9 (20 + p0))), (1, .int p1)] := hl
  obtain ⟨Q, hQ⟩ : ∃ Q : State → Prop, Q = MQ below (vp_Si (fun q : Int32 => q = rr ∧ narrow .char (.int q) = .int q)) #[Value.ref (z9 (20 + p0)), Value.int p1] s 0 0 (fun _ => False) := ⟨_, rfl⟩
  rw [← hQ]
  change W p l e ({ frames := 3, cells := 0, slots := 0, locals := 64 } : Room) s m #[Value.ref (z9 (20 + p0)), Value.int p1] below meth c s.heap [] 0 0 Q (F0 m 0 ls [])
  unfold F_J0_charAt_5068e at hF
  refine lv_aload_n hx hb dJ0_charAt_5068e_0 rfl (lv_at hl 0 rfl) ?_
  replace hF := ltF_s hF
  obtain ⟨hs_2, hF⟩ := hF
  replace hF := bd1_s hF
  obtain ⟨r_1, hc_3, hF⟩ := hF
  have hPc : va_P E.1 vwCl [] s.heap := fun k q h => by simp at h
  refine pE_z (va_runV (As := []) (rest := [])  ⟨hx, hb, hml, hown, hts⟩ (f_J0_isLatin1_aae02 l E z9 (p0 := p0) hc_3) (cwV 0 hts g_f_J0_charAt_5068e_f_J0_isLatin1_aae02_492 rfl rfl rfl hd_J0_isLatin1_aae02 ⟨Nat.le_of_ble_eq_true rfl, Nat.le_of_ble_eq_true rfl⟩) ⟨qPZ.blind, vk_recv hZ.2.2.2.1 hs_2 (va_S.rf), (qPZ.pre0 ⟨hK, hN⟩ hPc hZ)⟩ rfl rfl hl.1 rfl (lv_room (Nat.le_of_ble_eq_true rfl)) dJ0_charAt_5068e_1 ⟨Nat.le_of_ble_eq_true rfl, Nat.le_of_ble_eq_true rfl⟩) (fun hb_4 => ?_)
  refine lv_if_eq (tgt := 16) hx hb dJ0_charAt_5068e_4 (by decide) (fun c_5 => ?_) (fun c_5 => ?_)
  ·
    replace hF := ip c_5 hF
    cases hF
  ·
    replace hF := inn c_5 hF
    refine lv_aload_n hx hb dJ0_charAt_5068e_7 rfl (lv_at hl 0 rfl) ?_
    replace hF := ltF_s hF
    obtain ⟨hs_6, hF⟩ := hF
    refine vk_getf (v := .ref (z9 (40 + p0))) hx hb ((hZ.2.2.2.1.1 p0 hs_6).2.2.1) (va_S.rf) hown (hts (.fieldLink RJ0 9 "java/lang/String" "value" "[B") (List.mem_of_getElem? (i := 1) rfl)) (fun _ h9 => h9) dJ0_charAt_5068e_8 ?_
    refine lv_iload_n hx hb dJ0_charAt_5068e_11 rfl (lv_at hl 1 rfl) ?_
    replace hF := bd1_s hF
    obtain ⟨r_7, hc_8, hF⟩ := hF
    have hPc : va_P E.1 vwCl [] s.heap := fun k q h => by simp at h
    refine pE_c (va_runS (As := [.ref (z9 (40 + p0)), .int p1]) (rest := [])  ⟨hx, hb, hml, hown, hts⟩ (f_J1_charAt_3b067 l E z9 (p0 := p0) (p1 := p1) hc_8) (va_cwS 2 hts g_f_J0_charAt_5068e_f_J1_charAt_3b067_495 rfl rfl rfl hd_J1_charAt_3b067.2 ⟨Nat.le_of_ble_eq_true rfl, Nat.le_of_ble_eq_true rfl⟩) ⟨qPZ.blind, (qPZ.pre0 ⟨hK, hN⟩ hPc hZ)⟩ rfl rfl hl.1 rfl (lv_room (Nat.le_of_ble_eq_true rfl)) dJ0_charAt_5068e_12 ⟨Nat.le_of_ble_eq_true rfl, Nat.le_of_ble_eq_true rfl⟩) (fun hb_9 => ?_)
    rw [hQ]
    obtain e9_0 := inj1 hF
    exact W.zret (v := r_7) hx hb hr hb_9 (fun tt ht hW => ⟨_, rfl, ⟨e9_0, hb_9⟩, ht⟩) (fun _ h => by cases h) dJ0_charAt_5068e_15
