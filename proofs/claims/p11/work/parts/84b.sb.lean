def dl_J6_stringSize_0f7a4_84b_sb_0 : List (Nat × Instr × Nat) := [(16, .iload_n 3, 1), (17, .bipush 10, 2), (19, .if_icmp .ge 23, 3), (22, .iload_n 0, 1), (23, .iload_n 2, 1), (24, .if_icmp .le 7, 3), (31, .bipush 10, 2), (33, .iload_n 2, 1), (34, .imul, 1), (35, .istore_n 2, 1), (36, .iinc 3 1, 3), (39, .goto (-23), 3), (11, .bipush (-10), 2), (13, .istore_n 2, 1), (14, .iconst 1, 1), (15, .istore_n 3, 1), (27, .iload_n 3, 1), (28, .iload_n 1, 1), (29, .iadd, 1), (30, .ireturn, 1), (42, .bipush 10, 2), (44, .iload_n 1, 1), (45, .iadd, 1), (46, .ireturn, 1), (0, .iconst 1, 1), (1, .istore_n 1, 1), (2, .iload_n 0, 1), (3, .ifCond .lt 8, 3), (6, .iconst 0, 1), (7, .istore_n 1, 1), (8, .iload_n 0, 1), (9, .ineg, 1), (10, .istore_n 0, 1)]
set_option maxRecDepth 100000 in
theorem dall_J6_stringSize_0f7a4_84b_sb_0 : dchk cJ6_stringSize_0f7a4 dl_J6_stringSize_0f7a4_84b_sb_0 = true := by decide +kernel
theorem dJ6_stringSize_0f7a4_16 : decode cJ6_stringSize_0f7a4 16 = .ok (.iload_n 3, 1) := dchk_at dall_J6_stringSize_0f7a4_84b_sb_0 (k := 0) rfl
theorem dJ6_stringSize_0f7a4_17 : decode cJ6_stringSize_0f7a4 17 = .ok (.bipush 10, 2) := dchk_at dall_J6_stringSize_0f7a4_84b_sb_0 (k := 1) rfl
theorem dJ6_stringSize_0f7a4_19 : decode cJ6_stringSize_0f7a4 19 = .ok (.if_icmp .ge 23, 3) := dchk_at dall_J6_stringSize_0f7a4_84b_sb_0 (k := 2) rfl
theorem dJ6_stringSize_0f7a4_22 : decode cJ6_stringSize_0f7a4 22 = .ok (.iload_n 0, 1) := dchk_at dall_J6_stringSize_0f7a4_84b_sb_0 (k := 3) rfl
theorem dJ6_stringSize_0f7a4_23 : decode cJ6_stringSize_0f7a4 23 = .ok (.iload_n 2, 1) := dchk_at dall_J6_stringSize_0f7a4_84b_sb_0 (k := 4) rfl
theorem dJ6_stringSize_0f7a4_24 : decode cJ6_stringSize_0f7a4 24 = .ok (.if_icmp .le 7, 3) := dchk_at dall_J6_stringSize_0f7a4_84b_sb_0 (k := 5) rfl
theorem dJ6_stringSize_0f7a4_31 : decode cJ6_stringSize_0f7a4 31 = .ok (.bipush 10, 2) := dchk_at dall_J6_stringSize_0f7a4_84b_sb_0 (k := 6) rfl
theorem dJ6_stringSize_0f7a4_33 : decode cJ6_stringSize_0f7a4 33 = .ok (.iload_n 2, 1) := dchk_at dall_J6_stringSize_0f7a4_84b_sb_0 (k := 7) rfl
theorem dJ6_stringSize_0f7a4_34 : decode cJ6_stringSize_0f7a4 34 = .ok (.imul, 1) := dchk_at dall_J6_stringSize_0f7a4_84b_sb_0 (k := 8) rfl
theorem dJ6_stringSize_0f7a4_35 : decode cJ6_stringSize_0f7a4 35 = .ok (.istore_n 2, 1) := dchk_at dall_J6_stringSize_0f7a4_84b_sb_0 (k := 9) rfl
theorem dJ6_stringSize_0f7a4_36 : decode cJ6_stringSize_0f7a4 36 = .ok (.iinc 3 1, 3) := dchk_at dall_J6_stringSize_0f7a4_84b_sb_0 (k := 10) rfl
theorem dJ6_stringSize_0f7a4_39 : decode cJ6_stringSize_0f7a4 39 = .ok (.goto (-23), 3) := dchk_at dall_J6_stringSize_0f7a4_84b_sb_0 (k := 11) rfl
theorem dJ6_stringSize_0f7a4_11 : decode cJ6_stringSize_0f7a4 11 = .ok (.bipush (-10), 2) := dchk_at dall_J6_stringSize_0f7a4_84b_sb_0 (k := 12) rfl
theorem dJ6_stringSize_0f7a4_13 : decode cJ6_stringSize_0f7a4 13 = .ok (.istore_n 2, 1) := dchk_at dall_J6_stringSize_0f7a4_84b_sb_0 (k := 13) rfl
theorem dJ6_stringSize_0f7a4_14 : decode cJ6_stringSize_0f7a4 14 = .ok (.iconst 1, 1) := dchk_at dall_J6_stringSize_0f7a4_84b_sb_0 (k := 14) rfl
theorem dJ6_stringSize_0f7a4_15 : decode cJ6_stringSize_0f7a4 15 = .ok (.istore_n 3, 1) := dchk_at dall_J6_stringSize_0f7a4_84b_sb_0 (k := 15) rfl
theorem dJ6_stringSize_0f7a4_27 : decode cJ6_stringSize_0f7a4 27 = .ok (.iload_n 3, 1) := dchk_at dall_J6_stringSize_0f7a4_84b_sb_0 (k := 16) rfl
theorem dJ6_stringSize_0f7a4_28 : decode cJ6_stringSize_0f7a4 28 = .ok (.iload_n 1, 1) := dchk_at dall_J6_stringSize_0f7a4_84b_sb_0 (k := 17) rfl
theorem dJ6_stringSize_0f7a4_29 : decode cJ6_stringSize_0f7a4 29 = .ok (.iadd, 1) := dchk_at dall_J6_stringSize_0f7a4_84b_sb_0 (k := 18) rfl
theorem dJ6_stringSize_0f7a4_30 : decode cJ6_stringSize_0f7a4 30 = .ok (.ireturn, 1) := dchk_at dall_J6_stringSize_0f7a4_84b_sb_0 (k := 19) rfl
theorem dJ6_stringSize_0f7a4_42 : decode cJ6_stringSize_0f7a4 42 = .ok (.bipush 10, 2) := dchk_at dall_J6_stringSize_0f7a4_84b_sb_0 (k := 20) rfl
theorem dJ6_stringSize_0f7a4_44 : decode cJ6_stringSize_0f7a4 44 = .ok (.iload_n 1, 1) := dchk_at dall_J6_stringSize_0f7a4_84b_sb_0 (k := 21) rfl
theorem dJ6_stringSize_0f7a4_45 : decode cJ6_stringSize_0f7a4 45 = .ok (.iadd, 1) := dchk_at dall_J6_stringSize_0f7a4_84b_sb_0 (k := 22) rfl
theorem dJ6_stringSize_0f7a4_46 : decode cJ6_stringSize_0f7a4 46 = .ok (.ireturn, 1) := dchk_at dall_J6_stringSize_0f7a4_84b_sb_0 (k := 23) rfl
theorem dJ6_stringSize_0f7a4_0 : decode cJ6_stringSize_0f7a4 0 = .ok (.iconst 1, 1) := dchk_at dall_J6_stringSize_0f7a4_84b_sb_0 (k := 24) rfl
theorem dJ6_stringSize_0f7a4_1 : decode cJ6_stringSize_0f7a4 1 = .ok (.istore_n 1, 1) := dchk_at dall_J6_stringSize_0f7a4_84b_sb_0 (k := 25) rfl
theorem dJ6_stringSize_0f7a4_2 : decode cJ6_stringSize_0f7a4 2 = .ok (.iload_n 0, 1) := dchk_at dall_J6_stringSize_0f7a4_84b_sb_0 (k := 26) rfl
theorem dJ6_stringSize_0f7a4_3 : decode cJ6_stringSize_0f7a4 3 = .ok (.ifCond .lt 8, 3) := dchk_at dall_J6_stringSize_0f7a4_84b_sb_0 (k := 27) rfl
theorem dJ6_stringSize_0f7a4_6 : decode cJ6_stringSize_0f7a4 6 = .ok (.iconst 0, 1) := dchk_at dall_J6_stringSize_0f7a4_84b_sb_0 (k := 28) rfl
theorem dJ6_stringSize_0f7a4_7 : decode cJ6_stringSize_0f7a4 7 = .ok (.istore_n 1, 1) := dchk_at dall_J6_stringSize_0f7a4_84b_sb_0 (k := 29) rfl
theorem dJ6_stringSize_0f7a4_8 : decode cJ6_stringSize_0f7a4 8 = .ok (.iload_n 0, 1) := dchk_at dall_J6_stringSize_0f7a4_84b_sb_0 (k := 30) rfl
theorem dJ6_stringSize_0f7a4_9 : decode cJ6_stringSize_0f7a4 9 = .ok (.ineg, 1) := dchk_at dall_J6_stringSize_0f7a4_84b_sb_0 (k := 31) rfl
theorem dJ6_stringSize_0f7a4_10 : decode cJ6_stringSize_0f7a4 10 = .ok (.istore_n 0, 1) := dchk_at dall_J6_stringSize_0f7a4_84b_sb_0 (k := 32) rfl
def dl_J6_getChars_ba4f3_84b_sb_0 : List (Nat × Instr × Nat) := [(22, .iload_n 0, 1), (23, .bipush (-100), 2), (25, .if_icmp .gt 47, 3), (28, .iload_n 0, 1), (29, .bipush 100, 2), (31, .idiv, 1), (32, .istore_n 3, 1), (33, .iload_n 3, 1), (34, .bipush 100, 2), (36, .imul, 1), (37, .iload_n 0, 1), (38, .isub, 1), (39, .istore 4, 2), (41, .iload_n 3, 1), (42, .istore_n 0, 1), (43, .aload_n 2, 1), (44, .iinc 5 (-1), 3), (47, .iload 5, 2), (49, .getstatic 83, 3), (52, .iload 4, 2), (54, .baload, 1), (55, .bastore, 1), (56, .aload_n 2, 1), (57, .iinc 5 (-1), 3), (60, .iload 5, 2), (62, .getstatic 87, 3), (65, .iload 4, 2), (67, .baload, 1), (68, .bastore, 1), (69, .goto (-47), 3), (12, .istore 6, 2), (14, .iload 6, 2), (16, .ifCond .ne 6, 3), (72, .aload_n 2, 1), (73, .iinc 5 (-1), 3), (76, .iload 5, 2), (78, .getstatic 83, 3), (81, .iload_n 0, 1), (82, .ineg, 1), (83, .baload, 1), (84, .bastore, 1), (85, .iload_n 0, 1), (86, .bipush (-9), 2), (88, .if_icmp .ge 16, 3), (104, .iload 6, 2), (106, .ifCond .eq 12, 3), (118, .iload 5, 2), (120, .ireturn, 1), (109, .aload_n 2, 1), (110, .iinc 5 (-1), 3)]
set_option maxRecDepth 100000 in
theorem dall_J6_getChars_ba4f3_84b_sb_0 : dchk cJ6_getChars_ba4f3 dl_J6_getChars_ba4f3_84b_sb_0 = true := by decide +kernel
theorem dJ6_getChars_ba4f3_22 : decode cJ6_getChars_ba4f3 22 = .ok (.iload_n 0, 1) := dchk_at dall_J6_getChars_ba4f3_84b_sb_0 (k := 0) rfl
theorem dJ6_getChars_ba4f3_23 : decode cJ6_getChars_ba4f3 23 = .ok (.bipush (-100), 2) := dchk_at dall_J6_getChars_ba4f3_84b_sb_0 (k := 1) rfl
theorem dJ6_getChars_ba4f3_25 : decode cJ6_getChars_ba4f3 25 = .ok (.if_icmp .gt 47, 3) := dchk_at dall_J6_getChars_ba4f3_84b_sb_0 (k := 2) rfl
theorem dJ6_getChars_ba4f3_28 : decode cJ6_getChars_ba4f3 28 = .ok (.iload_n 0, 1) := dchk_at dall_J6_getChars_ba4f3_84b_sb_0 (k := 3) rfl
theorem dJ6_getChars_ba4f3_29 : decode cJ6_getChars_ba4f3 29 = .ok (.bipush 100, 2) := dchk_at dall_J6_getChars_ba4f3_84b_sb_0 (k := 4) rfl
theorem dJ6_getChars_ba4f3_31 : decode cJ6_getChars_ba4f3 31 = .ok (.idiv, 1) := dchk_at dall_J6_getChars_ba4f3_84b_sb_0 (k := 5) rfl
theorem dJ6_getChars_ba4f3_32 : decode cJ6_getChars_ba4f3 32 = .ok (.istore_n 3, 1) := dchk_at dall_J6_getChars_ba4f3_84b_sb_0 (k := 6) rfl
theorem dJ6_getChars_ba4f3_33 : decode cJ6_getChars_ba4f3 33 = .ok (.iload_n 3, 1) := dchk_at dall_J6_getChars_ba4f3_84b_sb_0 (k := 7) rfl
theorem dJ6_getChars_ba4f3_34 : decode cJ6_getChars_ba4f3 34 = .ok (.bipush 100, 2) := dchk_at dall_J6_getChars_ba4f3_84b_sb_0 (k := 8) rfl
theorem dJ6_getChars_ba4f3_36 : decode cJ6_getChars_ba4f3 36 = .ok (.imul, 1) := dchk_at dall_J6_getChars_ba4f3_84b_sb_0 (k := 9) rfl
theorem dJ6_getChars_ba4f3_37 : decode cJ6_getChars_ba4f3 37 = .ok (.iload_n 0, 1) := dchk_at dall_J6_getChars_ba4f3_84b_sb_0 (k := 10) rfl
theorem dJ6_getChars_ba4f3_38 : decode cJ6_getChars_ba4f3 38 = .ok (.isub, 1) := dchk_at dall_J6_getChars_ba4f3_84b_sb_0 (k := 11) rfl
theorem dJ6_getChars_ba4f3_39 : decode cJ6_getChars_ba4f3 39 = .ok (.istore 4, 2) := dchk_at dall_J6_getChars_ba4f3_84b_sb_0 (k := 12) rfl
theorem dJ6_getChars_ba4f3_41 : decode cJ6_getChars_ba4f3 41 = .ok (.iload_n 3, 1) := dchk_at dall_J6_getChars_ba4f3_84b_sb_0 (k := 13) rfl
theorem dJ6_getChars_ba4f3_42 : decode cJ6_getChars_ba4f3 42 = .ok (.istore_n 0, 1) := dchk_at dall_J6_getChars_ba4f3_84b_sb_0 (k := 14) rfl
theorem dJ6_getChars_ba4f3_43 : decode cJ6_getChars_ba4f3 43 = .ok (.aload_n 2, 1) := dchk_at dall_J6_getChars_ba4f3_84b_sb_0 (k := 15) rfl
theorem dJ6_getChars_ba4f3_44 : decode cJ6_getChars_ba4f3 44 = .ok (.iinc 5 (-1), 3) := dchk_at dall_J6_getChars_ba4f3_84b_sb_0 (k := 16) rfl
theorem dJ6_getChars_ba4f3_47 : decode cJ6_getChars_ba4f3 47 = .ok (.iload 5, 2) := dchk_at dall_J6_getChars_ba4f3_84b_sb_0 (k := 17) rfl
theorem dJ6_getChars_ba4f3_49 : decode cJ6_getChars_ba4f3 49 = .ok (.getstatic 83, 3) := dchk_at dall_J6_getChars_ba4f3_84b_sb_0 (k := 18) rfl
theorem dJ6_getChars_ba4f3_52 : decode cJ6_getChars_ba4f3 52 = .ok (.iload 4, 2) := dchk_at dall_J6_getChars_ba4f3_84b_sb_0 (k := 19) rfl
theorem dJ6_getChars_ba4f3_54 : decode cJ6_getChars_ba4f3 54 = .ok (.baload, 1) := dchk_at dall_J6_getChars_ba4f3_84b_sb_0 (k := 20) rfl
theorem dJ6_getChars_ba4f3_55 : decode cJ6_getChars_ba4f3 55 = .ok (.bastore, 1) := dchk_at dall_J6_getChars_ba4f3_84b_sb_0 (k := 21) rfl
theorem dJ6_getChars_ba4f3_56 : decode cJ6_getChars_ba4f3 56 = .ok (.aload_n 2, 1) := dchk_at dall_J6_getChars_ba4f3_84b_sb_0 (k := 22) rfl
theorem dJ6_getChars_ba4f3_57 : decode cJ6_getChars_ba4f3 57 = .ok (.iinc 5 (-1), 3) := dchk_at dall_J6_getChars_ba4f3_84b_sb_0 (k := 23) rfl
theorem dJ6_getChars_ba4f3_60 : decode cJ6_getChars_ba4f3 60 = .ok (.iload 5, 2) := dchk_at dall_J6_getChars_ba4f3_84b_sb_0 (k := 24) rfl
theorem dJ6_getChars_ba4f3_62 : decode cJ6_getChars_ba4f3 62 = .ok (.getstatic 87, 3) := dchk_at dall_J6_getChars_ba4f3_84b_sb_0 (k := 25) rfl
theorem dJ6_getChars_ba4f3_65 : decode cJ6_getChars_ba4f3 65 = .ok (.iload 4, 2) := dchk_at dall_J6_getChars_ba4f3_84b_sb_0 (k := 26) rfl
theorem dJ6_getChars_ba4f3_67 : decode cJ6_getChars_ba4f3 67 = .ok (.baload, 1) := dchk_at dall_J6_getChars_ba4f3_84b_sb_0 (k := 27) rfl
theorem dJ6_getChars_ba4f3_68 : decode cJ6_getChars_ba4f3 68 = .ok (.bastore, 1) := dchk_at dall_J6_getChars_ba4f3_84b_sb_0 (k := 28) rfl
theorem dJ6_getChars_ba4f3_69 : decode cJ6_getChars_ba4f3 69 = .ok (.goto (-47), 3) := dchk_at dall_J6_getChars_ba4f3_84b_sb_0 (k := 29) rfl
theorem dJ6_getChars_ba4f3_12 : decode cJ6_getChars_ba4f3 12 = .ok (.istore 6, 2) := dchk_at dall_J6_getChars_ba4f3_84b_sb_0 (k := 30) rfl
theorem dJ6_getChars_ba4f3_14 : decode cJ6_getChars_ba4f3 14 = .ok (.iload 6, 2) := dchk_at dall_J6_getChars_ba4f3_84b_sb_0 (k := 31) rfl
theorem dJ6_getChars_ba4f3_16 : decode cJ6_getChars_ba4f3 16 = .ok (.ifCond .ne 6, 3) := dchk_at dall_J6_getChars_ba4f3_84b_sb_0 (k := 32) rfl
theorem dJ6_getChars_ba4f3_72 : decode cJ6_getChars_ba4f3 72 = .ok (.aload_n 2, 1) := dchk_at dall_J6_getChars_ba4f3_84b_sb_0 (k := 33) rfl
theorem dJ6_getChars_ba4f3_73 : decode cJ6_getChars_ba4f3 73 = .ok (.iinc 5 (-1), 3) := dchk_at dall_J6_getChars_ba4f3_84b_sb_0 (k := 34) rfl
theorem dJ6_getChars_ba4f3_76 : decode cJ6_getChars_ba4f3 76 = .ok (.iload 5, 2) := dchk_at dall_J6_getChars_ba4f3_84b_sb_0 (k := 35) rfl
theorem dJ6_getChars_ba4f3_78 : decode cJ6_getChars_ba4f3 78 = .ok (.getstatic 83, 3) := dchk_at dall_J6_getChars_ba4f3_84b_sb_0 (k := 36) rfl
theorem dJ6_getChars_ba4f3_81 : decode cJ6_getChars_ba4f3 81 = .ok (.iload_n 0, 1) := dchk_at dall_J6_getChars_ba4f3_84b_sb_0 (k := 37) rfl
theorem dJ6_getChars_ba4f3_82 : decode cJ6_getChars_ba4f3 82 = .ok (.ineg, 1) := dchk_at dall_J6_getChars_ba4f3_84b_sb_0 (k := 38) rfl
theorem dJ6_getChars_ba4f3_83 : decode cJ6_getChars_ba4f3 83 = .ok (.baload, 1) := dchk_at dall_J6_getChars_ba4f3_84b_sb_0 (k := 39) rfl
theorem dJ6_getChars_ba4f3_84 : decode cJ6_getChars_ba4f3 84 = .ok (.bastore, 1) := dchk_at dall_J6_getChars_ba4f3_84b_sb_0 (k := 40) rfl
theorem dJ6_getChars_ba4f3_85 : decode cJ6_getChars_ba4f3 85 = .ok (.iload_n 0, 1) := dchk_at dall_J6_getChars_ba4f3_84b_sb_0 (k := 41) rfl
theorem dJ6_getChars_ba4f3_86 : decode cJ6_getChars_ba4f3 86 = .ok (.bipush (-9), 2) := dchk_at dall_J6_getChars_ba4f3_84b_sb_0 (k := 42) rfl
theorem dJ6_getChars_ba4f3_88 : decode cJ6_getChars_ba4f3 88 = .ok (.if_icmp .ge 16, 3) := dchk_at dall_J6_getChars_ba4f3_84b_sb_0 (k := 43) rfl
theorem dJ6_getChars_ba4f3_104 : decode cJ6_getChars_ba4f3 104 = .ok (.iload 6, 2) := dchk_at dall_J6_getChars_ba4f3_84b_sb_0 (k := 44) rfl
theorem dJ6_getChars_ba4f3_106 : decode cJ6_getChars_ba4f3 106 = .ok (.ifCond .eq 12, 3) := dchk_at dall_J6_getChars_ba4f3_84b_sb_0 (k := 45) rfl
theorem dJ6_getChars_ba4f3_118 : decode cJ6_getChars_ba4f3 118 = .ok (.iload 5, 2) := dchk_at dall_J6_getChars_ba4f3_84b_sb_0 (k := 46) rfl
theorem dJ6_getChars_ba4f3_120 : decode cJ6_getChars_ba4f3 120 = .ok (.ireturn, 1) := dchk_at dall_J6_getChars_ba4f3_84b_sb_0 (k := 47) rfl
theorem dJ6_getChars_ba4f3_109 : decode cJ6_getChars_ba4f3 109 = .ok (.aload_n 2, 1) := dchk_at dall_J6_getChars_ba4f3_84b_sb_0 (k := 48) rfl
theorem dJ6_getChars_ba4f3_110 : decode cJ6_getChars_ba4f3 110 = .ok (.iinc 5 (-1), 3) := dchk_at dall_J6_getChars_ba4f3_84b_sb_0 (k := 49) rfl
def dl_J6_getChars_ba4f3_84b_sb_1 : List (Nat × Instr × Nat) := [(113, .iload 5, 2), (115, .bipush 45, 2), (117, .bastore, 1), (91, .aload_n 2, 1), (92, .iinc 5 (-1), 3), (95, .iload 5, 2), (97, .getstatic 87, 3), (100, .iload_n 0, 1), (101, .ineg, 1), (102, .baload, 1), (103, .bastore, 1), (19, .iload_n 0, 1), (20, .ineg, 1), (21, .istore_n 0, 1), (0, .iload_n 1, 1), (1, .istore 5, 2), (3, .iload_n 0, 1), (4, .ifCond .ge 7, 3), (11, .iconst 0, 1), (7, .iconst 1, 1), (8, .goto 4, 3)]
set_option maxRecDepth 100000 in
theorem dall_J6_getChars_ba4f3_84b_sb_1 : dchk cJ6_getChars_ba4f3 dl_J6_getChars_ba4f3_84b_sb_1 = true := by decide +kernel
theorem dJ6_getChars_ba4f3_113 : decode cJ6_getChars_ba4f3 113 = .ok (.iload 5, 2) := dchk_at dall_J6_getChars_ba4f3_84b_sb_1 (k := 0) rfl
theorem dJ6_getChars_ba4f3_115 : decode cJ6_getChars_ba4f3 115 = .ok (.bipush 45, 2) := dchk_at dall_J6_getChars_ba4f3_84b_sb_1 (k := 1) rfl
theorem dJ6_getChars_ba4f3_117 : decode cJ6_getChars_ba4f3 117 = .ok (.bastore, 1) := dchk_at dall_J6_getChars_ba4f3_84b_sb_1 (k := 2) rfl
theorem dJ6_getChars_ba4f3_91 : decode cJ6_getChars_ba4f3 91 = .ok (.aload_n 2, 1) := dchk_at dall_J6_getChars_ba4f3_84b_sb_1 (k := 3) rfl
theorem dJ6_getChars_ba4f3_92 : decode cJ6_getChars_ba4f3 92 = .ok (.iinc 5 (-1), 3) := dchk_at dall_J6_getChars_ba4f3_84b_sb_1 (k := 4) rfl
theorem dJ6_getChars_ba4f3_95 : decode cJ6_getChars_ba4f3 95 = .ok (.iload 5, 2) := dchk_at dall_J6_getChars_ba4f3_84b_sb_1 (k := 5) rfl
theorem dJ6_getChars_ba4f3_97 : decode cJ6_getChars_ba4f3 97 = .ok (.getstatic 87, 3) := dchk_at dall_J6_getChars_ba4f3_84b_sb_1 (k := 6) rfl
theorem dJ6_getChars_ba4f3_100 : decode cJ6_getChars_ba4f3 100 = .ok (.iload_n 0, 1) := dchk_at dall_J6_getChars_ba4f3_84b_sb_1 (k := 7) rfl
theorem dJ6_getChars_ba4f3_101 : decode cJ6_getChars_ba4f3 101 = .ok (.ineg, 1) := dchk_at dall_J6_getChars_ba4f3_84b_sb_1 (k := 8) rfl
theorem dJ6_getChars_ba4f3_102 : decode cJ6_getChars_ba4f3 102 = .ok (.baload, 1) := dchk_at dall_J6_getChars_ba4f3_84b_sb_1 (k := 9) rfl
theorem dJ6_getChars_ba4f3_103 : decode cJ6_getChars_ba4f3 103 = .ok (.bastore, 1) := dchk_at dall_J6_getChars_ba4f3_84b_sb_1 (k := 10) rfl
theorem dJ6_getChars_ba4f3_19 : decode cJ6_getChars_ba4f3 19 = .ok (.iload_n 0, 1) := dchk_at dall_J6_getChars_ba4f3_84b_sb_1 (k := 11) rfl
theorem dJ6_getChars_ba4f3_20 : decode cJ6_getChars_ba4f3 20 = .ok (.ineg, 1) := dchk_at dall_J6_getChars_ba4f3_84b_sb_1 (k := 12) rfl
theorem dJ6_getChars_ba4f3_21 : decode cJ6_getChars_ba4f3 21 = .ok (.istore_n 0, 1) := dchk_at dall_J6_getChars_ba4f3_84b_sb_1 (k := 13) rfl
theorem dJ6_getChars_ba4f3_0 : decode cJ6_getChars_ba4f3 0 = .ok (.iload_n 1, 1) := dchk_at dall_J6_getChars_ba4f3_84b_sb_1 (k := 14) rfl
theorem dJ6_getChars_ba4f3_1 : decode cJ6_getChars_ba4f3 1 = .ok (.istore 5, 2) := dchk_at dall_J6_getChars_ba4f3_84b_sb_1 (k := 15) rfl
theorem dJ6_getChars_ba4f3_3 : decode cJ6_getChars_ba4f3 3 = .ok (.iload_n 0, 1) := dchk_at dall_J6_getChars_ba4f3_84b_sb_1 (k := 16) rfl
theorem dJ6_getChars_ba4f3_4 : decode cJ6_getChars_ba4f3 4 = .ok (.ifCond .ge 7, 3) := dchk_at dall_J6_getChars_ba4f3_84b_sb_1 (k := 17) rfl
theorem dJ6_getChars_ba4f3_11 : decode cJ6_getChars_ba4f3 11 = .ok (.iconst 0, 1) := dchk_at dall_J6_getChars_ba4f3_84b_sb_1 (k := 18) rfl
theorem dJ6_getChars_ba4f3_7 : decode cJ6_getChars_ba4f3 7 = .ok (.iconst 1, 1) := dchk_at dall_J6_getChars_ba4f3_84b_sb_1 (k := 19) rfl
theorem dJ6_getChars_ba4f3_8 : decode cJ6_getChars_ba4f3 8 = .ok (.goto 4, 3) := dchk_at dall_J6_getChars_ba4f3_84b_sb_1 (k := 20) rfl
def dl_J5_length_8abf5_84b_sb_0 : List (Nat × Instr × Nat) := [(0, .aload_n 0, 1), (1, .getfield 79, 3), (4, .ireturn, 1)]
set_option maxRecDepth 100000 in
theorem dall_J5_length_8abf5_84b_sb_0 : dchk cJ5_length_8abf5 dl_J5_length_8abf5_84b_sb_0 = true := by decide +kernel
theorem dJ5_length_8abf5_0 : decode cJ5_length_8abf5 0 = .ok (.aload_n 0, 1) := dchk_at dall_J5_length_8abf5_84b_sb_0 (k := 0) rfl
theorem dJ5_length_8abf5_1 : decode cJ5_length_8abf5 1 = .ok (.getfield 79, 3) := dchk_at dall_J5_length_8abf5_84b_sb_0 (k := 1) rfl
theorem dJ5_length_8abf5_4 : decode cJ5_length_8abf5 4 = .ok (.ireturn, 1) := dchk_at dall_J5_length_8abf5_84b_sb_0 (k := 2) rfl
def dl_J5_isLatin1_aae02_84b_sb_0 : List (Nat × Instr × Nat) := [(0, .getstatic 18, 3), (3, .ifCond .eq 14, 3), (6, .aload_n 0, 1), (7, .getfield 22, 3), (10, .ifCond .ne 7, 3), (17, .iconst 0, 1), (18, .ireturn, 1), (13, .iconst 1, 1), (14, .goto 4, 3)]
set_option maxRecDepth 100000 in
theorem dall_J5_isLatin1_aae02_84b_sb_0 : dchk cJ5_isLatin1_aae02 dl_J5_isLatin1_aae02_84b_sb_0 = true := by decide +kernel
theorem dJ5_isLatin1_aae02_0 : decode cJ5_isLatin1_aae02 0 = .ok (.getstatic 18, 3) := dchk_at dall_J5_isLatin1_aae02_84b_sb_0 (k := 0) rfl
theorem dJ5_isLatin1_aae02_3 : decode cJ5_isLatin1_aae02 3 = .ok (.ifCond .eq 14, 3) := dchk_at dall_J5_isLatin1_aae02_84b_sb_0 (k := 1) rfl
theorem dJ5_isLatin1_aae02_6 : decode cJ5_isLatin1_aae02 6 = .ok (.aload_n 0, 1) := dchk_at dall_J5_isLatin1_aae02_84b_sb_0 (k := 2) rfl
theorem dJ5_isLatin1_aae02_7 : decode cJ5_isLatin1_aae02 7 = .ok (.getfield 22, 3) := dchk_at dall_J5_isLatin1_aae02_84b_sb_0 (k := 3) rfl
theorem dJ5_isLatin1_aae02_10 : decode cJ5_isLatin1_aae02 10 = .ok (.ifCond .ne 7, 3) := dchk_at dall_J5_isLatin1_aae02_84b_sb_0 (k := 4) rfl
theorem dJ5_isLatin1_aae02_17 : decode cJ5_isLatin1_aae02 17 = .ok (.iconst 0, 1) := dchk_at dall_J5_isLatin1_aae02_84b_sb_0 (k := 5) rfl
theorem dJ5_isLatin1_aae02_18 : decode cJ5_isLatin1_aae02 18 = .ok (.ireturn, 1) := dchk_at dall_J5_isLatin1_aae02_84b_sb_0 (k := 6) rfl
theorem dJ5_isLatin1_aae02_13 : decode cJ5_isLatin1_aae02 13 = .ok (.iconst 1, 1) := dchk_at dall_J5_isLatin1_aae02_84b_sb_0 (k := 7) rfl
theorem dJ5_isLatin1_aae02_14 : decode cJ5_isLatin1_aae02 14 = .ok (.goto 4, 3) := dchk_at dall_J5_isLatin1_aae02_84b_sb_0 (k := 8) rfl
def dl_J1_canEncode_fc78d_84b_sb_0 : List (Nat × Instr × Nat) := [(0, .iload_n 0, 1), (1, .sipush 255, 3), (4, .if_icmp .gt 7, 3), (11, .iconst 0, 1), (12, .ireturn, 1), (7, .iconst 1, 1), (8, .goto 4, 3)]
set_option maxRecDepth 100000 in
theorem dall_J1_canEncode_fc78d_84b_sb_0 : dchk cJ1_canEncode_fc78d dl_J1_canEncode_fc78d_84b_sb_0 = true := by decide +kernel
theorem dJ1_canEncode_fc78d_0 : decode cJ1_canEncode_fc78d 0 = .ok (.iload_n 0, 1) := dchk_at dall_J1_canEncode_fc78d_84b_sb_0 (k := 0) rfl
theorem dJ1_canEncode_fc78d_1 : decode cJ1_canEncode_fc78d 1 = .ok (.sipush 255, 3) := dchk_at dall_J1_canEncode_fc78d_84b_sb_0 (k := 1) rfl
theorem dJ1_canEncode_fc78d_4 : decode cJ1_canEncode_fc78d 4 = .ok (.if_icmp .gt 7, 3) := dchk_at dall_J1_canEncode_fc78d_84b_sb_0 (k := 2) rfl
theorem dJ1_canEncode_fc78d_11 : decode cJ1_canEncode_fc78d 11 = .ok (.iconst 0, 1) := dchk_at dall_J1_canEncode_fc78d_84b_sb_0 (k := 3) rfl
theorem dJ1_canEncode_fc78d_12 : decode cJ1_canEncode_fc78d 12 = .ok (.ireturn, 1) := dchk_at dall_J1_canEncode_fc78d_84b_sb_0 (k := 4) rfl
theorem dJ1_canEncode_fc78d_7 : decode cJ1_canEncode_fc78d 7 = .ok (.iconst 1, 1) := dchk_at dall_J1_canEncode_fc78d_84b_sb_0 (k := 5) rfl
theorem dJ1_canEncode_fc78d_8 : decode cJ1_canEncode_fc78d 8 = .ok (.goto 4, 3) := dchk_at dall_J1_canEncode_fc78d_84b_sb_0 (k := 6) rfl
def dl_J8_newLength_cabcc_84b_sb_0 : List (Nat × Instr × Nat) := [(0, .iload_n 0, 1), (1, .iload_n 1, 1), (2, .iload_n 2, 1), (3, .invokestatic 194, 3), (6, .iadd, 1), (7, .istore_n 3, 1), (8, .iconst 0, 1), (9, .iload_n 3, 1), (10, .if_icmp .ge 11, 3), (13, .iload_n 3, 1), (14, .ldc 200, 2), (16, .if_icmp .gt 5, 3), (19, .iload_n 3, 1), (20, .ireturn, 1)]
set_option maxRecDepth 100000 in
theorem dall_J8_newLength_cabcc_84b_sb_0 : dchk cJ8_newLength_cabcc dl_J8_newLength_cabcc_84b_sb_0 = true := by decide +kernel
theorem dJ8_newLength_cabcc_0 : decode cJ8_newLength_cabcc 0 = .ok (.iload_n 0, 1) := dchk_at dall_J8_newLength_cabcc_84b_sb_0 (k := 0) rfl
theorem dJ8_newLength_cabcc_1 : decode cJ8_newLength_cabcc 1 = .ok (.iload_n 1, 1) := dchk_at dall_J8_newLength_cabcc_84b_sb_0 (k := 1) rfl
theorem dJ8_newLength_cabcc_2 : decode cJ8_newLength_cabcc 2 = .ok (.iload_n 2, 1) := dchk_at dall_J8_newLength_cabcc_84b_sb_0 (k := 2) rfl
theorem dJ8_newLength_cabcc_3 : decode cJ8_newLength_cabcc 3 = .ok (.invokestatic 194, 3) := dchk_at dall_J8_newLength_cabcc_84b_sb_0 (k := 3) rfl
theorem dJ8_newLength_cabcc_6 : decode cJ8_newLength_cabcc 6 = .ok (.iadd, 1) := dchk_at dall_J8_newLength_cabcc_84b_sb_0 (k := 4) rfl
theorem dJ8_newLength_cabcc_7 : decode cJ8_newLength_cabcc 7 = .ok (.istore_n 3, 1) := dchk_at dall_J8_newLength_cabcc_84b_sb_0 (k := 5) rfl
theorem dJ8_newLength_cabcc_8 : decode cJ8_newLength_cabcc 8 = .ok (.iconst 0, 1) := dchk_at dall_J8_newLength_cabcc_84b_sb_0 (k := 6) rfl
theorem dJ8_newLength_cabcc_9 : decode cJ8_newLength_cabcc 9 = .ok (.iload_n 3, 1) := dchk_at dall_J8_newLength_cabcc_84b_sb_0 (k := 7) rfl
theorem dJ8_newLength_cabcc_10 : decode cJ8_newLength_cabcc 10 = .ok (.if_icmp .ge 11, 3) := dchk_at dall_J8_newLength_cabcc_84b_sb_0 (k := 8) rfl
theorem dJ8_newLength_cabcc_13 : decode cJ8_newLength_cabcc 13 = .ok (.iload_n 3, 1) := dchk_at dall_J8_newLength_cabcc_84b_sb_0 (k := 9) rfl
theorem dJ8_newLength_cabcc_14 : decode cJ8_newLength_cabcc 14 = .ok (.ldc 200, 2) := dchk_at dall_J8_newLength_cabcc_84b_sb_0 (k := 10) rfl
theorem dJ8_newLength_cabcc_16 : decode cJ8_newLength_cabcc 16 = .ok (.if_icmp .gt 5, 3) := dchk_at dall_J8_newLength_cabcc_84b_sb_0 (k := 11) rfl
theorem dJ8_newLength_cabcc_19 : decode cJ8_newLength_cabcc 19 = .ok (.iload_n 3, 1) := dchk_at dall_J8_newLength_cabcc_84b_sb_0 (k := 12) rfl
theorem dJ8_newLength_cabcc_20 : decode cJ8_newLength_cabcc 20 = .ok (.ireturn, 1) := dchk_at dall_J8_newLength_cabcc_84b_sb_0 (k := 13) rfl
def dl_J5_newCapacity_0f7a4_84b_sb_0 : List (Nat × Instr × Nat) := [(0, .aload_n 0, 1), (1, .getfield 15, 3), (4, .arraylength, 1), (5, .istore_n 2, 1), (6, .iload_n 1, 1), (7, .aload_n 0, 1), (8, .getfield 22, 3), (11, .ishl, 1), (12, .istore_n 3, 1), (13, .iload_n 3, 1), (14, .iload_n 2, 1), (15, .isub, 1), (16, .istore 4, 2), (18, .iload_n 2, 1), (19, .iload 4, 2), (21, .iload_n 2, 1), (22, .iconst 2, 1), (23, .aload_n 0, 1), (24, .getfield 22, 3), (27, .ishl, 1), (28, .iadd, 1), (29, .invokestatic 114, 3), (32, .istore 5, 2), (34, .iload 5, 2), (36, .ldc 39, 2), (38, .if_icmp .ne 13, 3), (51, .iload 5, 2), (53, .aload_n 0, 1), (54, .getfield 22, 3), (57, .ishr, 1), (58, .ireturn, 1)]
set_option maxRecDepth 100000 in
theorem dall_J5_newCapacity_0f7a4_84b_sb_0 : dchk cJ5_newCapacity_0f7a4 dl_J5_newCapacity_0f7a4_84b_sb_0 = true := by decide +kernel
theorem dJ5_newCapacity_0f7a4_0 : decode cJ5_newCapacity_0f7a4 0 = .ok (.aload_n 0, 1) := dchk_at dall_J5_newCapacity_0f7a4_84b_sb_0 (k := 0) rfl
theorem dJ5_newCapacity_0f7a4_1 : decode cJ5_newCapacity_0f7a4 1 = .ok (.getfield 15, 3) := dchk_at dall_J5_newCapacity_0f7a4_84b_sb_0 (k := 1) rfl
theorem dJ5_newCapacity_0f7a4_4 : decode cJ5_newCapacity_0f7a4 4 = .ok (.arraylength, 1) := dchk_at dall_J5_newCapacity_0f7a4_84b_sb_0 (k := 2) rfl
theorem dJ5_newCapacity_0f7a4_5 : decode cJ5_newCapacity_0f7a4 5 = .ok (.istore_n 2, 1) := dchk_at dall_J5_newCapacity_0f7a4_84b_sb_0 (k := 3) rfl
theorem dJ5_newCapacity_0f7a4_6 : decode cJ5_newCapacity_0f7a4 6 = .ok (.iload_n 1, 1) := dchk_at dall_J5_newCapacity_0f7a4_84b_sb_0 (k := 4) rfl
theorem dJ5_newCapacity_0f7a4_7 : decode cJ5_newCapacity_0f7a4 7 = .ok (.aload_n 0, 1) := dchk_at dall_J5_newCapacity_0f7a4_84b_sb_0 (k := 5) rfl
theorem dJ5_newCapacity_0f7a4_8 : decode cJ5_newCapacity_0f7a4 8 = .ok (.getfield 22, 3) := dchk_at dall_J5_newCapacity_0f7a4_84b_sb_0 (k := 6) rfl
theorem dJ5_newCapacity_0f7a4_11 : decode cJ5_newCapacity_0f7a4 11 = .ok (.ishl, 1) := dchk_at dall_J5_newCapacity_0f7a4_84b_sb_0 (k := 7) rfl
theorem dJ5_newCapacity_0f7a4_12 : decode cJ5_newCapacity_0f7a4 12 = .ok (.istore_n 3, 1) := dchk_at dall_J5_newCapacity_0f7a4_84b_sb_0 (k := 8) rfl
theorem dJ5_newCapacity_0f7a4_13 : decode cJ5_newCapacity_0f7a4 13 = .ok (.iload_n 3, 1) := dchk_at dall_J5_newCapacity_0f7a4_84b_sb_0 (k := 9) rfl
theorem dJ5_newCapacity_0f7a4_14 : decode cJ5_newCapacity_0f7a4 14 = .ok (.iload_n 2, 1) := dchk_at dall_J5_newCapacity_0f7a4_84b_sb_0 (k := 10) rfl
theorem dJ5_newCapacity_0f7a4_15 : decode cJ5_newCapacity_0f7a4 15 = .ok (.isub, 1) := dchk_at dall_J5_newCapacity_0f7a4_84b_sb_0 (k := 11) rfl
theorem dJ5_newCapacity_0f7a4_16 : decode cJ5_newCapacity_0f7a4 16 = .ok (.istore 4, 2) := dchk_at dall_J5_newCapacity_0f7a4_84b_sb_0 (k := 12) rfl
theorem dJ5_newCapacity_0f7a4_18 : decode cJ5_newCapacity_0f7a4 18 = .ok (.iload_n 2, 1) := dchk_at dall_J5_newCapacity_0f7a4_84b_sb_0 (k := 13) rfl
theorem dJ5_newCapacity_0f7a4_19 : decode cJ5_newCapacity_0f7a4 19 = .ok (.iload 4, 2) := dchk_at dall_J5_newCapacity_0f7a4_84b_sb_0 (k := 14) rfl
theorem dJ5_newCapacity_0f7a4_21 : decode cJ5_newCapacity_0f7a4 21 = .ok (.iload_n 2, 1) := dchk_at dall_J5_newCapacity_0f7a4_84b_sb_0 (k := 15) rfl
theorem dJ5_newCapacity_0f7a4_22 : decode cJ5_newCapacity_0f7a4 22 = .ok (.iconst 2, 1) := dchk_at dall_J5_newCapacity_0f7a4_84b_sb_0 (k := 16) rfl
theorem dJ5_newCapacity_0f7a4_23 : decode cJ5_newCapacity_0f7a4 23 = .ok (.aload_n 0, 1) := dchk_at dall_J5_newCapacity_0f7a4_84b_sb_0 (k := 17) rfl
theorem dJ5_newCapacity_0f7a4_24 : decode cJ5_newCapacity_0f7a4 24 = .ok (.getfield 22, 3) := dchk_at dall_J5_newCapacity_0f7a4_84b_sb_0 (k := 18) rfl
theorem dJ5_newCapacity_0f7a4_27 : decode cJ5_newCapacity_0f7a4 27 = .ok (.ishl, 1) := dchk_at dall_J5_newCapacity_0f7a4_84b_sb_0 (k := 19) rfl
theorem dJ5_newCapacity_0f7a4_28 : decode cJ5_newCapacity_0f7a4 28 = .ok (.iadd, 1) := dchk_at dall_J5_newCapacity_0f7a4_84b_sb_0 (k := 20) rfl
theorem dJ5_newCapacity_0f7a4_29 : decode cJ5_newCapacity_0f7a4 29 = .ok (.invokestatic 114, 3) := dchk_at dall_J5_newCapacity_0f7a4_84b_sb_0 (k := 21) rfl
theorem dJ5_newCapacity_0f7a4_32 : decode cJ5_newCapacity_0f7a4 32 = .ok (.istore 5, 2) := dchk_at dall_J5_newCapacity_0f7a4_84b_sb_0 (k := 22) rfl
theorem dJ5_newCapacity_0f7a4_34 : decode cJ5_newCapacity_0f7a4 34 = .ok (.iload 5, 2) := dchk_at dall_J5_newCapacity_0f7a4_84b_sb_0 (k := 23) rfl
theorem dJ5_newCapacity_0f7a4_36 : decode cJ5_newCapacity_0f7a4 36 = .ok (.ldc 39, 2) := dchk_at dall_J5_newCapacity_0f7a4_84b_sb_0 (k := 24) rfl
theorem dJ5_newCapacity_0f7a4_38 : decode cJ5_newCapacity_0f7a4 38 = .ok (.if_icmp .ne 13, 3) := dchk_at dall_J5_newCapacity_0f7a4_84b_sb_0 (k := 25) rfl
theorem dJ5_newCapacity_0f7a4_51 : decode cJ5_newCapacity_0f7a4 51 = .ok (.iload 5, 2) := dchk_at dall_J5_newCapacity_0f7a4_84b_sb_0 (k := 26) rfl
theorem dJ5_newCapacity_0f7a4_53 : decode cJ5_newCapacity_0f7a4 53 = .ok (.aload_n 0, 1) := dchk_at dall_J5_newCapacity_0f7a4_84b_sb_0 (k := 27) rfl
theorem dJ5_newCapacity_0f7a4_54 : decode cJ5_newCapacity_0f7a4 54 = .ok (.getfield 22, 3) := dchk_at dall_J5_newCapacity_0f7a4_84b_sb_0 (k := 28) rfl
theorem dJ5_newCapacity_0f7a4_57 : decode cJ5_newCapacity_0f7a4 57 = .ok (.ishr, 1) := dchk_at dall_J5_newCapacity_0f7a4_84b_sb_0 (k := 29) rfl
theorem dJ5_newCapacity_0f7a4_58 : decode cJ5_newCapacity_0f7a4 58 = .ok (.ireturn, 1) := dchk_at dall_J5_newCapacity_0f7a4_84b_sb_0 (k := 30) rfl
def dl_J5_charAt_5068e_84b_sb_0 : List (Nat × Instr × Nat) := [(0, .aload_n 0, 1), (1, .getfield 22, 3), (4, .istore_n 2, 1), (5, .aload_n 0, 1), (6, .getfield 15, 3), (9, .astore_n 3, 1), (10, .aload_n 0, 1), (11, .getfield 79, 3), (14, .aload_n 3, 1), (15, .arraylength, 1), (16, .iload_n 2, 1), (17, .ishr, 1), (18, .invokestatic 138, 3), (21, .istore 4, 2), (23, .iload_n 1, 1), (24, .iload 4, 2), (26, .invokestatic 144, 3), (29, .iload_n 2, 1), (30, .ifCond .ne 12, 3), (33, .aload_n 3, 1), (34, .iload_n 1, 1), (35, .baload, 1), (36, .sipush 255, 3), (39, .iand, 1), (40, .i2c, 1), (41, .ireturn, 1)]
set_option maxRecDepth 100000 in
theorem dall_J5_charAt_5068e_84b_sb_0 : dchk cJ5_charAt_5068e dl_J5_charAt_5068e_84b_sb_0 = true := by decide +kernel
theorem dJ5_charAt_5068e_0 : decode cJ5_charAt_5068e 0 = .ok (.aload_n 0, 1) := dchk_at dall_J5_charAt_5068e_84b_sb_0 (k := 0) rfl
theorem dJ5_charAt_5068e_1 : decode cJ5_charAt_5068e 1 = .ok (.getfield 22, 3) := dchk_at dall_J5_charAt_5068e_84b_sb_0 (k := 1) rfl
theorem dJ5_charAt_5068e_4 : decode cJ5_charAt_5068e 4 = .ok (.istore_n 2, 1) := dchk_at dall_J5_charAt_5068e_84b_sb_0 (k := 2) rfl
theorem dJ5_charAt_5068e_5 : decode cJ5_charAt_5068e 5 = .ok (.aload_n 0, 1) := dchk_at dall_J5_charAt_5068e_84b_sb_0 (k := 3) rfl
theorem dJ5_charAt_5068e_6 : decode cJ5_charAt_5068e 6 = .ok (.getfield 15, 3) := dchk_at dall_J5_charAt_5068e_84b_sb_0 (k := 4) rfl
theorem dJ5_charAt_5068e_9 : decode cJ5_charAt_5068e 9 = .ok (.astore_n 3, 1) := dchk_at dall_J5_charAt_5068e_84b_sb_0 (k := 5) rfl
theorem dJ5_charAt_5068e_10 : decode cJ5_charAt_5068e 10 = .ok (.aload_n 0, 1) := dchk_at dall_J5_charAt_5068e_84b_sb_0 (k := 6) rfl
theorem dJ5_charAt_5068e_11 : decode cJ5_charAt_5068e 11 = .ok (.getfield 79, 3) := dchk_at dall_J5_charAt_5068e_84b_sb_0 (k := 7) rfl
theorem dJ5_charAt_5068e_14 : decode cJ5_charAt_5068e 14 = .ok (.aload_n 3, 1) := dchk_at dall_J5_charAt_5068e_84b_sb_0 (k := 8) rfl
theorem dJ5_charAt_5068e_15 : decode cJ5_charAt_5068e 15 = .ok (.arraylength, 1) := dchk_at dall_J5_charAt_5068e_84b_sb_0 (k := 9) rfl
theorem dJ5_charAt_5068e_16 : decode cJ5_charAt_5068e 16 = .ok (.iload_n 2, 1) := dchk_at dall_J5_charAt_5068e_84b_sb_0 (k := 10) rfl
theorem dJ5_charAt_5068e_17 : decode cJ5_charAt_5068e 17 = .ok (.ishr, 1) := dchk_at dall_J5_charAt_5068e_84b_sb_0 (k := 11) rfl
theorem dJ5_charAt_5068e_18 : decode cJ5_charAt_5068e 18 = .ok (.invokestatic 138, 3) := dchk_at dall_J5_charAt_5068e_84b_sb_0 (k := 12) rfl
theorem dJ5_charAt_5068e_21 : decode cJ5_charAt_5068e 21 = .ok (.istore 4, 2) := dchk_at dall_J5_charAt_5068e_84b_sb_0 (k := 13) rfl
theorem dJ5_charAt_5068e_23 : decode cJ5_charAt_5068e 23 = .ok (.iload_n 1, 1) := dchk_at dall_J5_charAt_5068e_84b_sb_0 (k := 14) rfl
theorem dJ5_charAt_5068e_24 : decode cJ5_charAt_5068e 24 = .ok (.iload 4, 2) := dchk_at dall_J5_charAt_5068e_84b_sb_0 (k := 15) rfl
theorem dJ5_charAt_5068e_26 : decode cJ5_charAt_5068e 26 = .ok (.invokestatic 144, 3) := dchk_at dall_J5_charAt_5068e_84b_sb_0 (k := 16) rfl
theorem dJ5_charAt_5068e_29 : decode cJ5_charAt_5068e 29 = .ok (.iload_n 2, 1) := dchk_at dall_J5_charAt_5068e_84b_sb_0 (k := 17) rfl
theorem dJ5_charAt_5068e_30 : decode cJ5_charAt_5068e 30 = .ok (.ifCond .ne 12, 3) := dchk_at dall_J5_charAt_5068e_84b_sb_0 (k := 18) rfl
theorem dJ5_charAt_5068e_33 : decode cJ5_charAt_5068e 33 = .ok (.aload_n 3, 1) := dchk_at dall_J5_charAt_5068e_84b_sb_0 (k := 19) rfl
theorem dJ5_charAt_5068e_34 : decode cJ5_charAt_5068e 34 = .ok (.iload_n 1, 1) := dchk_at dall_J5_charAt_5068e_84b_sb_0 (k := 20) rfl
theorem dJ5_charAt_5068e_35 : decode cJ5_charAt_5068e 35 = .ok (.baload, 1) := dchk_at dall_J5_charAt_5068e_84b_sb_0 (k := 21) rfl
theorem dJ5_charAt_5068e_36 : decode cJ5_charAt_5068e 36 = .ok (.sipush 255, 3) := dchk_at dall_J5_charAt_5068e_84b_sb_0 (k := 22) rfl
theorem dJ5_charAt_5068e_39 : decode cJ5_charAt_5068e 39 = .ok (.iand, 1) := dchk_at dall_J5_charAt_5068e_84b_sb_0 (k := 23) rfl
theorem dJ5_charAt_5068e_40 : decode cJ5_charAt_5068e 40 = .ok (.i2c, 1) := dchk_at dall_J5_charAt_5068e_84b_sb_0 (k := 24) rfl
theorem dJ5_charAt_5068e_41 : decode cJ5_charAt_5068e 41 = .ok (.ireturn, 1) := dchk_at dall_J5_charAt_5068e_84b_sb_0 (k := 25) rfl
def dl_J5_inflateIfNeededFor_a7421_84b_sb_0 : List (Nat × Instr × Nat) := [(0, .getstatic 18, 3), (3, .ifCond .eq 18, 3), (6, .aload_n 0, 1), (7, .getfield 22, 3), (10, .aload_n 1, 1), (11, .invokevirtual 40, 3), (14, .if_icmp .eq 7, 3), (21, .return_, 1)]
set_option maxRecDepth 100000 in
theorem dall_J5_inflateIfNeededFor_a7421_84b_sb_0 : dchk cJ5_inflateIfNeededFor_a7421 dl_J5_inflateIfNeededFor_a7421_84b_sb_0 = true := by decide +kernel
theorem dJ5_inflateIfNeededFor_a7421_0 : decode cJ5_inflateIfNeededFor_a7421 0 = .ok (.getstatic 18, 3) := dchk_at dall_J5_inflateIfNeededFor_a7421_84b_sb_0 (k := 0) rfl
theorem dJ5_inflateIfNeededFor_a7421_3 : decode cJ5_inflateIfNeededFor_a7421 3 = .ok (.ifCond .eq 18, 3) := dchk_at dall_J5_inflateIfNeededFor_a7421_84b_sb_0 (k := 1) rfl
theorem dJ5_inflateIfNeededFor_a7421_6 : decode cJ5_inflateIfNeededFor_a7421 6 = .ok (.aload_n 0, 1) := dchk_at dall_J5_inflateIfNeededFor_a7421_84b_sb_0 (k := 2) rfl
theorem dJ5_inflateIfNeededFor_a7421_7 : decode cJ5_inflateIfNeededFor_a7421 7 = .ok (.getfield 22, 3) := dchk_at dall_J5_inflateIfNeededFor_a7421_84b_sb_0 (k := 3) rfl
theorem dJ5_inflateIfNeededFor_a7421_10 : decode cJ5_inflateIfNeededFor_a7421 10 = .ok (.aload_n 1, 1) := dchk_at dall_J5_inflateIfNeededFor_a7421_84b_sb_0 (k := 4) rfl
theorem dJ5_inflateIfNeededFor_a7421_11 : decode cJ5_inflateIfNeededFor_a7421 11 = .ok (.invokevirtual 40, 3) := dchk_at dall_J5_inflateIfNeededFor_a7421_84b_sb_0 (k := 5) rfl
theorem dJ5_inflateIfNeededFor_a7421_14 : decode cJ5_inflateIfNeededFor_a7421 14 = .ok (.if_icmp .eq 7, 3) := dchk_at dall_J5_inflateIfNeededFor_a7421_84b_sb_0 (k := 6) rfl
theorem dJ5_inflateIfNeededFor_a7421_21 : decode cJ5_inflateIfNeededFor_a7421 21 = .ok (.return_, 1) := dchk_at dall_J5_inflateIfNeededFor_a7421_84b_sb_0 (k := 7) rfl
def dl_J0_getBytes_840e7_84b_sb_0 : List (Nat × Instr × Nat) := [(0, .aload_n 0, 1), (1, .invokevirtual 335, 3), (4, .iload_n 3, 1), (5, .if_icmp .ne 23, 3), (8, .aload_n 0, 1), (9, .getfield 9, 3), (12, .iconst 0, 1), (13, .aload_n 1, 1), (14, .iload_n 2, 1), (15, .iload_n 3, 1), (16, .ishl, 1), (17, .aload_n 0, 1), (18, .getfield 9, 3), (21, .arraylength, 1), (22, .invokestatic 212, 3), (25, .goto 18, 3), (43, .return_, 1)]
set_option maxRecDepth 100000 in
theorem dall_J0_getBytes_840e7_84b_sb_0 : dchk cJ0_getBytes_840e7 dl_J0_getBytes_840e7_84b_sb_0 = true := by decide +kernel
theorem dJ0_getBytes_840e7_0 : decode cJ0_getBytes_840e7 0 = .ok (.aload_n 0, 1) := dchk_at dall_J0_getBytes_840e7_84b_sb_0 (k := 0) rfl
theorem dJ0_getBytes_840e7_1 : decode cJ0_getBytes_840e7 1 = .ok (.invokevirtual 335, 3) := dchk_at dall_J0_getBytes_840e7_84b_sb_0 (k := 1) rfl
theorem dJ0_getBytes_840e7_4 : decode cJ0_getBytes_840e7 4 = .ok (.iload_n 3, 1) := dchk_at dall_J0_getBytes_840e7_84b_sb_0 (k := 2) rfl
theorem dJ0_getBytes_840e7_5 : decode cJ0_getBytes_840e7 5 = .ok (.if_icmp .ne 23, 3) := dchk_at dall_J0_getBytes_840e7_84b_sb_0 (k := 3) rfl
theorem dJ0_getBytes_840e7_8 : decode cJ0_getBytes_840e7 8 = .ok (.aload_n 0, 1) := dchk_at dall_J0_getBytes_840e7_84b_sb_0 (k := 4) rfl
theorem dJ0_getBytes_840e7_9 : decode cJ0_getBytes_840e7 9 = .ok (.getfield 9, 3) := dchk_at dall_J0_getBytes_840e7_84b_sb_0 (k := 5) rfl
theorem dJ0_getBytes_840e7_12 : decode cJ0_getBytes_840e7 12 = .ok (.iconst 0, 1) := dchk_at dall_J0_getBytes_840e7_84b_sb_0 (k := 6) rfl
theorem dJ0_getBytes_840e7_13 : decode cJ0_getBytes_840e7 13 = .ok (.aload_n 1, 1) := dchk_at dall_J0_getBytes_840e7_84b_sb_0 (k := 7) rfl
theorem dJ0_getBytes_840e7_14 : decode cJ0_getBytes_840e7 14 = .ok (.iload_n 2, 1) := dchk_at dall_J0_getBytes_840e7_84b_sb_0 (k := 8) rfl
theorem dJ0_getBytes_840e7_15 : decode cJ0_getBytes_840e7 15 = .ok (.iload_n 3, 1) := dchk_at dall_J0_getBytes_840e7_84b_sb_0 (k := 9) rfl
theorem dJ0_getBytes_840e7_16 : decode cJ0_getBytes_840e7 16 = .ok (.ishl, 1) := dchk_at dall_J0_getBytes_840e7_84b_sb_0 (k := 10) rfl
theorem dJ0_getBytes_840e7_17 : decode cJ0_getBytes_840e7 17 = .ok (.aload_n 0, 1) := dchk_at dall_J0_getBytes_840e7_84b_sb_0 (k := 11) rfl
theorem dJ0_getBytes_840e7_18 : decode cJ0_getBytes_840e7 18 = .ok (.getfield 9, 3) := dchk_at dall_J0_getBytes_840e7_84b_sb_0 (k := 12) rfl
theorem dJ0_getBytes_840e7_21 : decode cJ0_getBytes_840e7 21 = .ok (.arraylength, 1) := dchk_at dall_J0_getBytes_840e7_84b_sb_0 (k := 13) rfl
theorem dJ0_getBytes_840e7_22 : decode cJ0_getBytes_840e7 22 = .ok (.invokestatic 212, 3) := dchk_at dall_J0_getBytes_840e7_84b_sb_0 (k := 14) rfl
theorem dJ0_getBytes_840e7_25 : decode cJ0_getBytes_840e7 25 = .ok (.goto 18, 3) := dchk_at dall_J0_getBytes_840e7_84b_sb_0 (k := 15) rfl
theorem dJ0_getBytes_840e7_43 : decode cJ0_getBytes_840e7 43 = .ok (.return_, 1) := dchk_at dall_J0_getBytes_840e7_84b_sb_0 (k := 16) rfl
def dl_J5_putStringAt_47b60_84b_sb_0 : List (Nat × Instr × Nat) := [(0, .aload_n 0, 1), (1, .aload_n 2, 1), (2, .invokevirtual 397, 3), (5, .aload_n 2, 1), (6, .aload_n 0, 1), (7, .getfield 15, 3), (10, .iload_n 1, 1), (11, .aload_n 0, 1), (12, .getfield 22, 3), (15, .invokevirtual 399, 3), (18, .return_, 1)]
set_option maxRecDepth 100000 in
theorem dall_J5_putStringAt_47b60_84b_sb_0 : dchk cJ5_putStringAt_47b60 dl_J5_putStringAt_47b60_84b_sb_0 = true := by decide +kernel
theorem dJ5_putStringAt_47b60_0 : decode cJ5_putStringAt_47b60 0 = .ok (.aload_n 0, 1) := dchk_at dall_J5_putStringAt_47b60_84b_sb_0 (k := 0) rfl
theorem dJ5_putStringAt_47b60_1 : decode cJ5_putStringAt_47b60 1 = .ok (.aload_n 2, 1) := dchk_at dall_J5_putStringAt_47b60_84b_sb_0 (k := 1) rfl
theorem dJ5_putStringAt_47b60_2 : decode cJ5_putStringAt_47b60 2 = .ok (.invokevirtual 397, 3) := dchk_at dall_J5_putStringAt_47b60_84b_sb_0 (k := 2) rfl
theorem dJ5_putStringAt_47b60_5 : decode cJ5_putStringAt_47b60 5 = .ok (.aload_n 2, 1) := dchk_at dall_J5_putStringAt_47b60_84b_sb_0 (k := 3) rfl
theorem dJ5_putStringAt_47b60_6 : decode cJ5_putStringAt_47b60 6 = .ok (.aload_n 0, 1) := dchk_at dall_J5_putStringAt_47b60_84b_sb_0 (k := 4) rfl
theorem dJ5_putStringAt_47b60_7 : decode cJ5_putStringAt_47b60 7 = .ok (.getfield 15, 3) := dchk_at dall_J5_putStringAt_47b60_84b_sb_0 (k := 5) rfl
theorem dJ5_putStringAt_47b60_10 : decode cJ5_putStringAt_47b60 10 = .ok (.iload_n 1, 1) := dchk_at dall_J5_putStringAt_47b60_84b_sb_0 (k := 6) rfl
theorem dJ5_putStringAt_47b60_11 : decode cJ5_putStringAt_47b60 11 = .ok (.aload_n 0, 1) := dchk_at dall_J5_putStringAt_47b60_84b_sb_0 (k := 7) rfl
theorem dJ5_putStringAt_47b60_12 : decode cJ5_putStringAt_47b60 12 = .ok (.getfield 22, 3) := dchk_at dall_J5_putStringAt_47b60_84b_sb_0 (k := 8) rfl
theorem dJ5_putStringAt_47b60_15 : decode cJ5_putStringAt_47b60 15 = .ok (.invokevirtual 399, 3) := dchk_at dall_J5_putStringAt_47b60_84b_sb_0 (k := 9) rfl
theorem dJ5_putStringAt_47b60_18 : decode cJ5_putStringAt_47b60 18 = .ok (.return_, 1) := dchk_at dall_J5_putStringAt_47b60_84b_sb_0 (k := 10) rfl
def B_J6_stringSize_0f7a4_16 (x0 : Int32) (x2 : Int32) (x3 : Int32) : Option ((Int32 × Int32) ⊕ (Nat × Int32)) :=
  if (10 : Int32) ≤ x3 then some (.inr (1, x3)) else if x0 ≤ x2 then some (.inl ((10 : Int32) * x2, x3 + (1 : Int32))) else some (.inr (0, x3))
def J_J6_stringSize_0f7a4_11 (K : Nat) (x1 : Int32) (x0 : Int32) : Option (Int32) :=
  bd2 (lpF (fun u9 : Int32 × Int32 => B_J6_stringSize_0f7a4_16 x0 u9.1 u9.2) K ((-10 : Int32), (1 : Int32))) (fun t_4 x3_5 => if t_4 = 0 then some (x3_5 + x1) else if t_4 = 1 then some ((10 : Int32) + x1) else none)
def F_J6_stringSize_0f7a4 (K : Nat) (p0 : Int32) : Option (Int32) :=
  if p0 < (0 : Int32) then J_J6_stringSize_0f7a4_11 K (1 : Int32) p0 else J_J6_stringSize_0f7a4_11 K (0 : Int32) (-p0)

def v_f_J6_stringSize_0f7a4 : List Cond := List.cons (.code yJ6_stringSize_0f7a4 cJ6_stringSize_0f7a4 4 (some .int)) (HAppend.hAppend (α := List Cond) (β := List Cond) (γ := List Cond) [] [])
theorem gw_f_J6_stringSize_0f7a4 : v_f_J6_stringSize_0f7a4.all goodWord = true := by decide +kernel
theorem hd_J6_stringSize_0f7a4 : yJ6_stringSize_0f7a4.cls = RJ6 ∧ yJ6_stringSize_0f7a4.cls ≠ "java/lang/invoke/MethodHandle" ∧ yJ6_stringSize_0f7a4.cls ≠ "java/lang/invoke/VarHandle" ∧ (parseMethodDescriptor yJ6_stringSize_0f7a4.desc).map (fun d => d.parameters.length) = some 1 := by decide +kernel
set_option maxHeartbeats 4000000 in
set_option maxRecDepth 100000 in
theorem wb_J6_stringSize_0f7a4_16 {p : Program} (l : Launch) {e : Env} {s : State} {m : MethodId} {below : List Frame} {meth : Method} {c : Code} {Q : State → Prop} (E : EE) (K : Nat) {p0 : Int32} {x0 : Int32} {x1 : Int32} {x2 : Int32} {x3 : Int32} (hx : p.tables.exec = Jvm.exec) (hb : c.code = cJ6_stringSize_0f7a4) (hml : c.maxLocals = 4) (hown : s.vm.findClass RJ6 = some m.cls) (hts : ∀ w ∈ v_f_J6_stringSize_0f7a4, w.before #[Value.int p0] s = true) (hK : va_K E.1 vwCl (TY E) s) (hN : NX s) {xx : (Int32 × Int32) ⊕ (Nat × Int32)} (hC : ∀ (x2 : Int32), ∀ (x3 : Int32), xx = .inl (x2, x3) → ∀ (ls : Array Slot), lv_has ls 4 [(0, .int x0), (1, .int x1), (2, .int x2), (3, .int x3)] → W p l e ({ frames := 0, cells := 0, slots := 0, locals := 0 } : Room) s m #[Value.int p0] below meth c s.heap [] 0 0 Q (F0 m 16 ls [])) (hE : ∀ (t9 : Nat), ∀ (x3 : Int32), xx = .inr (t9, x3) → ((t9 = 0 → ∀ (ls : Array Slot), lv_has ls 4 [(1, .int x1), (3, .int x3)] → W p l e ({ frames := 0, cells := 0, slots := 0, locals := 0 } : Room) s m #[Value.int p0] below meth c s.heap [] 0 0 Q (F0 m 27 ls [])) ∧ (t9 = 1 → ∀ (ls : Array Slot), lv_has ls 4 [(1, .int x1)] → W p l e ({ frames := 0, cells := 0, slots := 0, locals := 0 } : Room) s m #[Value.int p0] below meth c s.heap [] 0 0 Q (F0 m 42 ls [])))) (hF : B_J6_stringSize_0f7a4_16 x0 x2 x3 = some xx) (hP : va_P E.1 vwCl [] s.heap) : ∀ (ls : Array Slot), lv_has ls 4 [(0, .int x0), (1, .int x1), (2, .int x2), (3, .int x3)] → W p l e ({ frames := 0, cells := 0, slots := 0, locals := 0 } : Room) s m #[Value.int p0] below meth c s.heap [] 0 0 Q (F0 m 16 ls []) := by
  unfold B_J6_stringSize_0f7a4_16 at hF
  replace hP : va_P E.1 vwCl [] s.heap := hP
  intro ls hl
  refine lv_iload_n hx hb dJ6_stringSize_0f7a4_16 rfl (lv_at hl 3 rfl) ?_
  refine lv_bipush (v := 10) hx hb dJ6_stringSize_0f7a4_17 (by decide) ?_
  refine lv_icmp_ge (tgt := 42) hx hb dJ6_stringSize_0f7a4_19 (by decide) (fun c_2 => ?_) (fun c_2 => ?_)
  ·
    replace hF := ip c_2 hF
    cases hF
    exact (hE 1 x3 rfl).2 rfl ls (lv_sub hl [1] rfl)
  ·
    replace hF := inn c_2 hF
    refine lv_iload_n hx hb dJ6_stringSize_0f7a4_22 rfl (lv_at hl 0 rfl) ?_
    refine lv_iload_n hx hb dJ6_stringSize_0f7a4_23 rfl (lv_at hl 2 rfl) ?_
    refine lv_icmp_le (tgt := 31) hx hb dJ6_stringSize_0f7a4_24 (by decide) (fun c_3 => ?_) (fun c_3 => ?_)
    ·
      replace hF := ip c_3 hF
      refine lv_bipush (v := 10) hx hb dJ6_stringSize_0f7a4_31 (by decide) ?_
      refine lv_iload_n hx hb dJ6_stringSize_0f7a4_33 rfl (lv_at hl 2 rfl) ?_
      refine lv_imul hx hb dJ6_stringSize_0f7a4_34 ?_
      refine lv_istore_n (lv' := [(2, .int ((10 : Int32) * x2)), (0, .int x0), (1, .int x1), (3, .int x3)]) hx hb dJ6_stringSize_0f7a4_35 rfl hl (by decide) rfl (fun ls hl => ?_)
      refine lv_iinc (v := x3 + (1 : Int32)) (lv' := [(3, .int (x3 + (1 : Int32))), (2, .int ((10 : Int32) * x2)), (0, .int x0), (1, .int x1)]) hx hb dJ6_stringSize_0f7a4_36 hl (k := 3) rfl (rfl) (by decide) rfl (fun ls hl => ?_)
      refine lv_goto (tgt := 16) hx hb dJ6_stringSize_0f7a4_39 (by decide) ?_
      cases hF
      exact hC ((10 : Int32) * x2) (x3 + (1 : Int32)) rfl ls (lv_sub hl [2, 3, 1, 0] rfl)
    ·
      replace hF := inn c_3 hF
      cases hF
      exact (hE 0 x3 rfl).1 rfl ls (lv_sub hl [1, 3] rfl)

set_option maxHeartbeats 4000000 in
set_option maxRecDepth 100000 in
theorem lw_J6_stringSize_0f7a4_16 {p : Program} (l : Launch) {e : Env} {s : State} {m : MethodId} {below : List Frame} {meth : Method} {c : Code} {Q : State → Prop} (E : EE) (K : Nat) {p0 : Int32} {x0 : Int32} {x1 : Int32} (hx : p.tables.exec = Jvm.exec) (hb : c.code = cJ6_stringSize_0f7a4) (hml : c.maxLocals = 4) (hown : s.vm.findClass RJ6 = some m.cls) (hts : ∀ w ∈ v_f_J6_stringSize_0f7a4, w.before #[Value.int p0] s = true) (hK : va_K E.1 vwCl (TY E) s) (hN : NX s) (hP : va_P E.1 vwCl [] s.heap) (j9 : Nat) (x2 : Int32) (x3 : Int32) (t9' : Nat) (x3' : Int32) (hL : lpF (fun u9 : Int32 × Int32 => B_J6_stringSize_0f7a4_16 x0 u9.1 u9.2) j9 (x2, x3) = some (t9', x3')) (hX : (t9' = 0 → ∀ (ls : Array Slot), lv_has ls 4 [(1, .int x1), (3, .int x3')] → W p l e ({ frames := 0, cells := 0, slots := 0, locals := 0 } : Room) s m #[Value.int p0] below meth c s.heap [] 0 0 Q (F0 m 27 ls [])) ∧ (t9' = 1 → ∀ (ls : Array Slot), lv_has ls 4 [(1, .int x1)] → W p l e ({ frames := 0, cells := 0, slots := 0, locals := 0 } : Room) s m #[Value.int p0] below meth c s.heap [] 0 0 Q (F0 m 42 ls []))) : ∀ (ls : Array Slot), lv_has ls 4 [(0, .int x0), (1, .int x1), (2, .int x2), (3, .int x3)] → W p l e ({ frames := 0, cells := 0, slots := 0, locals := 0 } : Room) s m #[Value.int p0] below meth c s.heap [] 0 0 Q (F0 m 16 ls []) := by
  exact lp_rule (P := (fun u9 : Int32 × Int32 => ∀ (ls : Array Slot), lv_has ls 4 [(0, .int x0), (1, .int x1), (2, .int u9.1), (3, .int u9.2)] → W p l e ({ frames := 0, cells := 0, slots := 0, locals := 0 } : Room) s m #[Value.int p0] below meth c s.heap [] 0 0 Q (F0 m 16 ls []))) (R := (fun r9 : Nat × Int32 => (r9.1 = 0 → ∀ (ls : Array Slot), lv_has ls 4 [(1, .int x1), (3, .int r9.2)] → W p l e ({ frames := 0, cells := 0, slots := 0, locals := 0 } : Room) s m #[Value.int p0] below meth c s.heap [] 0 0 Q (F0 m 27 ls [])) ∧ (r9.1 = 1 → ∀ (ls : Array Slot), lv_has ls 4 [(1, .int x1)] → W p l e ({ frames := 0, cells := 0, slots := 0, locals := 0 } : Room) s m #[Value.int p0] below meth c s.heap [] 0 0 Q (F0 m 42 ls [])))) (fun u9 xx hF hC hE => wb_J6_stringSize_0f7a4_16 l E K (p0 := p0) (x0 := x0) (x1 := x1) (x2 := u9.1) (x3 := u9.2) hx hb hml hown hts hK hN (fun x2 x3 q9 => hC _ q9) (fun t9 x3 q9 => hE _ q9) hF hP) j9 (x2, x3) (t9', x3') hL hX

set_option maxHeartbeats 4000000 in
set_option maxRecDepth 100000 in
theorem j_J6_stringSize_0f7a4_11 {p : Program} (l : Launch) {e : Env} {s : State} {m : MethodId} {below : List Frame} {meth : Method} {c : Code} {Q : State → Prop} (E : EE) (K : Nat) {p0 : Int32} {x1 : Int32} {x0 : Int32} (hx : p.tables.exec = Jvm.exec) (hb : c.code = cJ6_stringSize_0f7a4) (hml : c.maxLocals = 4) (hown : s.vm.findClass RJ6 = some m.cls) (hts : ∀ w ∈ v_f_J6_stringSize_0f7a4, w.before #[Value.int p0] s = true) (hK : va_K E.1 vwCl (TY E) s) (hN : NX s) {rr : Int32} (hr : meth.sig.returnType = (some .int)) (hlocks : meth.locks = false) (hQ : Q = MQ below (vp_Si (fun q : Int32 => q = rr)) #[Value.int p0] s 0 0 (fun _ => False)) (hF : J_J6_stringSize_0f7a4_11 K x1 x0 = some rr) (hP : va_P E.1 vwCl [] s.heap) : ∀ (ls : Array Slot), lv_has ls 4 [(0, .int x0), (1, .int x1)] → W p l e ({ frames := 0, cells := 0, slots := 0, locals := 0 } : Room) s m #[Value.int p0] below meth c s.heap [] 0 0 Q (F0 m 11 ls []) := by
  unfold J_J6_stringSize_0f7a4_11 at hF
  replace hP : va_P E.1 vwCl [] s.heap := hP
  intro ls hl
  refine lv_bipush (v := -10) hx hb dJ6_stringSize_0f7a4_11 (by decide) ?_
  refine lv_istore_n (lv' := [(2, .int (-10 : Int32)), (0, .int x0), (1, .int x1)]) hx hb dJ6_stringSize_0f7a4_13 rfl hl (by decide) rfl (fun ls hl => ?_)
  refine lv_iconst (v := 1) hx hb dJ6_stringSize_0f7a4_14 (by decide) ?_
  refine lv_istore_n (lv' := [(3, .int (1 : Int32)), (2, .int (-10 : Int32)), (0, .int x0), (1, .int x1)]) hx hb dJ6_stringSize_0f7a4_15 rfl hl (by decide) rfl (fun ls hl => ?_)
  replace hF := bd2_s hF
  obtain ⟨t_4, x3_5, hL_6, hF⟩ := hF
  refine lw_J6_stringSize_0f7a4_16 l E K (p0 := p0) (x0 := x0) (x1 := x1) hx hb hml hown hts hK hN hP K (-10 : Int32) (1 : Int32) t_4 x3_5 hL_6 ⟨?_, ?_⟩ ls (lv_sub hl [2, 3, 1, 0] rfl)
  ·
    intro t9
    replace hF := ip t9 hF
    intro ls hl
    refine lv_iload_n hx hb dJ6_stringSize_0f7a4_27 rfl (lv_at hl 1 rfl) ?_
    refine lv_iload_n hx hb dJ6_stringSize_0f7a4_28 rfl (lv_at hl 0 rfl) ?_
    refine lv_iadd hx hb dJ6_stringSize_0f7a4_29 ?_
    rw [hQ]
    obtain e9_0 := inj1 hF
    exact W.iret (v := x3_5 + x1) hx hb hr (fun tt ht hW => ⟨_, rfl, e9_0, ht⟩) (fun _ h => by cases h) dJ6_stringSize_0f7a4_30
  ·
    intro t9
    replace hF := inn (show ¬ t_4 = 0 by omega) hF
    replace hF := ip t9 hF
    intro ls hl
    refine lv_bipush (v := 10) hx hb dJ6_stringSize_0f7a4_42 (by decide) ?_
    refine lv_iload_n hx hb dJ6_stringSize_0f7a4_44 rfl (lv_at hl 0 rfl) ?_
    refine lv_iadd hx hb dJ6_stringSize_0f7a4_45 ?_
    rw [hQ]
    obtain e9_0 := inj1 hF
    exact W.iret (v := (10 : Int32) + x1) hx hb hr (fun tt ht hW => ⟨_, rfl, e9_0, ht⟩) (fun _ h => by cases h) dJ6_stringSize_0f7a4_46

set_option maxHeartbeats 4000000 in
set_option maxRecDepth 100000 in
theorem f_J6_stringSize_0f7a4 (l : Launch) (E : EE) (K : Nat) {p0 : Int32} {rr : Int32} (hF : F_J6_stringSize_0f7a4 K p0 = some rr) : Met l yJ6_stringSize_0f7a4 v_f_J6_stringSize_0f7a4 (({ frames := 0, cells := 0, slots := 0, locals := 0 } : Room)) (va_Pc [.int p0] (pP E [])) (vp_Si (fun q : Int32 => q = rr)) 0 0 (fun _ => False) := by
  refine Met.ofWF (cc := cJ6_stringSize_0f7a4) (maxL := 4) (ret := (some .int)) (by decide +kernel) rfl ?_
  intro p e s m args below meth c s₁ B hml hv
  obtain ⟨rfl, ⟨hK, hN⟩, hP⟩ := hv
  have hx := B.exec
  have hb := B.bytes
  have hr := B.returns
  have hts := atoms_spec (ws := v_f_J6_stringSize_0f7a4) B.pre
  have hown : s.vm.findClass RJ6 = some m.cls := own_of hd_J6_stringSize_0f7a4.1 (findClass_of_methodNamed B.named)
  have hlocks : meth.locks = false := B.notSynchronized
  replace hP : va_P E.1 vwCl [] s.heap := hP
  have hl := lv_entry ([.int p0]) (n := 4) (Nat.le_of_ble_eq_true rfl)
  rw [lg_entry_eq]
  generalize (lg_sl ([.int p0]) ++ List.replicate (4 - (lg_sl ([.int p0])).length) Slot.unset).toArray = ls at hl ⊢
  have hl : lv_has ls 4 [(0, .int p0)] := hl
  obtain ⟨Q, hQ⟩ : ∃ Q : State → Prop, Q = MQ below (vp_Si (fun q : Int32 => q = rr)) #[Value.int p0] s 0 0 (fun _ => False) := ⟨_, rfl⟩
  rw [← hQ]
  change W p l e ({ frames := 0, cells := 0, slots := 0, locals := 0 } : Room) s m #[Value.int p0] below meth c s.heap [] 0 0 Q (F0 m 0 ls [])
  unfold F_J6_stringSize_0f7a4 at hF
  refine lv_iconst (v := 1) hx hb dJ6_stringSize_0f7a4_0 (by decide) ?_
  refine lv_istore_n (lv' := [(1, .int (1 : Int32)), (0, .int p0)]) hx hb dJ6_stringSize_0f7a4_1 rfl hl (by decide) rfl (fun ls hl => ?_)
  refine lv_iload_n hx hb dJ6_stringSize_0f7a4_2 rfl (lv_at hl 1 rfl) ?_
  refine lv_if_lt (tgt := 11) hx hb dJ6_stringSize_0f7a4_3 (by decide) (fun c_1 => ?_) (fun c_1 => ?_)
  ·
    replace hF := ip c_1 hF
    exact j_J6_stringSize_0f7a4_11 l E K (p0 := p0) (x1 := (1 : Int32)) (x0 := p0) hx hb hml hown hts hK hN hr hlocks hQ hF hP ls (lv_sub hl [1, 0] rfl)
  ·
    replace hF := inn c_1 hF
    refine lv_iconst (v := 0) hx hb dJ6_stringSize_0f7a4_6 (by decide) ?_
    refine lv_istore_n (lv' := [(1, .int (0 : Int32)), (0, .int p0)]) hx hb dJ6_stringSize_0f7a4_7 rfl hl (by decide) rfl (fun ls hl => ?_)
    refine lv_iload_n hx hb dJ6_stringSize_0f7a4_8 rfl (lv_at hl 1 rfl) ?_
    refine lv_ineg hx hb dJ6_stringSize_0f7a4_9 ?_
    refine lv_istore_n (lv' := [(0, .int (-p0)), (1, .int (0 : Int32))]) hx hb dJ6_stringSize_0f7a4_10 rfl hl (by decide) rfl (fun ls hl => ?_)
    exact j_J6_stringSize_0f7a4_11 l E K (p0 := p0) (x1 := (0 : Int32)) (x0 := -p0) hx hb hml hown hts hK hN hr hlocks hQ hF hP ls (lv_sub hl [0, 1] rfl)

def B_J6_getChars_ba4f3_22 (m9 : Nat) (x0 : Int32) (x5 : Int32) (c_o2 : Nat → Int32) : Option ((Int32 × Int32 × (Nat → Int32)) ⊕ (Int32 × Int32 × (Nat → Int32))) :=
  if (-100 : Int32) < x0 then some (.inr (x0, x5, c_o2)) else ixF (((x0 / (100 : Int32)) * (100 : Int32)) - x0) 100 (ixF (x5 + (-1 : Int32)) m9 (nmF (upd c_o2 (x5 + (-1 : Int32)).toNatClampNeg (vp_nar .byte (onesF (((x0 / (100 : Int32)) * (100 : Int32)) - x0).toNatClampNeg))) (fun f_6 => ixF (((x0 / (100 : Int32)) * (100 : Int32)) - x0) 100 (ixF ((x5 + (-1 : Int32)) + (-1 : Int32)) m9 (nmF (upd f_6 ((x5 + (-1 : Int32)) + (-1 : Int32)).toNatClampNeg (vp_nar .byte (tensF (((x0 / (100 : Int32)) * (100 : Int32)) - x0).toNatClampNeg))) (fun f_9 => some (.inl (x0 / (100 : Int32), (x5 + (-1 : Int32)) + (-1 : Int32), f_9))))))))
def J_J6_getChars_ba4f3_12 (K : Nat) (m9 : Nat) (k0 : Int32) (x0 : Int32) (x5 : Int32) (c_o2 : Nat → Int32) : Option (Int32 × (Nat → Int32)) :=
  if k0 = (0 : Int32) then bd3 (lpF (fun u9 : Int32 × Int32 × (Nat → Int32) => B_J6_getChars_ba4f3_22 m9 u9.1 u9.2.1 u9.2.2) K (-x0, x5, c_o2)) (fun x0_27 x5_28 c_o2_29 => ixF (-x0_27) 100 (ixF (x5_28 + (-1 : Int32)) m9 (nmF (upd c_o2_29 (x5_28 + (-1 : Int32)).toNatClampNeg (vp_nar .byte (onesF (-x0_27).toNatClampNeg))) (fun f_33 => if (-9 : Int32) ≤ x0_27 then if k0 = (0 : Int32) then some (x5_28 + (-1 : Int32), f_33) else ixF ((x5_28 + (-1 : Int32)) + (-1 : Int32)) m9 (nmF (upd f_33 ((x5_28 + (-1 : Int32)) + (-1 : Int32)).toNatClampNeg (vp_nar .byte (45 : Int32))) (fun f_37 => some ((x5_28 + (-1 : Int32)) + (-1 : Int32), f_37))) else ixF (-x0_27) 100 (ixF ((x5_28 + (-1 : Int32)) + (-1 : Int32)) m9 (nmF (upd f_33 ((x5_28 + (-1 : Int32)) + (-1 : Int32)).toNatClampNeg (vp_nar .byte (tensF (-x0_27).toNatClampNeg))) (fun f_40 => if k0 = (0 : Int32) then some ((x5_28 + (-1 : Int32)) + (-1 : Int32), f_40) else ixF (((x5_28 + (-1 : Int32)) + (-1 : Int32)) + (-1 : Int32)) m9 (nmF (upd f_40 (((x5_28 + (-1 : Int32)) + (-1 : Int32)) + (-1 : Int32)).toNatClampNeg (vp_nar .byte (45 : Int32))) (fun f_43 => some (((x5_28 + (-1 : Int32)) + (-1 : Int32)) + (-1 : Int32), f_43)))))))))) else bd3 (lpF (fun u9 : Int32 × Int32 × (Nat → Int32) => B_J6_getChars_ba4f3_22 m9 u9.1 u9.2.1 u9.2.2) K (x0, x5, c_o2)) (fun x0_10 x5_11 c_o2_12 => ixF (-x0_10) 100 (ixF (x5_11 + (-1 : Int32)) m9 (nmF (upd c_o2_12 (x5_11 + (-1 : Int32)).toNatClampNeg (vp_nar .byte (onesF (-x0_10).toNatClampNeg))) (fun f_16 => if (-9 : Int32) ≤ x0_10 then if k0 = (0 : Int32) then some (x5_11 + (-1 : Int32), f_16) else ixF ((x5_11 + (-1 : Int32)) + (-1 : Int32)) m9 (nmF (upd f_16 ((x5_11 + (-1 : Int32)) + (-1 : Int32)).toNatClampNeg (vp_nar .byte (45 : Int32))) (fun f_20 => some ((x5_11 + (-1 : Int32)) + (-1 : Int32), f_20))) else ixF (-x0_10) 100 (ixF ((x5_11 + (-1 : Int32)) + (-1 : Int32)) m9 (nmF (upd f_16 ((x5_11 + (-1 : Int32)) + (-1 : Int32)).toNatClampNeg (vp_nar .byte (tensF (-x0_10).toNatClampNeg))) (fun f_23 => if k0 = (0 : Int32) then some ((x5_11 + (-1 : Int32)) + (-1 : Int32), f_23) else ixF (((x5_11 + (-1 : Int32)) + (-1 : Int32)) + (-1 : Int32)) m9 (nmF (upd f_23 (((x5_11 + (-1 : Int32)) + (-1 : Int32)) + (-1 : Int32)).toNatClampNeg (vp_nar .byte (45 : Int32))) (fun f_26 => some (((x5_11 + (-1 : Int32)) + (-1 : Int32)) + (-1 : Int32), f_26))))))))))
def F_J6_getChars_ba4f3 (K : Nat) (p0 : Int32) (p1 : Int32) (c_o2 : Nat → Int32) (m9 : Nat) : Option (Int32 × (Nat → Int32)) :=
  if (0 : Int32) ≤ p0 then J_J6_getChars_ba4f3_12 K m9 (0 : Int32) p0 p1 c_o2 else J_J6_getChars_ba4f3_12 K m9 (1 : Int32) p0 p1 c_o2
abbrev w_J6_getChars_ba4f3 (E : EE) (a_o2 : Nat) (c_o2 : Nat → Int32) (m9 : Nat) : va_W := [(a_o2, .inl (E.2.2.1, m9, .inl c_o2))]
def v_f_J6_getChars_ba4f3 : List Cond := List.cons (.code yJ6_getChars_ba4f3 cJ6_getChars_ba4f3 7 (some .int)) (HAppend.hAppend (α := List Cond) (β := List Cond) (γ := List Cond) [.fieldLink RJ6 83 "java/lang/Integer" "DigitOnes" "[B", .fieldLink RJ6 87 "java/lang/Integer" "DigitTens" "[B"] [])
theorem gw_f_J6_getChars_ba4f3 : v_f_J6_getChars_ba4f3.all goodWord = true := by decide +kernel
theorem hd_J6_getChars_ba4f3 : yJ6_getChars_ba4f3.cls = RJ6 ∧ yJ6_getChars_ba4f3.cls ≠ "java/lang/invoke/MethodHandle" ∧ yJ6_getChars_ba4f3.cls ≠ "java/lang/invoke/VarHandle" ∧ (parseMethodDescriptor yJ6_getChars_ba4f3.desc).map (fun d => d.parameters.length) = some 3 := by decide +kernel
set_option maxHeartbeats 4000000 in
set_option maxRecDepth 100000 in
theorem wb_J6_getChars_ba4f3_22 {p : Program} (l : Launch) {e : Env} {s : State} {m : MethodId} {below : List Frame} {meth : Method} {c : Code} {Q : State → Prop} (E : EE) (K : Nat) {z9 : Nat → Nat} {a_o2 : Nat} {p0 : Int32} {p1 : Int32} {m9 : Nat} {x0 : Int32} {x5 : Int32} {x6 : Int32} {c_o2 : Nat → Int32} (hx : p.tables.exec = Jvm.exec) (hb : c.code = cJ6_getChars_ba4f3) (hml : c.maxLocals = 7) (hown : s.vm.findClass RJ6 = some m.cls) (hts : ∀ w ∈ v_f_J6_getChars_ba4f3, w.before #[Value.int p0, Value.int p1, Value.ref a_o2] s = true) (hK : va_K E.1 vwCl (TY E) s) (hN : NX s) {A : Nat → Prop} (hA : ∀ q : Nat, s.heap.size ≤ q → A q) (hZ : ZZ z9 A s s.heap) {xx : (Int32 × Int32 × (Nat → Int32)) ⊕ (Int32 × Int32 × (Nat → Int32))} (hC : ∀ (x0 : Int32), ∀ (x5 : Int32), ∀ (c_o2 : Nat → Int32), xx = .inl (x0, x5, c_o2) → ∀ (H : Heap) (locs : List Loc) (ls : Array Slot), va_P E.1 vwCl (w_J6_getChars_ba4f3 E a_o2 c_o2 m9) H → va_D A (w_J6_getChars_ba4f3 E a_o2 c_o2 m9) → va_S A s.heap H locs → lv_has ls 7 [(0, .int x0), (2, .ref a_o2), (5, .int x5), (6, .int x6)] → W p l e ({ frames := 0, cells := 0, slots := 0, locals := 0 } : Room) s m #[Value.int p0, Value.int p1, Value.ref a_o2] below meth c H locs 0 0 Q (F0 m 22 ls [])) (hE : ∀ (x0 : Int32), ∀ (x5 : Int32), ∀ (c_o2 : Nat → Int32), xx = .inr (x0, x5, c_o2) → ((∀ (H : Heap) (locs : List Loc) (ls : Array Slot), va_P E.1 vwCl (w_J6_getChars_ba4f3 E a_o2 c_o2 m9) H → va_D A (w_J6_getChars_ba4f3 E a_o2 c_o2 m9) → va_S A s.heap H locs → lv_has ls 7 [(0, .int x0), (2, .ref a_o2), (5, .int x5), (6, .int x6)] → W p l e ({ frames := 0, cells := 0, slots := 0, locals := 0 } : Room) s m #[Value.int p0, Value.int p1, Value.ref a_o2] below meth c H locs 0 0 Q (F0 m 72 ls [])))) (hF : B_J6_getChars_ba4f3_22 m9 x0 x5 c_o2 = some xx) : ∀ (H : Heap) (locs : List Loc) (ls : Array Slot), va_P E.1 vwCl (w_J6_getChars_ba4f3 E a_o2 c_o2 m9) H → va_D A (w_J6_getChars_ba4f3 E a_o2 c_o2 m9) → va_S A s.heap H locs → lv_has ls 7 [(0, .int x0), (2, .ref a_o2), (5, .int x5), (6, .int x6)] → W p l e ({ frames := 0, cells := 0, slots := 0, locals := 0 } : Room) s m #[Value.int p0, Value.int p1, Value.ref a_o2] below meth c H locs 0 0 Q (F0 m 22 ls []) := by
  unfold B_J6_getChars_ba4f3_22 at hF
  intro H locs ls hP hD hS hl
  replace hP : va_P E.1 vwCl [(a_o2, .inl (E.2.2.1, m9, .inl c_o2))] H := hP
  replace hD : va_D A [(a_o2, .inl (E.2.2.1, m9, .inl c_o2))] := hD
  refine lv_iload_n hx hb dJ6_getChars_ba4f3_22 rfl (lv_at hl 0 rfl) ?_
  refine lv_bipush (v := -100) hx hb dJ6_getChars_ba4f3_23 (by decide) ?_
  refine lv_icmp_gt (tgt := 72) hx hb dJ6_getChars_ba4f3_25 (by decide) (fun c_3 => ?_) (fun c_3 => ?_)
  ·
    replace hF := ip c_3 hF
    cases hF
    exact hE x0 x5 c_o2 rfl H locs ls (hP.sub [0] rfl) (hD.sub [0] (by decide) rfl) hS (lv_sub hl [0, 1, 2, 3] rfl)
  ·
    replace hF := inn c_3 hF
    refine lv_iload_n hx hb dJ6_getChars_ba4f3_28 rfl (lv_at hl 0 rfl) ?_
    refine lv_bipush (v := 100) hx hb dJ6_getChars_ba4f3_29 (by decide) ?_
    refine lv_idiv hx hb dJ6_getChars_ba4f3_31 (by decide) ?_
    refine lv_istore_n (lv' := [(3, .int (x0 / (100 : Int32))), (0, .int x0), (2, .ref a_o2), (5, .int x5), (6, .int x6)]) hx hb dJ6_getChars_ba4f3_32 rfl hl (by decide) rfl (fun ls hl => ?_)
    refine lv_iload_n hx hb dJ6_getChars_ba4f3_33 rfl (lv_at hl 0 rfl) ?_
    refine lv_bipush (v := 100) hx hb dJ6_getChars_ba4f3_34 (by decide) ?_
    refine lv_imul hx hb dJ6_getChars_ba4f3_36 ?_
    refine lv_iload_n hx hb dJ6_getChars_ba4f3_37 rfl (lv_at hl 1 rfl) ?_
    refine lv_isub hx hb dJ6_getChars_ba4f3_38 ?_
    refine lv_istore (lv' := [(4, .int (((x0 / (100 : Int32)) * (100 : Int32)) - x0)), (3, .int (x0 / (100 : Int32))), (0, .int x0), (2, .ref a_o2), (5, .int x5), (6, .int x6)]) hx hb dJ6_getChars_ba4f3_39 hl (by decide) rfl (fun ls hl => ?_)
    refine lv_iload_n hx hb dJ6_getChars_ba4f3_41 rfl (lv_at hl 1 rfl) ?_
    refine lv_istore_n (lv' := [(0, .int (x0 / (100 : Int32))), (4, .int (((x0 / (100 : Int32)) * (100 : Int32)) - x0)), (3, .int (x0 / (100 : Int32))), (2, .ref a_o2), (5, .int x5), (6, .int x6)]) hx hb dJ6_getChars_ba4f3_42 rfl hl (by decide) rfl (fun ls hl => ?_)
    refine lv_aload_n hx hb dJ6_getChars_ba4f3_43 rfl (lv_at hl 3 rfl) ?_
    refine lv_iinc (v := x5 + (-1 : Int32)) (lv' := [(5, .int (x5 + (-1 : Int32))), (0, .int (x0 / (100 : Int32))), (4, .int (((x0 / (100 : Int32)) * (100 : Int32)) - x0)), (3, .int (x0 / (100 : Int32))), (2, .ref a_o2), (6, .int x6)]) hx hb dJ6_getChars_ba4f3_44 hl (k := 4) rfl (rfl) (by decide) rfl (fun ls hl => ?_)
    refine lv_iload hx hb dJ6_getChars_ba4f3_47 (lv_at hl 0 rfl) ?_
    refine va_gets hx hb hZ.2.2.1.2.1 hS hown (hts (.fieldLink RJ6 83 "java/lang/Integer" "DigitOnes" "[B") (List.mem_of_getElem? (i := 1) rfl)) (fun _ h9 => h9) dJ6_getChars_ba4f3_49 ?_
    refine lv_iload hx hb dJ6_getChars_ba4f3_52 (lv_at hl 2 rfl) ?_
    replace hF := ix_s hF
    obtain ⟨hi_4, hF⟩ := hF
    refine va_tb (v := .int (onesF (((x0 / (100 : Int32)) * (100 : Int32)) - x0).toNatClampNeg)) hx hb (hZ.2.2.1.2.2.1) hS hi_4 rfl dJ6_getChars_ba4f3_54 ?_
    replace hF := ix_s hF
    obtain ⟨hi_5, hF⟩ := hF
    refine va_bast hx hb hK hP hD hS 0 1 rfl rfl hi_5 dJ6_getChars_ba4f3_55 (fun H locs hP hD hS => ?_)
    replace hP : va_P E.1 vwCl [(a_o2, .inl (E.2.2.1, m9, .inl (upd c_o2 (x5 + (-1 : Int32)).toNatClampNeg (vp_nar .byte (onesF (((x0 / (100 : Int32)) * (100 : Int32)) - x0).toNatClampNeg)))))] H := hP
    replace hD : va_D A [(a_o2, .inl (E.2.2.1, m9, .inl (upd c_o2 (x5 + (-1 : Int32)).toNatClampNeg (vp_nar .byte (onesF (((x0 / (100 : Int32)) * (100 : Int32)) - x0).toNatClampNeg)))))] := hD
    replace hF := nm_s hF
    obtain ⟨f_6, hf_6, hF⟩ := hF
    rw [← hf_6] at hP hD
    refine lv_aload_n hx hb dJ6_getChars_ba4f3_56 rfl (lv_at hl 4 rfl) ?_
    refine lv_iinc (v := (x5 + (-1 : Int32)) + (-1 : Int32)) (lv' := [(5, .int ((x5 + (-1 : Int32)) + (-1 : Int32))), (0, .int (x0 / (100 : Int32))), (4, .int (((x0 / (100 : Int32)) * (100 : Int32)) - x0)), (3, .int (x0 / (100 : Int32))), (2, .ref a_o2), (6, .int x6)]) hx hb dJ6_getChars_ba4f3_57 hl (k := 0) rfl (rfl) (by decide) rfl (fun ls hl => ?_)
    refine lv_iload hx hb dJ6_getChars_ba4f3_60 (lv_at hl 0 rfl) ?_
    refine va_gets hx hb hZ.2.2.1.2.2.2.1 hS hown (hts (.fieldLink RJ6 87 "java/lang/Integer" "DigitTens" "[B") (List.mem_of_getElem? (i := 2) rfl)) (fun _ h9 => h9) dJ6_getChars_ba4f3_62 ?_
    refine lv_iload hx hb dJ6_getChars_ba4f3_65 (lv_at hl 2 rfl) ?_
    replace hF := ix_s hF
    obtain ⟨hi_7, hF⟩ := hF
    refine va_tb (v := .int (tensF (((x0 / (100 : Int32)) * (100 : Int32)) - x0).toNatClampNeg)) hx hb (hZ.2.2.1.2.2.2.2.1) hS hi_7 rfl dJ6_getChars_ba4f3_67 ?_
    replace hF := ix_s hF
    obtain ⟨hi_8, hF⟩ := hF
    refine va_bast hx hb hK hP hD hS 0 1 rfl rfl hi_8 dJ6_getChars_ba4f3_68 (fun H locs hP hD hS => ?_)
    replace hP : va_P E.1 vwCl [(a_o2, .inl (E.2.2.1, m9, .inl (upd f_6 ((x5 + (-1 : Int32)) + (-1 : Int32)).toNatClampNeg (vp_nar .byte (tensF (((x0 / (100 : Int32)) * (100 : Int32)) - x0).toNatClampNeg)))))] H := hP
    replace hD : va_D A [(a_o2, .inl (E.2.2.1, m9, .inl (upd f_6 ((x5 + (-1 : Int32)) + (-1 : Int32)).toNatClampNeg (vp_nar .byte (tensF (((x0 / (100 : Int32)) * (100 : Int32)) - x0).toNatClampNeg)))))] := hD
    replace hF := nm_s hF
    obtain ⟨f_9, hf_9, hF⟩ := hF
    rw [← hf_9] at hP hD
    refine lv_goto (tgt := 22) hx hb dJ6_getChars_ba4f3_69 (by decide) ?_
    cases hF
    exact hC (x0 / (100 : Int32)) ((x5 + (-1 : Int32)) + (-1 : Int32)) f_9 rfl H locs ls (hP.sub [0] rfl) (hD.sub [0] (by decide) rfl) hS (lv_sub hl [1, 4, 0, 5] rfl)

set_option maxHeartbeats 4000000 in
set_option maxRecDepth 100000 in
theorem lw_J6_getChars_ba4f3_22 {p : Program} (l : Launch) {e : Env} {s : State} {m : MethodId} {below : List Frame} {meth : Method} {c : Code} {Q : State → Prop} (E : EE) (K : Nat) {z9 : Nat → Nat} {a_o2 : Nat} {p0 : Int32} {p1 : Int32} {m9 : Nat} {x6 : Int32} (hx : p.tables.exec = Jvm.exec) (hb : c.code = cJ6_getChars_ba4f3) (hml : c.maxLocals = 7) (hown : s.vm.findClass RJ6 = some m.cls) (hts : ∀ w ∈ v_f_J6_getChars_ba4f3, w.before #[Value.int p0, Value.int p1, Value.ref a_o2] s = true) (hK : va_K E.1 vwCl (TY E) s) (hN : NX s) {A : Nat → Prop} (hA : ∀ q : Nat, s.heap.size ≤ q → A q) (hZ : ZZ z9 A s s.heap) (j9 : Nat) (x0 : Int32) (x5 : Int32) (c_o2 : Nat → Int32) (x0' : Int32) (x5' : Int32) (c_o2' : Nat → Int32) (hL : lpF (fun u9 : Int32 × Int32 × (Nat → Int32) => B_J6_getChars_ba4f3_22 m9 u9.1 u9.2.1 u9.2.2) j9 (x0, x5, c_o2) = some (x0', x5', c_o2')) (hX : (∀ (H : Heap) (locs : List Loc) (ls : Array Slot), va_P E.1 vwCl (w_J6_getChars_ba4f3 E a_o2 c_o2' m9) H → va_D A (w_J6_getChars_ba4f3 E a_o2 c_o2' m9) → va_S A s.heap H locs → lv_has ls 7 [(0, .int x0'), (2, .ref a_o2), (5, .int x5'), (6, .int x6)] → W p l e ({ frames := 0, cells := 0, slots := 0, locals := 0 } : Room) s m #[Value.int p0, Value.int p1, Value.ref a_o2] below meth c H locs 0 0 Q (F0 m 72 ls []))) : ∀ (H : Heap) (locs : List Loc) (ls : Array Slot), va_P E.1 vwCl (w_J6_getChars_ba4f3 E a_o2 c_o2 m9) H → va_D A (w_J6_getChars_ba4f3 E a_o2 c_o2 m9) → va_S A s.heap H locs → lv_has ls 7 [(0, .int x0), (2, .ref a_o2), (5, .int x5), (6, .int x6)] → W p l e ({ frames := 0, cells := 0, slots := 0, locals := 0 } : Room) s m #[Value.int p0, Value.int p1, Value.ref a_o2] below meth c H locs 0 0 Q (F0 m 22 ls []) := by
  exact lp_rule (P := (fun u9 : Int32 × Int32 × (Nat → Int32) => ∀ (H : Heap) (locs : List Loc) (ls : Array Slot), va_P E.1 vwCl (w_J6_getChars_ba4f3 E a_o2 u9.2.2 m9) H → va_D A (w_J6_getChars_ba4f3 E a_o2 u9.2.2 m9) → va_S A s.heap H locs → lv_has ls 7 [(0, .int u9.1), (2, .ref a_o2), (5, .int u9.2.1), (6, .int x6)] → W p l e ({ frames := 0, cells := 0, slots := 0, locals := 0 } : Room) s m #[Value.int p0, Value.int p1, Value.ref a_o2] below meth c H locs 0 0 Q (F0 m 22 ls []))) (R := (fun r9 : Int32 × Int32 × (Nat → Int32) => (∀ (H : Heap) (locs : List Loc) (ls : Array Slot), va_P E.1 vwCl (w_J6_getChars_ba4f3 E a_o2 r9.2.2 m9) H → va_D A (w_J6_getChars_ba4f3 E a_o2 r9.2.2 m9) → va_S A s.heap H locs → lv_has ls 7 [(0, .int r9.1), (2, .ref a_o2), (5, .int r9.2.1), (6, .int x6)] → W p l e ({ frames := 0, cells := 0, slots := 0, locals := 0 } : Room) s m #[Value.int p0, Value.int p1, Value.ref a_o2] below meth c H locs 0 0 Q (F0 m 72 ls [])))) (fun u9 xx hF hC hE => wb_J6_getChars_ba4f3_22 l E K (p0 := p0) (p1 := p1) (m9 := m9) (x0 := u9.1) (x5 := u9.2.1) (x6 := x6) (c_o2 := u9.2.2) hx hb hml hown hts hK hN hA hZ (fun x0 x5 c_o2 q9 => hC _ q9) (fun x0 x5 c_o2 q9 => hE _ q9) hF) j9 (x0, x5, c_o2) (x0', x5', c_o2') hL hX

set_option maxHeartbeats 4000000 in
set_option maxRecDepth 100000 in
theorem j_J6_getChars_ba4f3_12 {p : Program} (l : Launch) {e : Env} {s : State} {m : MethodId} {below : List Frame} {meth : Method} {c : Code} {Q : State → Prop} (E : EE) (K : Nat) {z9 : Nat → Nat} {a_o2 : Nat} {p0 : Int32} {p1 : Int32} {m9 : Nat} {k0 : Int32} {x0 : Int32} {x5 : Int32} {c_o2 : Nat → Int32} (hx : p.tables.exec = Jvm.exec) (hb : c.code = cJ6_getChars_ba4f3) (hml : c.maxLocals = 7) (hown : s.vm.findClass RJ6 = some m.cls) (hts : ∀ w ∈ v_f_J6_getChars_ba4f3, w.before #[Value.int p0, Value.int p1, Value.ref a_o2] s = true) (hK : va_K E.1 vwCl (TY E) s) (hN : NX s) {A : Nat → Prop} (hA : ∀ q : Nat, s.heap.size ≤ q → A q) (hZ : ZZ z9 A s s.heap) {rr : Int32} {n_o2 : Nat → Int32} (hr : meth.sig.returnType = (some .int)) (hlocks : meth.locks = false) (hQ : Q = MQ below (va_Qi (fun (q : Int32) (_u : Unit) => q = rr) (fun (_u : Unit) tt => va_P E.1 vwCl (w_J6_getChars_ba4f3 E a_o2 n_o2 m9) tt.heap ∧ va_D A (w_J6_getChars_ba4f3 E a_o2 n_o2 m9)) A) #[Value.int p0, Value.int p1, Value.ref a_o2] s 0 0 A) (hF : J_J6_getChars_ba4f3_12 K m9 k0 x0 x5 c_o2 = some (rr, n_o2)) : ∀ (H : Heap) (locs : List Loc) (ls : Array Slot), va_P E.1 vwCl (w_J6_getChars_ba4f3 E a_o2 c_o2 m9) H → va_D A (w_J6_getChars_ba4f3 E a_o2 c_o2 m9) → va_S A s.heap H locs → lv_has ls 7 [(0, .int x0), (2, .ref a_o2), (5, .int x5)] → W p l e ({ frames := 0, cells := 0, slots := 0, locals := 0 } : Room) s m #[Value.int p0, Value.int p1, Value.ref a_o2] below meth c H locs 0 0 Q (F0 m 12 ls [.int k0]) := by
  unfold J_J6_getChars_ba4f3_12 at hF
  intro H locs ls hP hD hS hl
  replace hP : va_P E.1 vwCl [(a_o2, .inl (E.2.2.1, m9, .inl c_o2))] H := hP
  replace hD : va_D A [(a_o2, .inl (E.2.2.1, m9, .inl c_o2))] := hD
  refine lv_istore (lv' := [(6, .int k0), (0, .int x0), (2, .ref a_o2), (5, .int x5)]) hx hb dJ6_getChars_ba4f3_12 hl (by decide) rfl (fun ls hl => ?_)
  refine lv_iload hx hb dJ6_getChars_ba4f3_14 (lv_at hl 0 rfl) ?_
  refine lv_if_ne (tgt := 22) hx hb dJ6_getChars_ba4f3_16 (by decide) (fun c_2 => ?_) (fun c_2 => ?_)
  ·
    replace hF := inn c_2 hF
    replace hF := bd3_s hF
    obtain ⟨x0_10, x5_11, c_o2_12, hL_13, hF⟩ := hF
    refine lw_J6_getChars_ba4f3_22 l E K (p0 := p0) (p1 := p1) (m9 := m9) (x6 := k0) hx hb hml hown hts hK hN hA hZ K x0 x5 c_o2 x0_10 x5_11 c_o2_12 hL_13 ?_ H locs ls (hP.sub [0] rfl) (hD.sub [0] (by decide) rfl) hS (lv_sub hl [1, 2, 3, 0] rfl)
    ·
      intro H locs ls hP hD hS hl
      replace hP : va_P E.1 vwCl [(a_o2, .inl (E.2.2.1, m9, .inl c_o2_12))] H := hP
      replace hD : va_D A [(a_o2, .inl (E.2.2.1, m9, .inl c_o2_12))] := hD
      refine lv_aload_n hx hb dJ6_getChars_ba4f3_72 rfl (lv_at hl 1 rfl) ?_
      refine lv_iinc (v := x5_11 + (-1 : Int32)) (lv' := [(5, .int (x5_11 + (-1 : Int32))), (0, .int x0_10), (2, .ref a_o2), (6, .int k0)]) hx hb dJ6_getChars_ba4f3_73 hl (k := 2) rfl (rfl) (by decide) rfl (fun ls hl => ?_)
      refine lv_iload hx hb dJ6_getChars_ba4f3_76 (lv_at hl 0 rfl) ?_
      refine va_gets hx hb hZ.2.2.1.2.1 hS hown (hts (.fieldLink RJ6 83 "java/lang/Integer" "DigitOnes" "[B") (List.mem_of_getElem? (i := 1) rfl)) (fun _ h9 => h9) dJ6_getChars_ba4f3_78 ?_
      refine lv_iload_n hx hb dJ6_getChars_ba4f3_81 rfl (lv_at hl 1 rfl) ?_
      refine lv_ineg hx hb dJ6_getChars_ba4f3_82 ?_
      replace hF := ix_s hF
      obtain ⟨hi_14, hF⟩ := hF
      refine va_tb (v := .int (onesF (-x0_10).toNatClampNeg)) hx hb (hZ.2.2.1.2.2.1) hS hi_14 rfl dJ6_getChars_ba4f3_83 ?_
      replace hF := ix_s hF
      obtain ⟨hi_15, hF⟩ := hF
      refine va_bast hx hb hK hP hD hS 0 1 rfl rfl hi_15 dJ6_getChars_ba4f3_84 (fun H locs hP hD hS => ?_)
      replace hP : va_P E.1 vwCl [(a_o2, .inl (E.2.2.1, m9, .inl (upd c_o2_12 (x5_11 + (-1 : Int32)).toNatClampNeg (vp_nar .byte (onesF (-x0_10).toNatClampNeg)))))] H := hP
      replace hD : va_D A [(a_o2, .inl (E.2.2.1, m9, .inl (upd c_o2_12 (x5_11 + (-1 : Int32)).toNatClampNeg (vp_nar .byte (onesF (-x0_10).toNatClampNeg)))))] := hD
      replace hF := nm_s hF
      obtain ⟨f_16, hf_16, hF⟩ := hF
      rw [← hf_16] at hP hD
      refine lv_iload_n hx hb dJ6_getChars_ba4f3_85 rfl (lv_at hl 1 rfl) ?_
      refine lv_bipush (v := -9) hx hb dJ6_getChars_ba4f3_86 (by decide) ?_
      refine lv_icmp_ge (tgt := 104) hx hb dJ6_getChars_ba4f3_88 (by decide) (fun c_17 => ?_) (fun c_17 => ?_)
      ·
        replace hF := ip c_17 hF
        refine lv_iload hx hb dJ6_getChars_ba4f3_104 (lv_at hl 3 rfl) ?_
        refine lv_if_eq (tgt := 118) hx hb dJ6_getChars_ba4f3_106 (by decide) (fun c_18 => ?_) (fun c_18 => ?_)
        ·
          replace hF := ip c_18 hF
          refine lv_iload hx hb dJ6_getChars_ba4f3_118 (lv_at hl 0 rfl) ?_
          rw [hQ]
          have h9 := fin9 (P := fun u9 : Int32 × (Nat → Int32) => (x5_11 + (-1 : Int32)) = u9.1 ∧ va_P E.1 vwCl (w_J6_getChars_ba4f3 E a_o2 u9.2 m9) H ∧ va_D A (w_J6_getChars_ba4f3 E a_o2 u9.2 m9)) hF ⟨rfl, hP, hD⟩
          obtain ⟨e9_0, hP9, hD9⟩ := h9
          exact W.iret (v := x5_11 + (-1 : Int32)) hx hb hr (fun tt ht hW => ⟨⟨_, (), rfl, e9_0, ht ▸ hP9, hD9⟩, hS.F ht⟩) hS.2.2 dJ6_getChars_ba4f3_120
        ·
          replace hF := inn c_18 hF
          refine lv_aload_n hx hb dJ6_getChars_ba4f3_109 rfl (lv_at hl 2 rfl) ?_
          refine lv_iinc (v := (x5_11 + (-1 : Int32)) + (-1 : Int32)) (lv' := [(5, .int ((x5_11 + (-1 : Int32)) + (-1 : Int32))), (0, .int x0_10), (2, .ref a_o2), (6, .int k0)]) hx hb dJ6_getChars_ba4f3_110 hl (k := 0) rfl (rfl) (by decide) rfl (fun ls hl => ?_)
          refine lv_iload hx hb dJ6_getChars_ba4f3_113 (lv_at hl 0 rfl) ?_
          refine lv_bipush (v := 45) hx hb dJ6_getChars_ba4f3_115 (by decide) ?_
          replace hF := ix_s hF
          obtain ⟨hi_19, hF⟩ := hF
          refine va_bast hx hb hK hP hD hS 0 1 rfl rfl hi_19 dJ6_getChars_ba4f3_117 (fun H locs hP hD hS => ?_)
          replace hP : va_P E.1 vwCl [(a_o2, .inl (E.2.2.1, m9, .inl (upd f_16 ((x5_11 + (-1 : Int32)) + (-1 : Int32)).toNatClampNeg (vp_nar .byte (45 : Int32)))))] H := hP
          replace hD : va_D A [(a_o2, .inl (E.2.2.1, m9, .inl (upd f_16 ((x5_11 + (-1 : Int32)) + (-1 : Int32)).toNatClampNeg (vp_nar .byte (45 : Int32)))))] := hD
          replace hF := nm_s hF
          obtain ⟨f_20, hf_20, hF⟩ := hF
          rw [← hf_20] at hP hD
          refine lv_iload hx hb dJ6_getChars_ba4f3_118 (lv_at hl 0 rfl) ?_
          rw [hQ]
          have h9 := fin9 (P := fun u9 : Int32 × (Nat → Int32) => ((x5_11 + (-1 : Int32)) + (-1 : Int32)) = u9.1 ∧ va_P E.1 vwCl (w_J6_getChars_ba4f3 E a_o2 u9.2 m9) H ∧ va_D A (w_J6_getChars_ba4f3 E a_o2 u9.2 m9)) hF ⟨rfl, hP, hD⟩
          obtain ⟨e9_0, hP9, hD9⟩ := h9
          exact W.iret (v := (x5_11 + (-1 : Int32)) + (-1 : Int32)) hx hb hr (fun tt ht hW => ⟨⟨_, (), rfl, e9_0, ht ▸ hP9, hD9⟩, hS.F ht⟩) hS.2.2 dJ6_getChars_ba4f3_120
      ·
        replace hF := inn c_17 hF
        refine lv_aload_n hx hb dJ6_getChars_ba4f3_91 rfl (lv_at hl 2 rfl) ?_
        refine lv_iinc (v := (x5_11 + (-1 : Int32)) + (-1 : Int32)) (lv' := [(5, .int ((x5_11 + (-1 : Int32)) + (-1 : Int32))), (0, .int x0_10), (2, .ref a_o2), (6, .int k0)]) hx hb dJ6_getChars_ba4f3_92 hl (k := 0) rfl (rfl) (by decide) rfl (fun ls hl => ?_)
        refine lv_iload hx hb dJ6_getChars_ba4f3_95 (lv_at hl 0 rfl) ?_
        refine va_gets hx hb hZ.2.2.1.2.2.2.1 hS hown (hts (.fieldLink RJ6 87 "java/lang/Integer" "DigitTens" "[B") (List.mem_of_getElem? (i := 2) rfl)) (fun _ h9 => h9) dJ6_getChars_ba4f3_97 ?_
        refine lv_iload_n hx hb dJ6_getChars_ba4f3_100 rfl (lv_at hl 1 rfl) ?_
        refine lv_ineg hx hb dJ6_getChars_ba4f3_101 ?_
        replace hF := ix_s hF
        obtain ⟨hi_21, hF⟩ := hF
        refine va_tb (v := .int (tensF (-x0_10).toNatClampNeg)) hx hb (hZ.2.2.1.2.2.2.2.1) hS hi_21 rfl dJ6_getChars_ba4f3_102 ?_
        replace hF := ix_s hF
        obtain ⟨hi_22, hF⟩ := hF
        refine va_bast hx hb hK hP hD hS 0 1 rfl rfl hi_22 dJ6_getChars_ba4f3_103 (fun H locs hP hD hS => ?_)
        replace hP : va_P E.1 vwCl [(a_o2, .inl (E.2.2.1, m9, .inl (upd f_16 ((x5_11 + (-1 : Int32)) + (-1 : Int32)).toNatClampNeg (vp_nar .byte (tensF (-x0_10).toNatClampNeg)))))] H := hP
        replace hD : va_D A [(a_o2, .inl (E.2.2.1, m9, .inl (upd f_16 ((x5_11 + (-1 : Int32)) + (-1 : Int32)).toNatClampNeg (vp_nar .byte (tensF (-x0_10).toNatClampNeg)))))] := hD
        replace hF := nm_s hF
        obtain ⟨f_23, hf_23, hF⟩ := hF
        rw [← hf_23] at hP hD
        refine lv_iload hx hb dJ6_getChars_ba4f3_104 (lv_at hl 3 rfl) ?_
        refine lv_if_eq (tgt := 118) hx hb dJ6_getChars_ba4f3_106 (by decide) (fun c_24 => ?_) (fun c_24 => ?_)
        ·
          replace hF := ip c_24 hF
          refine lv_iload hx hb dJ6_getChars_ba4f3_118 (lv_at hl 0 rfl) ?_
          rw [hQ]
          have h9 := fin9 (P := fun u9 : Int32 × (Nat → Int32) => ((x5_11 + (-1 : Int32)) + (-1 : Int32)) = u9.1 ∧ va_P E.1 vwCl (w_J6_getChars_ba4f3 E a_o2 u9.2 m9) H ∧ va_D A (w_J6_getChars_ba4f3 E a_o2 u9.2 m9)) hF ⟨rfl, hP, hD⟩
          obtain ⟨e9_0, hP9, hD9⟩ := h9
          exact W.iret (v := (x5_11 + (-1 : Int32)) + (-1 : Int32)) hx hb hr (fun tt ht hW => ⟨⟨_, (), rfl, e9_0, ht ▸ hP9, hD9⟩, hS.F ht⟩) hS.2.2 dJ6_getChars_ba4f3_120
        ·
          replace hF := inn c_24 hF
          refine lv_aload_n hx hb dJ6_getChars_ba4f3_109 rfl (lv_at hl 2 rfl) ?_
          refine lv_iinc (v := ((x5_11 + (-1 : Int32)) + (-1 : Int32)) + (-1 : Int32)) (lv' := [(5, .int (((x5_11 + (-1 : Int32)) + (-1 : Int32)) + (-1 : Int32))), (0, .int x0_10), (2, .ref a_o2), (6, .int k0)]) hx hb dJ6_getChars_ba4f3_110 hl (k := 0) rfl (rfl) (by decide) rfl (fun ls hl => ?_)
          refine lv_iload hx hb dJ6_getChars_ba4f3_113 (lv_at hl 0 rfl) ?_
          refine lv_bipush (v := 45) hx hb dJ6_getChars_ba4f3_115 (by decide) ?_
          replace hF := ix_s hF
          obtain ⟨hi_25, hF⟩ := hF
          refine va_bast hx hb hK hP hD hS 0 1 rfl rfl hi_25 dJ6_getChars_ba4f3_117 (fun H locs hP hD hS => ?_)
          replace hP : va_P E.1 vwCl [(a_o2, .inl (E.2.2.1, m9, .inl (upd f_23 (((x5_11 + (-1 : Int32)) + (-1 : Int32)) + (-1 : Int32)).toNatClampNeg (vp_nar .byte (45 : Int32)))))] H := hP
          replace hD : va_D A [(a_o2, .inl (E.2.2.1, m9, .inl (upd f_23 (((x5_11 + (-1 : Int32)) + (-1 : Int32)) + (-1 : Int32)).toNatClampNeg (vp_nar .byte (45 : Int32)))))] := hD
          replace hF := nm_s hF
          obtain ⟨f_26, hf_26, hF⟩ := hF
          rw [← hf_26] at hP hD
          refine lv_iload hx hb dJ6_getChars_ba4f3_118 (lv_at hl 0 rfl) ?_
          rw [hQ]
          have h9 := fin9 (P := fun u9 : Int32 × (Nat → Int32) => (((x5_11 + (-1 : Int32)) + (-1 : Int32)) + (-1 : Int32)) = u9.1 ∧ va_P E.1 vwCl (w_J6_getChars_ba4f3 E a_o2 u9.2 m9) H ∧ va_D A (w_J6_getChars_ba4f3 E a_o2 u9.2 m9)) hF ⟨rfl, hP, hD⟩
          obtain ⟨e9_0, hP9, hD9⟩ := h9
          exact W.iret (v := ((x5_11 + (-1 : Int32)) + (-1 : Int32)) + (-1 : Int32)) hx hb hr (fun tt ht hW => ⟨⟨_, (), rfl, e9_0, ht ▸ hP9, hD9⟩, hS.F ht⟩) hS.2.2 dJ6_getChars_ba4f3_120
  ·
    replace hF := ip c_2 hF
    refine lv_iload_n hx hb dJ6_getChars_ba4f3_19 rfl (lv_at hl 1 rfl) ?_
    refine lv_ineg hx hb dJ6_getChars_ba4f3_20 ?_
    refine lv_istore_n (lv' := [(0, .int (-x0)), (6, .int k0), (2, .ref a_o2), (5, .int x5)]) hx hb dJ6_getChars_ba4f3_21 rfl hl (by decide) rfl (fun ls hl => ?_)
    replace hF := bd3_s hF
    obtain ⟨x0_27, x5_28, c_o2_29, hL_30, hF⟩ := hF
    refine lw_J6_getChars_ba4f3_22 l E K (p0 := p0) (p1 := p1) (m9 := m9) (x6 := k0) hx hb hml hown hts hK hN hA hZ K (-x0) x5 c_o2 x0_27 x5_28 c_o2_29 hL_30 ?_ H locs ls (hP.sub [0] rfl) (hD.sub [0] (by decide) rfl) hS (lv_sub hl [0, 2, 3, 1] rfl)
    ·
      intro H locs ls hP hD hS hl
      replace hP : va_P E.1 vwCl [(a_o2, .inl (E.2.2.1, m9, .inl c_o2_29))] H := hP
      replace hD : va_D A [(a_o2, .inl (E.2.2.1, m9, .inl c_o2_29))] := hD
      refine lv_aload_n hx hb dJ6_getChars_ba4f3_72 rfl (lv_at hl 1 rfl) ?_
      refine lv_iinc (v := x5_28 + (-1 : Int32)) (lv' := [(5, .int (x5_28 + (-1 : Int32))), (0, .int x0_27), (2, .ref a_o2), (6, .int k0)]) hx hb dJ6_getChars_ba4f3_73 hl (k := 2) rfl (rfl) (by decide) rfl (fun ls hl => ?_)
      refine lv_iload hx hb dJ6_getChars_ba4f3_76 (lv_at hl 0 rfl) ?_
      refine va_gets hx hb hZ.2.2.1.2.1 hS hown (hts (.fieldLink RJ6 83 "java/lang/Integer" "DigitOnes" "[B") (List.mem_of_getElem? (i := 1) rfl)) (fun _ h9 => h9) dJ6_getChars_ba4f3_78 ?_
      refine lv_iload_n hx hb dJ6_getChars_ba4f3_81 rfl (lv_at hl 1 rfl) ?_
      refine lv_ineg hx hb dJ6_getChars_ba4f3_82 ?_
      replace hF := ix_s hF
      obtain ⟨hi_31, hF⟩ := hF
      refine va_tb (v := .int (onesF (-x0_27).toNatClampNeg)) hx hb (hZ.2.2.1.2.2.1) hS hi_31 rfl dJ6_getChars_ba4f3_83 ?_
      replace hF := ix_s hF
      obtain ⟨hi_32, hF⟩ := hF
      refine va_bast hx hb hK hP hD hS 0 1 rfl rfl hi_32 dJ6_getChars_ba4f3_84 (fun H locs hP hD hS => ?_)
      replace hP : va_P E.1 vwCl [(a_o2, .inl (E.2.2.1, m9, .inl (upd c_o2_29 (x5_28 + (-1 : Int32)).toNatClampNeg (vp_nar .byte (onesF (-x0_27).toNatClampNeg)))))] H := hP
      replace hD : va_D A [(a_o2, .inl (E.2.2.1, m9, .inl (upd c_o2_29 (x5_28 + (-1 : Int32)).toNatClampNeg (vp_nar .byte (onesF (-x0_27).toNatClampNeg)))))] := hD
      replace hF := nm_s hF
      obtain ⟨f_33, hf_33, hF⟩ := hF
      rw [← hf_33] at hP hD
      refine lv_iload_n hx hb dJ6_getChars_ba4f3_85 rfl (lv_at hl 1 rfl) ?_
      refine lv_bipush (v := -9) hx hb dJ6_getChars_ba4f3_86 (by decide) ?_
      refine lv_icmp_ge (tgt := 104) hx hb dJ6_getChars_ba4f3_88 (by decide) (fun c_34 => ?_) (fun c_34 => ?_)
      ·
        replace hF := ip c_34 hF
        refine lv_iload hx hb dJ6_getChars_ba4f3_104 (lv_at hl 3 rfl) ?_
        refine lv_if_eq (tgt := 118) hx hb dJ6_getChars_ba4f3_106 (by decide) (fun c_35 => ?_) (fun c_35 => ?_)
        ·
          replace hF := ip c_35 hF
          refine lv_iload hx hb dJ6_getChars_ba4f3_118 (lv_at hl 0 rfl) ?_
          rw [hQ]
          have h9 := fin9 (P := fun u9 : Int32 × (Nat → Int32) => (x5_28 + (-1 : Int32)) = u9.1 ∧ va_P E.1 vwCl (w_J6_getChars_ba4f3 E a_o2 u9.2 m9) H ∧ va_D A (w_J6_getChars_ba4f3 E a_o2 u9.2 m9)) hF ⟨rfl, hP, hD⟩
          obtain ⟨e9_0, hP9, hD9⟩ := h9
          exact W.iret (v := x5_28 + (-1 : Int32)) hx hb hr (fun tt ht hW => ⟨⟨_, (), rfl, e9_0, ht ▸ hP9, hD9⟩, hS.F ht⟩) hS.2.2 dJ6_getChars_ba4f3_120
        ·
          replace hF := inn c_35 hF
          refine lv_aload_n hx hb dJ6_getChars_ba4f3_109 rfl (lv_at hl 2 rfl) ?_
          refine lv_iinc (v := (x5_28 + (-1 : Int32)) + (-1 : Int32)) (lv' := [(5, .int ((x5_28 + (-1 : Int32)) + (-1 : Int32))), (0, .int x0_27), (2, .ref a_o2), (6, .int k0)]) hx hb dJ6_getChars_ba4f3_110 hl (k := 0) rfl (rfl) (by decide) rfl (fun ls hl => ?_)
          refine lv_iload hx hb dJ6_getChars_ba4f3_113 (lv_at hl 0 rfl) ?_
          refine lv_bipush (v := 45) hx hb dJ6_getChars_ba4f3_115 (by decide) ?_
          replace hF := ix_s hF
          obtain ⟨hi_36, hF⟩ := hF
          refine va_bast hx hb hK hP hD hS 0 1 rfl rfl hi_36 dJ6_getChars_ba4f3_117 (fun H locs hP hD hS => ?_)
          replace hP : va_P E.1 vwCl [(a_o2, .inl (E.2.2.1, m9, .inl (upd f_33 ((x5_28 + (-1 : Int32)) + (-1 : Int32)).toNatClampNeg (vp_nar .byte (45 : Int32)))))] H := hP
          replace hD : va_D A [(a_o2, .inl (E.2.2.1, m9, .inl (upd f_33 ((x5_28 + (-1 : Int32)) + (-1 : Int32)).toNatClampNeg (vp_nar .byte (45 : Int32)))))] := hD
          replace hF := nm_s hF
          obtain ⟨f_37, hf_37, hF⟩ := hF
          rw [← hf_37] at hP hD
          refine lv_iload hx hb dJ6_getChars_ba4f3_118 (lv_at hl 0 rfl) ?_
          rw [hQ]
          have h9 := fin9 (P := fun u9 : Int32 × (Nat → Int32) => ((x5_28 + (-1 : Int32)) + (-1 : Int32)) = u9.1 ∧ va_P E.1 vwCl (w_J6_getChars_ba4f3 E a_o2 u9.2 m9) H ∧ va_D A (w_J6_getChars_ba4f3 E a_o2 u9.2 m9)) hF ⟨rfl, hP, hD⟩
          obtain ⟨e9_0, hP9, hD9⟩ := h9
          exact W.iret (v := (x5_28 + (-1 : Int32)) + (-1 : Int32)) hx hb hr (fun tt ht hW => ⟨⟨_, (), rfl, e9_0, ht ▸ hP9, hD9⟩, hS.F ht⟩) hS.2.2 dJ6_getChars_ba4f3_120
      ·
        replace hF := inn c_34 hF
        refine lv_aload_n hx hb dJ6_getChars_ba4f3_91 rfl (lv_at hl 2 rfl) ?_
        refine lv_iinc (v := (x5_28 + (-1 : Int32)) + (-1 : Int32)) (lv' := [(5, .int ((x5_28 + (-1 : Int32)) + (-1 : Int32))), (0, .int x0_27), (2, .ref a_o2), (6, .int k0)]) hx hb dJ6_getChars_ba4f3_92 hl (k := 0) rfl (rfl) (by decide) rfl (fun ls hl => ?_)
        refine lv_iload hx hb dJ6_getChars_ba4f3_95 (lv_at hl 0 rfl) ?_
        refine va_gets hx hb hZ.2.2.1.2.2.2.1 hS hown (hts (.fieldLink RJ6 87 "java/lang/Integer" "DigitTens" "[B") (List.mem_of_getElem? (i := 2) rfl)) (fun _ h9 => h9) dJ6_getChars_ba4f3_97 ?_
        refine lv_iload_n hx hb dJ6_getChars_ba4f3_100 rfl (lv_at hl 1 rfl) ?_
        refine lv_ineg hx hb dJ6_getChars_ba4f3_101 ?_
        replace hF := ix_s hF
        obtain ⟨hi_38, hF⟩ := hF
        refine va_tb (v := .int (tensF (-x0_27).toNatClampNeg)) hx hb (hZ.2.2.1.2.2.2.2.1) hS hi_38 rfl dJ6_getChars_ba4f3_102 ?_
        replace hF := ix_s hF
        obtain ⟨hi_39, hF⟩ := hF
        refine va_bast hx hb hK hP hD hS 0 1 rfl rfl hi_39 dJ6_getChars_ba4f3_103 (fun H locs hP hD hS => ?_)
        replace hP : va_P E.1 vwCl [(a_o2, .inl (E.2.2.1, m9, .inl (upd f_33 ((x5_28 + (-1 : Int32)) + (-1 : Int32)).toNatClampNeg (vp_nar .byte (tensF (-x0_27).toNatClampNeg)))))] H := hP
        replace hD : va_D A [(a_o2, .inl (E.2.2.1, m9, .inl (upd f_33 ((x5_28 + (-1 : Int32)) + (-1 : Int32)).toNatClampNeg (vp_nar .byte (tensF (-x0_27).toNatClampNeg)))))] := hD
        replace hF := nm_s hF
        obtain ⟨f_40, hf_40, hF⟩ := hF
        rw [← hf_40] at hP hD
        refine lv_iload hx hb dJ6_getChars_ba4f3_104 (lv_at hl 3 rfl) ?_
        refine lv_if_eq (tgt := 118) hx hb dJ6_getChars_ba4f3_106 (by decide) (fun c_41 => ?_) (fun c_41 => ?_)
        ·
          replace hF := ip c_41 hF
          refine lv_iload hx hb dJ6_getChars_ba4f3_118 (lv_at hl 0 rfl) ?_
          rw [hQ]
          have h9 := fin9 (P := fun u9 : Int32 × (Nat → Int32) => ((x5_28 + (-1 : Int32)) + (-1 : Int32)) = u9.1 ∧ va_P E.1 vwCl (w_J6_getChars_ba4f3 E a_o2 u9.2 m9) H ∧ va_D A (w_J6_getChars_ba4f3 E a_o2 u9.2 m9)) hF ⟨rfl, hP, hD⟩
          obtain ⟨e9_0, hP9, hD9⟩ := h9
          exact W.iret (v := (x5_28 + (-1 : Int32)) + (-1 : Int32)) hx hb hr (fun tt ht hW => ⟨⟨_, (), rfl, e9_0, ht ▸ hP9, hD9⟩, hS.F ht⟩) hS.2.2 dJ6_getChars_ba4f3_120
        ·
          replace hF := inn c_41 hF
          refine lv_aload_n hx hb dJ6_getChars_ba4f3_109 rfl (lv_at hl 2 rfl) ?_
          refine lv_iinc (v := ((x5_28 + (-1 : Int32)) + (-1 : Int32)) + (-1 : Int32)) (lv' := [(5, .int (((x5_28 + (-1 : Int32)) + (-1 : Int32)) + (-1 : Int32))), (0, .int x0_27), (2, .ref a_o2), (6, .int k0)]) hx hb dJ6_getChars_ba4f3_110 hl (k := 0) rfl (rfl) (by decide) rfl (fun ls hl => ?_)
          refine lv_iload hx hb dJ6_getChars_ba4f3_113 (lv_at hl 0 rfl) ?_
          refine lv_bipush (v := 45) hx hb dJ6_getChars_ba4f3_115 (by decide) ?_
          replace hF := ix_s hF
          obtain ⟨hi_42, hF⟩ := hF
          refine va_bast hx hb hK hP hD hS 0 1 rfl rfl hi_42 dJ6_getChars_ba4f3_117 (fun H locs hP hD hS => ?_)
          replace hP : va_P E.1 vwCl [(a_o2, .inl (E.2.2.1, m9, .inl (upd f_40 (((x5_28 + (-1 : Int32)) + (-1 : Int32)) + (-1 : Int32)).toNatClampNeg (vp_nar .byte (45 : Int32)))))] H := hP
          replace hD : va_D A [(a_o2, .inl (E.2.2.1, m9, .inl (upd f_40 (((x5_28 + (-1 : Int32)) + (-1 : Int32)) + (-1 : Int32)).toNatClampNeg (vp_nar .byte (45 : Int32)))))] := hD
          replace hF := nm_s hF
          obtain ⟨f_43, hf_43, hF⟩ := hF
          rw [← hf_43] at hP hD
          refine lv_iload hx hb dJ6_getChars_ba4f3_118 (lv_at hl 0 rfl) ?_
          rw [hQ]
          have h9 := fin9 (P := fun u9 : Int32 × (Nat → Int32) => (((x5_28 + (-1 : Int32)) + (-1 : Int32)) + (-1 : Int32)) = u9.1 ∧ va_P E.1 vwCl (w_J6_getChars_ba4f3 E a_o2 u9.2 m9) H ∧ va_D A (w_J6_getChars_ba4f3 E a_o2 u9.2 m9)) hF ⟨rfl, hP, hD⟩
          obtain ⟨e9_0, hP9, hD9⟩ := h9
          exact W.iret (v := ((x5_28 + (-1 : Int32)) + (-1 : Int32)) + (-1 : Int32)) hx hb hr (fun tt ht hW => ⟨⟨_, (), rfl, e9_0, ht ▸ hP9, hD9⟩, hS.F ht⟩) hS.2.2 dJ6_getChars_ba4f3_120

set_option maxHeartbeats 4000000 in
set_option maxRecDepth 100000 in
theorem f_J6_getChars_ba4f3 (l : Launch) (E : EE) (sz : Nat) (K : Nat) (z9 : Nat → Nat) {a_o2 : Nat} {p0 : Int32} {p1 : Int32} {c_o2 : Nat → Int32} {m9 : Nat} {rr : Int32} {n_o2 : Nat → Int32} (hF : F_J6_getChars_ba4f3 K p0 p1 c_o2 m9 = some (rr, n_o2)) : Met l yJ6_getChars_ba4f3 v_f_J6_getChars_ba4f3 (({ frames := 0, cells := 0, slots := 0, locals := 0 } : Room)) (va_Pc [.int p0, .int p1, .ref a_o2] (qWZ E z9 sz (w_J6_getChars_ba4f3 E a_o2 c_o2 m9))) (va_Qi (fun (q : Int32) (_u : Unit) => q = rr) (fun (_u : Unit) tt => va_P E.1 vwCl (w_J6_getChars_ba4f3 E a_o2 n_o2 m9) tt.heap ∧ va_D (va_A (w_J6_getChars_ba4f3 E a_o2 c_o2 m9) sz) (w_J6_getChars_ba4f3 E a_o2 n_o2 m9)) (va_A (w_J6_getChars_ba4f3 E a_o2 c_o2 m9) sz)) 0 0 (va_A (w_J6_getChars_ba4f3 E a_o2 c_o2 m9) sz) := by
  refine Met.ofWF (cc := cJ6_getChars_ba4f3) (maxL := 7) (ret := (some .int)) (by decide +kernel) rfl ?_
  intro p e s m args below meth c s₁ B hml hv
  obtain ⟨rfl, hsz, ⟨hK, hN⟩, hP, hD0, hZ⟩ := hv
  have hx := B.exec
  have hb := B.bytes
  have hr := B.returns
  have hts := atoms_spec (ws := v_f_J6_getChars_ba4f3) B.pre
  have hown : s.vm.findClass RJ6 = some m.cls := own_of hd_J6_getChars_ba4f3.1 (findClass_of_methodNamed B.named)
  have hlocks : meth.locks = false := B.notSynchronized
  subst hsz
  have hD := hD0.self (sz := s.heap.size)
  generalize hAe : va_A (w_J6_getChars_ba4f3 E a_o2 c_o2 m9) s.heap.size = A at hD hZ ⊢
  have hA : ∀ q : Nat, s.heap.size ≤ q → A q := fun q h => by rw [← hAe]; exact Or.inr h
  have hS : va_S A s.heap s.heap [] := va_S.rf
  have hl := lv_entry ([.int p0, .int p1, .ref a_o2]) (n := 7) (Nat.le_of_ble_eq_true rfl)
  rw [lg_entry_eq]
  generalize (lg_sl ([.int p0, .int p1, .ref a_o2]) ++ List.replicate (7 - (lg_sl ([.int p0, .int p1, .ref a_o2])).length) Slot.unset).toArray = ls at hl ⊢
  have hl : lv_has ls 7 [(0, .int p0), (1, .int p1), (2, .ref a_o2)] := hl
  obtain ⟨Q, hQ⟩ : ∃ Q : State → Prop, Q = MQ below (va_Qi (fun (q : Int32) (_u : Unit) => q = rr) (fun (_u : Unit) tt => va_P E.1 vwCl (w_J6_getChars_ba4f3 E a_o2 n_o2 m9) tt.heap ∧ va_D A (w_J6_getChars_ba4f3 E a_o2 n_o2 m9)) A) #[Value.int p0, Value.int p1, Value.ref a_o2] s 0 0 A := ⟨_, rfl⟩
  rw [← hQ]
  change W p l e ({ frames := 0, cells := 0, slots := 0, locals := 0 } : Room) s m #[Value.int p0, Value.int p1, Value.ref a_o2] below meth c s.heap [] 0 0 Q (F0 m 0 ls [])
  suffices hh9 : ∀ (H : Heap) (locs : List Loc), va_P E.1 vwCl (w_J6_getChars_ba4f3 E a_o2 c_o2 m9) H → va_D A (w_J6_getChars_ba4f3 E a_o2 c_o2 m9) → va_S A s.heap H locs → W p l e ({ frames := 0, cells := 0, slots := 0, locals := 0 } : Room) s m #[Value.int p0, Value.int p1, Value.ref a_o2] below meth c H locs 0 0 Q (F0 m 0 ls []) from hh9 s.heap [] hP hD hS
  clear hP hD hS
  intro H locs hP hD hS
  replace hP : va_P E.1 vwCl [(a_o2, .inl (E.2.2.1, m9, .inl c_o2))] H := hP
  replace hD : va_D A [(a_o2, .inl (E.2.2.1, m9, .inl c_o2))] := hD
  unfold F_J6_getChars_ba4f3 at hF
  refine lv_iload_n hx hb dJ6_getChars_ba4f3_0 rfl (lv_at hl 1 rfl) ?_
  refine lv_istore (lv' := [(5, .int p1), (0, .int p0), (1, .int p1), (2, .ref a_o2)]) hx hb dJ6_getChars_ba4f3_1 hl (by decide) rfl (fun ls hl => ?_)
  refine lv_iload_n hx hb dJ6_getChars_ba4f3_3 rfl (lv_at hl 1 rfl) ?_
  refine lv_if_ge (tgt := 11) hx hb dJ6_getChars_ba4f3_4 (by decide) (fun c_1 => ?_) (fun c_1 => ?_)
  ·
    replace hF := ip c_1 hF
    refine lv_iconst (v := 0) hx hb dJ6_getChars_ba4f3_11 (by decide) ?_
    exact j_J6_getChars_ba4f3_12 l E K (p0 := p0) (p1 := p1) (m9 := m9) (k0 := (0 : Int32)) (x0 := p0) (x5 := p1) (c_o2 := c_o2) hx hb hml hown hts hK hN hA hZ hr hlocks hQ hF H locs ls (hP.sub [0] rfl) (hD.sub [0] (by decide) rfl) hS (lv_sub hl [1, 3, 0] rfl)
  ·
    replace hF := inn c_1 hF
    refine lv_iconst (v := 1) hx hb dJ6_getChars_ba4f3_7 (by decide) ?_
    refine lv_goto (tgt := 12) hx hb dJ6_getChars_ba4f3_8 (by decide) ?_
    exact j_J6_getChars_ba4f3_12 l E K (p0 := p0) (p1 := p1) (m9 := m9) (k0 := (1 : Int32)) (x0 := p0) (x5 := p1) (c_o2 := c_o2) hx hb hml hown hts hK hN hA hZ hr hlocks hQ hF H locs ls (hP.sub [0] rfl) (hD.sub [0] (by decide) rfl) hS (lv_sub hl [1, 3, 0] rfl)

def F_J5_length_8abf5 (c_count : Int32) : Option (Int32) :=
  some c_count
abbrev w_J5_length_8abf5 (E : EE) (a_ a_value : Nat) (c_coder : Int32) (c_maybeLatin1 : Int32) (c_count : Int32) : va_W := [(a_, .inr (0, [.ref a_value, .int c_coder, .int c_maybeLatin1, .int c_count]))]
def v_f_J5_length_8abf5 : List Cond := List.cons (.code yJ5_length_8abf5 cJ5_length_8abf5 1 (some .int)) (HAppend.hAppend (α := List Cond) (β := List Cond) (γ := List Cond) [.fieldLink RJ5 79 "java/lang/AbstractStringBuilder" "count" "I"] (HAppend.hAppend (α := List Cond) (β := List Cond) (γ := List Cond) wsJ40 []))
theorem gw_f_J5_length_8abf5 : v_f_J5_length_8abf5.all goodWord = true := by decide +kernel
theorem i_f_J5_length_8abf5_J4 : ∀ w ∈ wsJ40, w ∈ v_f_J5_length_8abf5 := fun _ h => List.mem_cons_of_mem _ (List.mem_append_right _ (List.mem_append_left _ h))
theorem hd_J5_length_8abf5 : yJ5_length_8abf5.cls = RJ5 ∧ yJ5_length_8abf5.cls ≠ "java/lang/invoke/MethodHandle" ∧ yJ5_length_8abf5.cls ≠ "java/lang/invoke/VarHandle" ∧ (parseMethodDescriptor yJ5_length_8abf5.desc).map (fun d => d.parameters.length) = some 0 := by decide +kernel
set_option maxHeartbeats 4000000 in
set_option maxRecDepth 100000 in
theorem f_J5_length_8abf5 (l : Launch) (E : EE) {a_ a_value : Nat} {c_coder : Int32} {c_maybeLatin1 : Int32} {c_count : Int32} {rr : Int32} (hF : F_J5_length_8abf5 c_count = some rr) : Met l yJ5_length_8abf5 v_f_J5_length_8abf5 (({ frames := 0, cells := 0, slots := 0, locals := 0 } : Room)) (va_Pc [.ref a_] (pP E (w_J5_length_8abf5 E a_ a_value c_coder c_maybeLatin1 c_count))) (vp_Si (fun q : Int32 => q = rr)) 0 0 (fun _ => False) := by
  refine Met.ofWF (cc := cJ5_length_8abf5) (maxL := 1) (ret := (some .int)) (by decide +kernel) rfl ?_
  intro p e s m args below meth c s₁ B hml hv
  obtain ⟨rfl, ⟨hK, hN⟩, hP⟩ := hv
  have hx := B.exec
  have hb := B.bytes
  have hr := B.returns
  have hts := atoms_spec (ws := v_f_J5_length_8abf5) B.pre
  have hown : s.vm.findClass RJ5 = some m.cls := own_of hd_J5_length_8abf5.1 (findClass_of_methodNamed B.named)
  have hlocks : meth.locks = false := B.notSynchronized
  replace hP : va_P E.1 vwCl [(a_, .inr (0, [.ref a_value, .int c_coder, .int c_maybeLatin1, .int c_count]))] s.heap := hP
  have hl := lv_entry ([.ref a_]) (n := 1) (Nat.le_of_ble_eq_true rfl)
  rw [lg_entry_eq]
  generalize (lg_sl ([.ref a_]) ++ List.replicate (1 - (lg_sl ([.ref a_])).length) Slot.unset).toArray = ls at hl ⊢
  have hl : lv_has ls 1 [(0, .ref a_)] := hl
  obtain ⟨Q, hQ⟩ : ∃ Q : State → Prop, Q = MQ below (vp_Si (fun q : Int32 => q = rr)) #[Value.ref a_] s 0 0 (fun _ => False) := ⟨_, rfl⟩
  rw [← hQ]
  change W p l e ({ frames := 0, cells := 0, slots := 0, locals := 0 } : Room) s m #[Value.ref a_] below meth c s.heap [] 0 0 Q (F0 m 0 ls [])
  unfold F_J5_length_8abf5 at hF
  refine lv_aload_n hx hb dJ5_length_8abf5_0 rfl (lv_at hl 0 rfl) ?_
  refine gt_J4_3 (v := .int c_count) hx hb hts i_f_J5_length_8abf5_J4 hown hK hP 0 rfl (hts (.fieldLink RJ5 79 "java/lang/AbstractStringBuilder" "count" "I") (List.mem_of_getElem? (i := 1) rfl)) rfl dJ5_length_8abf5_1 ?_
  rw [hQ]
  obtain e9_0 := inj1 hF
  exact W.iret (v := c_count) hx hb hr (fun tt ht hW => ⟨_, rfl, e9_0, ht⟩) (fun _ h => by cases h) dJ5_length_8abf5_4

def F_J5_isLatin1_aae02 (c_coder : Int32) : Option (Int32) :=
  if c_coder = (0 : Int32) then some (1 : Int32) else some (0 : Int32)
abbrev w_J5_isLatin1_aae02 (E : EE) (a_ a_value : Nat) (c_coder : Int32) (c_maybeLatin1 : Int32) (c_count : Int32) : va_W := [(a_, .inr (0, [.ref a_value, .int c_coder, .int c_maybeLatin1, .int c_count]))]
def v_f_J5_isLatin1_aae02 : List Cond := List.cons (.code yJ5_isLatin1_aae02 cJ5_isLatin1_aae02 1 (some .boolean)) (HAppend.hAppend (α := List Cond) (β := List Cond) (γ := List Cond) [.fieldLink RJ5 18 "java/lang/String" "COMPACT_STRINGS" "Z", .fieldLink RJ5 22 "java/lang/AbstractStringBuilder" "coder" "B"] (HAppend.hAppend (α := List Cond) (β := List Cond) (γ := List Cond) wsJ40 []))
theorem gw_f_J5_isLatin1_aae02 : v_f_J5_isLatin1_aae02.all goodWord = true := by decide +kernel
theorem i_f_J5_isLatin1_aae02_J4 : ∀ w ∈ wsJ40, w ∈ v_f_J5_isLatin1_aae02 := fun _ h => List.mem_cons_of_mem _ (List.mem_append_right _ (List.mem_append_left _ h))
theorem hd_J5_isLatin1_aae02 : yJ5_isLatin1_aae02.cls = RJ5 ∧ yJ5_isLatin1_aae02.cls ≠ "java/lang/invoke/MethodHandle" ∧ yJ5_isLatin1_aae02.cls ≠ "java/lang/invoke/VarHandle" ∧ (parseMethodDescriptor yJ5_isLatin1_aae02.desc).map (fun d => d.parameters.length) = some 0 := by decide +kernel
set_option maxHeartbeats 4000000 in
set_option maxRecDepth 100000 in
theorem f_J5_isLatin1_aae02 (l : Launch) (E : EE) (z9 : Nat → Nat) {a_ a_value : Nat} {c_coder : Int32} {c_maybeLatin1 : Int32} {c_count : Int32} {rr : Int32} (hF : F_J5_isLatin1_aae02 c_coder = some rr) : Met l yJ5_isLatin1_aae02 v_f_J5_isLatin1_aae02 (({ frames := 0, cells := 0, slots := 0, locals := 0 } : Room)) (va_Pc [.ref a_] (qPZ E z9 (w_J5_isLatin1_aae02 E a_ a_value c_coder c_maybeLatin1 c_count))) (vp_Si (fun q : Int32 => q = rr ∧ (q = 0 ∨ q = 1))) 0 0 (fun _ => False) := by
  refine Met.ofWF (cc := cJ5_isLatin1_aae02) (maxL := 1) (ret := (some .boolean)) (by decide +kernel) rfl ?_
  intro p e s m args below meth c s₁ B hml hv
  obtain ⟨rfl, ⟨hK, hN⟩, hP, hZ⟩ := hv
  have hx := B.exec
  have hb := B.bytes
  have hr := B.returns
  have hts := atoms_spec (ws := v_f_J5_isLatin1_aae02) B.pre
  have hown : s.vm.findClass RJ5 = some m.cls := own_of hd_J5_isLatin1_aae02.1 (findClass_of_methodNamed B.named)
  have hlocks : meth.locks = false := B.notSynchronized
  replace hP : va_P E.1 vwCl [(a_, .inr (0, [.ref a_value, .int c_coder, .int c_maybeLatin1, .int c_count]))] s.heap := hP
  have hl := lv_entry ([.ref a_]) (n := 1) (Nat.le_of_ble_eq_true rfl)
  rw [lg_entry_eq]
  generalize (lg_sl ([.ref a_]) ++ List.replicate (1 - (lg_sl ([.ref a_])).length) Slot.unset).toArray = ls at hl ⊢
  have hl : lv_has ls 1 [(0, .ref a_)] := hl
  obtain ⟨Q, hQ⟩ : ∃ Q : State → Prop, Q = MQ below (vp_Si (fun q : Int32 => q = rr ∧ (q = 0 ∨ q = 1))) #[Value.ref a_] s 0 0 (fun _ => False) := ⟨_, rfl⟩
  rw [← hQ]
  change W p l e ({ frames := 0, cells := 0, slots := 0, locals := 0 } : Room) s m #[Value.ref a_] below meth c s.heap [] 0 0 Q (F0 m 0 ls [])
  unfold F_J5_isLatin1_aae02 at hF
  refine va_gets hx hb hZ.2.2.1.1 (va_S.rf) hown (hts (.fieldLink RJ5 18 "java/lang/String" "COMPACT_STRINGS" "Z") (List.mem_of_getElem? (i := 1) rfl)) (fun _ h9 => h9) dJ5_isLatin1_aae02_0 ?_
  refine lv_if_eq (tgt := 17) hx hb dJ5_isLatin1_aae02_3 (by decide) (fun q => absurd q (by decide)) (fun _ => ?_)
  refine lv_aload_n hx hb dJ5_isLatin1_aae02_6 rfl (lv_at hl 0 rfl) ?_
  refine gt_J4_1 (v := .int c_coder) hx hb hts i_f_J5_isLatin1_aae02_J4 hown hK hP 0 rfl (hts (.fieldLink RJ5 22 "java/lang/AbstractStringBuilder" "coder" "B") (List.mem_of_getElem? (i := 2) rfl)) rfl dJ5_isLatin1_aae02_7 ?_
  refine lv_if_ne (tgt := 17) hx hb dJ5_isLatin1_aae02_10 (by decide) (fun c_1 => ?_) (fun c_1 => ?_)
  ·
    replace hF := inn c_1 hF
    refine lv_iconst (v := 0) hx hb dJ5_isLatin1_aae02_17 (by decide) ?_
    rw [hQ]
    obtain e9_0 := inj1 hF
    exact W.zret (v := (0 : Int32)) hx hb hr rfl (fun tt ht hW => ⟨_, rfl, ⟨e9_0, Or.inl rfl⟩, ht⟩) (fun _ h => by cases h) dJ5_isLatin1_aae02_18
  ·
    replace hF := ip c_1 hF
    refine lv_iconst (v := 1) hx hb dJ5_isLatin1_aae02_13 (by decide) ?_
    refine lv_goto (tgt := 18) hx hb dJ5_isLatin1_aae02_14 (by decide) ?_
    rw [hQ]
    obtain e9_0 := inj1 hF
    exact W.zret (v := (1 : Int32)) hx hb hr rfl (fun tt ht hW => ⟨_, rfl, ⟨e9_0, Or.inr rfl⟩, ht⟩) (fun _ h => by cases h) dJ5_isLatin1_aae02_18

def F_J1_canEncode_fc78d (p0 : Int32) : Option (Int32) :=
  if (255 : Int32) < p0 then some (0 : Int32) else some (1 : Int32)

def v_f_J1_canEncode_fc78d : List Cond := List.cons (.code yJ1_canEncode_fc78d cJ1_canEncode_fc78d 1 (some .boolean)) (HAppend.hAppend (α := List Cond) (β := List Cond) (γ := List Cond) [] [])
theorem gw_f_J1_canEncode_fc78d : v_f_J1_canEncode_fc78d.all goodWord = true := by decide +kernel
theorem hd_J1_canEncode_fc78d : yJ1_canEncode_fc78d.cls = RJ1 ∧ yJ1_canEncode_fc78d.cls ≠ "java/lang/invoke/MethodHandle" ∧ yJ1_canEncode_fc78d.cls ≠ "java/lang/invoke/VarHandle" ∧ (parseMethodDescriptor yJ1_canEncode_fc78d.desc).map (fun d => d.parameters.length) = some 1 := by decide +kernel
set_option maxHeartbeats 4000000 in
set_option maxRecDepth 100000 in
theorem f_J1_canEncode_fc78d (l : Launch) (E : EE) {p0 : Int32} {rr : Int32} (hF : F_J1_canEncode_fc78d p0 = some rr) : Met l yJ1_canEncode_fc78d v_f_J1_canEncode_fc78d (({ frames := 0, cells := 0, slots := 0, locals := 0 } : Room)) (va_Pc [.int p0] (pP E [])) (vp_Si (fun q : Int32 => q = rr ∧ (q = 0 ∨ q = 1))) 0 0 (fun _ => False) := by
  refine Met.ofWF (cc := cJ1_canEncode_fc78d) (maxL := 1) (ret := (some .boolean)) (by decide +kernel) rfl ?_
  intro p e s m args below meth c s₁ B hml hv
  obtain ⟨rfl, ⟨hK, hN⟩, hP⟩ := hv
  have hx := B.exec
  have hb := B.bytes
  have hr := B.returns
  have hts := atoms_spec (ws := v_f_J1_canEncode_fc78d) B.pre
  have hown : s.vm.findClass RJ1 = some m.cls := own_of hd_J1_canEncode_fc78d.1 (findClass_of_methodNamed B.named)
  have hlocks : meth.locks = false := B.notSynchronized
  replace hP : va_P E.1 vwCl [] s.heap := hP
  have hl := lv_entry ([.int p0]) (n := 1) (Nat.le_of_ble_eq_true rfl)
  rw [lg_entry_eq]
  generalize (lg_sl ([.int p0]) ++ List.replicate (1 - (lg_sl ([.int p0])).length) Slot.unset).toArray = ls at hl ⊢
  have hl : lv_has ls 1 [(0, .int p0)] := hl
  obtain ⟨Q, hQ⟩ : ∃ Q : State → Prop, Q = MQ below (vp_Si (fun q : Int32 => q = rr ∧ (q = 0 ∨ q = 1))) #[Value.int p0] s 0 0 (fun _ => False) := ⟨_, rfl⟩
  rw [← hQ]
  change W p l e ({ frames := 0, cells := 0, slots := 0, locals := 0 } : Room) s m #[Value.int p0] below meth c s.heap [] 0 0 Q (F0 m 0 ls [])
  unfold F_J1_canEncode_fc78d at hF
  refine lv_iload_n hx hb dJ1_canEncode_fc78d_0 rfl (lv_at hl 0 rfl) ?_
  refine lv_sipush (v := 255) hx hb dJ1_canEncode_fc78d_1 (by decide) ?_
  refine lv_icmp_gt (tgt := 11) hx hb dJ1_canEncode_fc78d_4 (by decide) (fun c_1 => ?_) (fun c_1 => ?_)
  ·
    replace hF := ip c_1 hF
    refine lv_iconst (v := 0) hx hb dJ1_canEncode_fc78d_11 (by decide) ?_
    rw [hQ]
    obtain e9_0 := inj1 hF
    exact W.zret (v := (0 : Int32)) hx hb hr rfl (fun tt ht hW => ⟨_, rfl, ⟨e9_0, Or.inl rfl⟩, ht⟩) (fun _ h => by cases h) dJ1_canEncode_fc78d_12
  ·
    replace hF := inn c_1 hF
    refine lv_iconst (v := 1) hx hb dJ1_canEncode_fc78d_7 (by decide) ?_
    refine lv_goto (tgt := 12) hx hb dJ1_canEncode_fc78d_8 (by decide) ?_
    rw [hQ]
    obtain e9_0 := inj1 hF
    exact W.zret (v := (1 : Int32)) hx hb hr rfl (fun tt ht hW => ⟨_, rfl, ⟨e9_0, Or.inr rfl⟩, ht⟩) (fun _ h => by cases h) dJ1_canEncode_fc78d_12

def F_J8_newLength_cabcc (p0 : Int32) (p1 : Int32) (p2 : Int32) : Option (Int32) :=
  if p0 + (maxF p1 p2) ≤ (0 : Int32) then none else if (2147483639 : Int32) < p0 + (maxF p1 p2) then none else some (p0 + (maxF p1 p2))

def v_f_J8_newLength_cabcc : List Cond := List.cons (.code yJ8_newLength_cabcc cJ8_newLength_cabcc 4 (some .int)) (HAppend.hAppend (α := List Cond) (β := List Cond) (γ := List Cond) [.methodLink RJ8 194 Lib.Math.max.name, .static Lib.Math.max.name, .initialized "java/lang/Math", .code Lib.Math.max.name Lib.Math.max.code 2 (some .int), .constant RJ8 200 (2147483639)] [])
theorem gw_f_J8_newLength_cabcc : v_f_J8_newLength_cabcc.all goodWord = true := by decide +kernel
theorem hd_J8_newLength_cabcc : yJ8_newLength_cabcc.cls = RJ8 ∧ yJ8_newLength_cabcc.cls ≠ "java/lang/invoke/MethodHandle" ∧ yJ8_newLength_cabcc.cls ≠ "java/lang/invoke/VarHandle" ∧ (parseMethodDescriptor yJ8_newLength_cabcc.desc).map (fun d => d.parameters.length) = some 3 := by decide +kernel
set_option maxHeartbeats 4000000 in
set_option maxRecDepth 100000 in
theorem f_J8_newLength_cabcc (l : Launch) (E : EE) {p0 : Int32} {p1 : Int32} {p2 : Int32} {rr : Int32} (hF : F_J8_newLength_cabcc p0 p1 p2 = some rr) : Met l yJ8_newLength_cabcc v_f_J8_newLength_cabcc (({ frames := 1, cells := 0, slots := 0, locals := 21 } : Room)) (va_Pc [.int p0, .int p1, .int p2] (pP E [])) (vp_Si (fun q : Int32 => q = rr)) 0 0 (fun _ => False) := by
  refine Met.ofWF (cc := cJ8_newLength_cabcc) (maxL := 4) (ret := (some .int)) (by decide +kernel) rfl ?_
  intro p e s m args below meth c s₁ B hml hv
  obtain ⟨rfl, ⟨hK, hN⟩, hP⟩ := hv
  have hx := B.exec
  have hb := B.bytes
  have hr := B.returns
  have hts := atoms_spec (ws := v_f_J8_newLength_cabcc) B.pre
  have hown : s.vm.findClass RJ8 = some m.cls := own_of hd_J8_newLength_cabcc.1 (findClass_of_methodNamed B.named)
  have hlocks : meth.locks = false := B.notSynchronized
  replace hP : va_P E.1 vwCl [] s.heap := hP
  have hl := lv_entry ([.int p0, .int p1, .int p2]) (n := 4) (Nat.le_of_ble_eq_true rfl)
  rw [lg_entry_eq]
  generalize (lg_sl ([.int p0, .int p1, .int p2]) ++ List.replicate (4 - (lg_sl ([.int p0, .int p1, .int p2])).length) Slot.unset).toArray = ls at hl ⊢
  have hl : lv_has ls 4 [(0, .int p0), (1, .int p1), (2, .int p2)] := hl
  obtain ⟨Q, hQ⟩ : ∃ Q : State → Prop, Q = MQ below (vp_Si (fun q : Int32 => q = rr)) #[Value.int p0, Value.int p1, Value.int p2] s 0 0 (fun _ => False) := ⟨_, rfl⟩
  rw [← hQ]
  change W p l e ({ frames := 1, cells := 0, slots := 0, locals := 21 } : Room) s m #[Value.int p0, Value.int p1, Value.int p2] below meth c s.heap [] 0 0 Q (F0 m 0 ls [])
  unfold F_J8_newLength_cabcc at hF
  refine lv_iload_n hx hb dJ8_newLength_cabcc_0 rfl (lv_at hl 0 rfl) ?_
  refine lv_iload_n hx hb dJ8_newLength_cabcc_1 rfl (lv_at hl 1 rfl) ?_
  refine lv_iload_n hx hb dJ8_newLength_cabcc_2 rfl (lv_at hl 2 rfl) ?_
  refine va_mmax hx hb (hml.trans hl.1.symm) hown (hts (.methodLink RJ8 194 Lib.Math.max.name) (List.mem_of_getElem? (i := 1) rfl)) (hts (.static Lib.Math.max.name) (List.mem_of_getElem? (i := 2) rfl)) (hts (.initialized "java/lang/Math") (List.mem_of_getElem? (i := 3) rfl)) (hts (.code Lib.Math.max.name Lib.Math.max.code 2 (some .int)) (List.mem_of_getElem? (i := 4) rfl)) (Nat.le_of_ble_eq_true rfl) (Nat.le_of_ble_eq_true rfl) (Nat.le_of_ble_eq_true rfl) (Nat.le_of_ble_eq_true rfl) dJ8_newLength_cabcc_3 ?_
  refine W.eq (g2 := F0 m 6 ls [.int (maxF p1 p2), .int p0]) rfl ?_
  refine lv_iadd hx hb dJ8_newLength_cabcc_6 ?_
  refine lv_istore_n (lv' := [(3, .int (p0 + (maxF p1 p2))), (0, .int p0), (1, .int p1), (2, .int p2)]) hx hb dJ8_newLength_cabcc_7 rfl hl (by decide) rfl (fun ls hl => ?_)
  refine lv_iconst (v := 0) hx hb dJ8_newLength_cabcc_8 (by decide) ?_
  refine lv_iload_n hx hb dJ8_newLength_cabcc_9 rfl (lv_at hl 0 rfl) ?_
  refine lv_icmp_ge (tgt := 21) hx hb dJ8_newLength_cabcc_10 (by decide) (fun c_1 => ?_) (fun c_1 => ?_)
  ·
    replace hF := ip c_1 hF
    cases hF
  ·
    replace hF := inn c_1 hF
    refine lv_iload_n hx hb dJ8_newLength_cabcc_13 rfl (lv_at hl 0 rfl) ?_
    refine lv_ldc (v := 2147483639) hx hb hown (hts (.constant RJ8 200 (2147483639)) (List.mem_of_getElem? (i := 5) rfl)) dJ8_newLength_cabcc_14 ?_
    refine lv_icmp_gt (tgt := 21) hx hb dJ8_newLength_cabcc_16 (by decide) (fun c_2 => ?_) (fun c_2 => ?_)
    ·
      replace hF := ip c_2 hF
      cases hF
    ·
      replace hF := inn c_2 hF
      refine lv_iload_n hx hb dJ8_newLength_cabcc_19 rfl (lv_at hl 0 rfl) ?_
      rw [hQ]
      obtain e9_0 := inj1 hF
      exact W.iret (v := p0 + (maxF p1 p2)) hx hb hr (fun tt ht hW => ⟨_, rfl, e9_0, ht⟩) (fun _ h => by cases h) dJ8_newLength_cabcc_20

def F_J5_newCapacity_0f7a4 (p1 : Int32) (c_coder : Int32) (m9 : Nat) : Option (Int32) :=
  bd1 (F_J8_newLength_cabcc (Int32.ofNat m9) ((p1 <<< (c_coder &&& (31 : Int32))) - (Int32.ofNat m9)) ((Int32.ofNat m9) + ((2 : Int32) <<< (c_coder &&& (31 : Int32))))) (fun r_1 => if r_1 = (2147483647 : Int32) then none else some (r_1 >>> (c_coder &&& (31 : Int32))))
abbrev w_J5_newCapacity_0f7a4 (E : EE) (a_ a_value : Nat) (c_coder : Int32) (c_maybeLatin1 : Int32) (c_count : Int32) (c_value : Nat → Int32) (m9 : Nat) : va_W := [(a_, .inr (0, [.ref a_value, .int c_coder, .int c_maybeLatin1, .int c_count])), (a_value, .inl (E.2.2.1, m9, .inl c_value))]
def v_f_J5_newCapacity_0f7a4 : List Cond := List.cons (.code yJ5_newCapacity_0f7a4 cJ5_newCapacity_0f7a4 6 (some .int)) (HAppend.hAppend (α := List Cond) (β := List Cond) (γ := List Cond) [.fieldLink RJ5 15 "java/lang/AbstractStringBuilder" "value" "[B", .fieldLink RJ5 22 "java/lang/AbstractStringBuilder" "coder" "B", .constant RJ5 39 (2147483647), .methodLink RJ5 114 yJ8_newLength_cabcc, .static yJ8_newLength_cabcc, .initialized RJ8] (HAppend.hAppend (α := List Cond) (β := List Cond) (γ := List Cond) wsJ40 (HAppend.hAppend (α := List Cond) (β := List Cond) (γ := List Cond) v_f_J8_newLength_cabcc [])))
theorem gw_f_J5_newCapacity_0f7a4 : v_f_J5_newCapacity_0f7a4.all goodWord = true := by decide +kernel
theorem i_f_J5_newCapacity_0f7a4_J4 : ∀ w ∈ wsJ40, w ∈ v_f_J5_newCapacity_0f7a4 := fun _ h => List.mem_cons_of_mem _ (List.mem_append_right _ (List.mem_append_left _ h))
theorem g_f_J5_newCapacity_0f7a4_f_J8_newLength_cabcc_114 : GoodIn v_f_J5_newCapacity_0f7a4 (va_wsS RJ5 114 yJ8_newLength_cabcc v_f_J8_newLength_cabcc) := goodIn_app (goodIn_of _ (by decide +kernel)) (goodIn_sub (fun _ h => List.mem_cons_of_mem _ (List.mem_append_right _ (List.mem_append_right _ (List.mem_append_left _ h)))) gw_f_J8_newLength_cabcc)
theorem hd_J5_newCapacity_0f7a4 : yJ5_newCapacity_0f7a4.cls = RJ5 ∧ yJ5_newCapacity_0f7a4.cls ≠ "java/lang/invoke/MethodHandle" ∧ yJ5_newCapacity_0f7a4.cls ≠ "java/lang/invoke/VarHandle" ∧ (parseMethodDescriptor yJ5_newCapacity_0f7a4.desc).map (fun d => d.parameters.length) = some 1 := by decide +kernel
set_option maxHeartbeats 4000000 in
set_option maxRecDepth 100000 in
theorem f_J5_newCapacity_0f7a4 (l : Launch) (E : EE) {a_ a_value : Nat} {p1 : Int32} {c_coder : Int32} {c_maybeLatin1 : Int32} {c_count : Int32} {c_value : Nat → Int32} {m9 : Nat} {rr : Int32} (hF : F_J5_newCapacity_0f7a4 p1 c_coder m9 = some rr) : Met l yJ5_newCapacity_0f7a4 v_f_J5_newCapacity_0f7a4 (({ frames := 2, cells := 0, slots := 0, locals := 44 } : Room)) (va_Pc [.ref a_, .int p1] (pP E (w_J5_newCapacity_0f7a4 E a_ a_value c_coder c_maybeLatin1 c_count c_value m9))) (vp_Si (fun q : Int32 => q = rr)) 0 0 (fun _ => False) := by
  refine Met.ofWF (cc := cJ5_newCapacity_0f7a4) (maxL := 6) (ret := (some .int)) (by decide +kernel) rfl ?_
  intro p e s m args below meth c s₁ B hml hv
  obtain ⟨rfl, ⟨hK, hN⟩, hP⟩ := hv
  have hx := B.exec
  have hb := B.bytes
  have hr := B.returns
  have hts := atoms_spec (ws := v_f_J5_newCapacity_0f7a4) B.pre
  have hown : s.vm.findClass RJ5 = some m.cls := own_of hd_J5_newCapacity_0f7a4.1 (findClass_of_methodNamed B.named)
  have hlocks : meth.locks = false := B.notSynchronized
  replace hP : va_P E.1 vwCl [(a_, .inr (0, [.ref a_value, .int c_coder, .int c_maybeLatin1, .int c_count])), (a_value, .inl (E.2.2.1, m9, .inl c_value))] s.heap := hP
  have hl := lv_entry ([.ref a_, .int p1]) (n := 6) (Nat.le_of_ble_eq_true rfl)
  rw [lg_entry_eq]
  generalize (lg_sl ([.ref a_, .int p1]) ++ List.replicate (6 - (lg_sl ([.ref a_, .int p1])).length) Slot.unset).toArray = ls at hl ⊢
  have hl : lv_has ls 6 [(0, .ref a_), (1, .int p1)] := hl
  obtain ⟨Q, hQ⟩ : ∃ Q : State → Prop, Q = MQ below (vp_Si (fun q : Int32 => q = rr)) #[Value.ref a_, Value.int p1] s 0 0 (fun _ => False) := ⟨_, rfl⟩
  rw [← hQ]
  change W p l e ({ frames := 2, cells := 0, slots := 0, locals := 44 } : Room) s m #[Value.ref a_, Value.int p1] below meth c s.heap [] 0 0 Q (F0 m 0 ls [])
  unfold F_J5_newCapacity_0f7a4 at hF
  refine lv_aload_n hx hb dJ5_newCapacity_0f7a4_0 rfl (lv_at hl 0 rfl) ?_
  refine gt_J4_0 (v := .ref a_value) hx hb hts i_f_J5_newCapacity_0f7a4_J4 hown hK hP 0 rfl (hts (.fieldLink RJ5 15 "java/lang/AbstractStringBuilder" "value" "[B") (List.mem_of_getElem? (i := 1) rfl)) rfl dJ5_newCapacity_0f7a4_1 ?_
  refine va_alen (v := (Int32.ofNat m9)) hx hb hK hP 1 1 rfl rfl rfl dJ5_newCapacity_0f7a4_4 ?_
  refine lv_istore_n (lv' := [(2, .int (Int32.ofNat m9)), (0, .ref a_), (1, .int p1)]) hx hb dJ5_newCapacity_0f7a4_5 rfl hl (by decide) rfl (fun ls hl => ?_)
  refine lv_iload_n hx hb dJ5_newCapacity_0f7a4_6 rfl (lv_at hl 2 rfl) ?_
  refine lv_aload_n hx hb dJ5_newCapacity_0f7a4_7 rfl (lv_at hl 1 rfl) ?_
  refine gt_J4_1 (v := .int c_coder) hx hb hts i_f_J5_newCapacity_0f7a4_J4 hown hK hP 0 rfl (hts (.fieldLink RJ5 22 "java/lang/AbstractStringBuilder" "coder" "B") (List.mem_of_getElem? (i := 2) rfl)) rfl dJ5_newCapacity_0f7a4_8 ?_
  refine lv_ishl hx hb dJ5_newCapacity_0f7a4_11 ?_
  refine lv_istore_n (lv' := [(3, .int (p1 <<< (c_coder &&& (31 : Int32)))), (2, .int (Int32.ofNat m9)), (0, .ref a_), (1, .int p1)]) hx hb dJ5_newCapacity_0f7a4_12 rfl hl (by decide) rfl (fun ls hl => ?_)
  refine lv_iload_n hx hb dJ5_newCapacity_0f7a4_13 rfl (lv_at hl 0 rfl) ?_
  refine lv_iload_n hx hb dJ5_newCapacity_0f7a4_14 rfl (lv_at hl 1 rfl) ?_
  refine lv_isub hx hb dJ5_newCapacity_0f7a4_15 ?_
  refine lv_istore (lv' := [(4, .int ((p1 <<< (c_coder &&& (31 : Int32))) - (Int32.ofNat m9))), (3, .int (p1 <<< (c_coder &&& (31 : Int32)))), (2, .int (Int32.ofNat m9)), (0, .ref a_), (1, .int p1)]) hx hb dJ5_newCapacity_0f7a4_16 hl (by decide) rfl (fun ls hl => ?_)
  refine lv_iload_n hx hb dJ5_newCapacity_0f7a4_18 rfl (lv_at hl 2 rfl) ?_
  refine lv_iload hx hb dJ5_newCapacity_0f7a4_19 (lv_at hl 0 rfl) ?_
  refine lv_iload_n hx hb dJ5_newCapacity_0f7a4_21 rfl (lv_at hl 2 rfl) ?_
  refine lv_iconst (v := 2) hx hb dJ5_newCapacity_0f7a4_22 (by decide) ?_
  refine lv_aload_n hx hb dJ5_newCapacity_0f7a4_23 rfl (lv_at hl 3 rfl) ?_
  refine gt_J4_1 (v := .int c_coder) hx hb hts i_f_J5_newCapacity_0f7a4_J4 hown hK hP 0 rfl (hts (.fieldLink RJ5 22 "java/lang/AbstractStringBuilder" "coder" "B") (List.mem_of_getElem? (i := 2) rfl)) rfl dJ5_newCapacity_0f7a4_24 ?_
  refine lv_ishl hx hb dJ5_newCapacity_0f7a4_27 ?_
  refine lv_iadd hx hb dJ5_newCapacity_0f7a4_28 ?_
  replace hF := bd1_s hF
  obtain ⟨r_1, hc_2, hF⟩ := hF
  have hPc : va_P E.1 vwCl [] s.heap := fun k q h => by simp at h
  refine pE_i (va_runS (As := [.int (Int32.ofNat m9), .int ((p1 <<< (c_coder &&& (31 : Int32))) - (Int32.ofNat m9)), .int ((Int32.ofNat m9) + ((2 : Int32) <<< (c_coder &&& (31 : Int32))))]) (rest := [])  ⟨hx, hb, hml, hown, hts⟩ (f_J8_newLength_cabcc l E (p0 := (Int32.ofNat m9)) (p1 := (p1 <<< (c_coder &&& (31 : Int32))) - (Int32.ofNat m9)) (p2 := (Int32.ofNat m9) + ((2 : Int32) <<< (c_coder &&& (31 : Int32)))) hc_2) (va_cwS 3 hts g_f_J5_newCapacity_0f7a4_f_J8_newLength_cabcc_114 rfl rfl rfl hd_J8_newLength_cabcc.2 ⟨Nat.le_of_ble_eq_true rfl, Nat.le_of_ble_eq_true rfl⟩) ⟨pP.blind, (pP.pre ⟨hK, hN⟩ hPc)⟩ rfl rfl hl.1 rfl (lv_room (Nat.le_of_ble_eq_true rfl)) dJ5_newCapacity_0f7a4_29 ⟨Nat.le_of_ble_eq_true rfl, Nat.le_of_ble_eq_true rfl⟩) ?_
  refine lv_istore (lv' := [(5, .int r_1), (4, .int ((p1 <<< (c_coder &&& (31 : Int32))) - (Int32.ofNat m9))), (3, .int (p1 <<< (c_coder &&& (31 : Int32)))), (2, .int (Int32.ofNat m9)), (0, .ref a_), (1, .int p1)]) hx hb dJ5_newCapacity_0f7a4_32 hl (by decide) rfl (fun ls hl => ?_)
  refine lv_iload hx hb dJ5_newCapacity_0f7a4_34 (lv_at hl 0 rfl) ?_
  refine lv_ldc (v := 2147483647) hx hb hown (hts (.constant RJ5 39 (2147483647)) (List.mem_of_getElem? (i := 3) rfl)) dJ5_newCapacity_0f7a4_36 ?_
  refine lv_icmp_ne (tgt := 51) hx hb dJ5_newCapacity_0f7a4_38 (by decide) (fun c_3 => ?_) (fun c_3 => ?_)
  ·
    replace hF := inn c_3 hF
    refine lv_iload hx hb dJ5_newCapacity_0f7a4_51 (lv_at hl 0 rfl) ?_
    refine lv_aload_n hx hb dJ5_newCapacity_0f7a4_53 rfl (lv_at hl 4 rfl) ?_
    refine gt_J4_1 (v := .int c_coder) hx hb hts i_f_J5_newCapacity_0f7a4_J4 hown hK hP 0 rfl (hts (.fieldLink RJ5 22 "java/lang/AbstractStringBuilder" "coder" "B") (List.mem_of_getElem? (i := 2) rfl)) rfl dJ5_newCapacity_0f7a4_54 ?_
    refine lv_ishr hx hb dJ5_newCapacity_0f7a4_57 ?_
    rw [hQ]
    obtain e9_0 := inj1 hF
    exact W.iret (v := r_1 >>> (c_coder &&& (31 : Int32))) hx hb hr (fun tt ht hW => ⟨_, rfl, e9_0, ht⟩) (fun _ h => by cases h) dJ5_newCapacity_0f7a4_58
  ·
    replace hF := ip c_3 hF
    cases hF

def F_J5_charAt_5068e (p1 : Int32) (c_value : Nat → Int32) (c_coder : Int32) (c_count : Int32) (m9 : Nat) : Option (Int32) :=
  bd1 (F_J0_checkIndex_df160 p1 (minF c_count ((Int32.ofNat m9) >>> (c_coder &&& (31 : Int32))))) (fun u_1 => if c_coder = (0 : Int32) then ixF p1 m9 (some ((((c_value p1.toNatClampNeg) &&& (255 : Int32)).toUInt32 % 65536).toInt32)) else none)
abbrev w_J5_charAt_5068e (E : EE) (a_ a_value : Nat) (c_coder : Int32) (c_maybeLatin1 : Int32) (c_count : Int32) (c_value : Nat → Int32) (m9 : Nat) : va_W := [(a_, .inr (0, [.ref a_value, .int c_coder, .int c_maybeLatin1, .int c_count])), (a_value, .inl (E.2.2.1, m9, .inl c_value))]
def v_f_J5_charAt_5068e : List Cond := List.cons (.code yJ5_charAt_5068e cJ5_charAt_5068e 5 (some .char)) (HAppend.hAppend (α := List Cond) (β := List Cond) (γ := List Cond) [.fieldLink RJ5 22 "java/lang/AbstractStringBuilder" "coder" "B", .fieldLink RJ5 15 "java/lang/AbstractStringBuilder" "value" "[B", .fieldLink RJ5 79 "java/lang/AbstractStringBuilder" "count" "I", .methodLink RJ5 138 Lib.Math.min.name, .static Lib.Math.min.name, .initialized "java/lang/Math", .code Lib.Math.min.name Lib.Math.min.code 2 (some .int), .methodLink RJ5 144 yJ0_checkIndex_df160, .static yJ0_checkIndex_df160, .initialized RJ0] (HAppend.hAppend (α := List Cond) (β := List Cond) (γ := List Cond) wsJ40 (HAppend.hAppend (α := List Cond) (β := List Cond) (γ := List Cond) v_f_J0_checkIndex_df160 [])))
theorem gw_f_J5_charAt_5068e : v_f_J5_charAt_5068e.all goodWord = true := by decide +kernel
theorem i_f_J5_charAt_5068e_J4 : ∀ w ∈ wsJ40, w ∈ v_f_J5_charAt_5068e := fun _ h => List.mem_cons_of_mem _ (List.mem_append_right _ (List.mem_append_left _ h))
theorem g_f_J5_charAt_5068e_f_J0_checkIndex_df160_144 : GoodIn v_f_J5_charAt_5068e (va_wsS RJ5 144 yJ0_checkIndex_df160 v_f_J0_checkIndex_df160) := goodIn_app (goodIn_of _ (by decide +kernel)) (goodIn_sub (fun _ h => List.mem_cons_of_mem _ (List.mem_append_right _ (List.mem_append_right _ (List.mem_append_left _ h)))) gw_f_J0_checkIndex_df160)
theorem hd_J5_charAt_5068e : yJ5_charAt_5068e.cls = RJ5 ∧ yJ5_charAt_5068e.cls ≠ "java/lang/invoke/MethodHandle" ∧ yJ5_charAt_5068e.cls ≠ "java/lang/invoke/VarHandle" ∧ (parseMethodDescriptor yJ5_charAt_5068e.desc).map (fun d => d.parameters.length) = some 1 := by decide +kernel
set_option maxHeartbeats 4000000 in
set_option maxRecDepth 100000 in
theorem f_J5_charAt_5068e (l : Launch) (E : EE) (z9 : Nat → Nat) {a_ a_value : Nat} {p1 : Int32} {c_coder : Int32} {c_maybeLatin1 : Int32} {c_count : Int32} {c_value : Nat → Int32} {m9 : Nat} {rr : Int32} (hF : F_J5_charAt_5068e p1 c_value c_coder c_count m9 = some rr) : Met l yJ5_charAt_5068e v_f_J5_charAt_5068e (({ frames := 2, cells := 0, slots := 0, locals := 43 } : Room)) (va_Pc [.ref a_, .int p1] (qPZ E z9 (w_J5_charAt_5068e E a_ a_value c_coder c_maybeLatin1 c_count c_value m9))) (vp_Si (fun q : Int32 => q = rr ∧ narrow .char (.int q) = .int q)) 0 0 (fun _ => False) := by
  refine Met.ofWF (cc := cJ5_charAt_5068e) (maxL := 5) (ret := (some .char)) (by decide +kernel) rfl ?_
  intro p e s m args below meth c s₁ B hml hv
  obtain ⟨rfl, ⟨hK, hN⟩, hP, hZ⟩ := hv
  have hx := B.exec
  have hb := B.bytes
  have hr := B.returns
  have hts := atoms_spec (ws := v_f_J5_charAt_5068e) B.pre
  have hown : s.vm.findClass RJ5 = some m.cls := own_of hd_J5_charAt_5068e.1 (findClass_of_methodNamed B.named)
  have hlocks : meth.locks = false := B.notSynchronized
  replace hP : va_P E.1 vwCl [(a_, .inr (0, [.ref a_value, .int c_coder, .int c_maybeLatin1, .int c_count])), (a_value, .inl (E.2.2.1, m9, .inl c_value))] s.heap := hP
  have hl := lv_entry ([.ref a_, .int p1]) (n := 5) (Nat.le_of_ble_eq_true rfl)
  rw [lg_entry_eq]
  generalize (lg_sl ([.ref a_, .int p1]) ++ List.replicate (5 - (lg_sl ([.ref a_, .int p1])).length) Slot.unset).toArray = ls at hl ⊢
  have hl : lv_has ls 5 [(0, .ref a_), (1, .int p1)] := hl
  obtain ⟨Q, hQ⟩ : ∃ Q : State → Prop, Q = MQ below (vp_Si (fun q : Int32 => q = rr ∧ narrow .char (.int q) = .int q)) #[Value.ref a_, Value.int p1] s 0 0 (fun _ => False) := ⟨_, rfl⟩
  rw [← hQ]
  change W p l e ({ frames := 2, cells := 0, slots := 0, locals := 43 } : Room) s m #[Value.ref a_, Value.int p1] below meth c s.heap [] 0 0 Q (F0 m 0 ls [])
  unfold F_J5_charAt_5068e at hF
  refine lv_aload_n hx hb dJ5_charAt_5068e_0 rfl (lv_at hl 0 rfl) ?_
  refine gt_J4_1 (v := .int c_coder) hx hb hts i_f_J5_charAt_5068e_J4 hown hK hP 0 rfl (hts (.fieldLink RJ5 22 "java/lang/AbstractStringBuilder" "coder" "B") (List.mem_of_getElem? (i := 1) rfl)) rfl dJ5_charAt_5068e_1 ?_
  refine lv_istore_n (lv' := [(2, .int c_coder), (0, .ref a_), (1, .int p1)]) hx hb dJ5_charAt_5068e_4 rfl hl (by decide) rfl (fun ls hl => ?_)
  refine lv_aload_n hx hb dJ5_charAt_5068e_5 rfl (lv_at hl 1 rfl) ?_
  refine gt_J4_0 (v := .ref a_value) hx hb hts i_f_J5_charAt_5068e_J4 hown hK hP 0 rfl (hts (.fieldLink RJ5 15 "java/lang/AbstractStringBuilder" "value" "[B") (List.mem_of_getElem? (i := 2) rfl)) rfl dJ5_charAt_5068e_6 ?_
  refine lv_astore_n (lv' := [(3, .ref a_value), (2, .int c_coder), (0, .ref a_), (1, .int p1)]) hx hb dJ5_charAt_5068e_9 rfl hl (by decide) rfl (fun ls hl => ?_)
  refine lv_aload_n hx hb dJ5_charAt_5068e_10 rfl (lv_at hl 2 rfl) ?_
  refine gt_J4_3 (v := .int c_count) hx hb hts i_f_J5_charAt_5068e_J4 hown hK hP 0 rfl (hts (.fieldLink RJ5 79 "java/lang/AbstractStringBuilder" "count" "I") (List.mem_of_getElem? (i := 3) rfl)) rfl dJ5_charAt_5068e_11 ?_
  refine lv_aload_n hx hb dJ5_charAt_5068e_14 rfl (lv_at hl 0 rfl) ?_
  refine va_alen (v := (Int32.ofNat m9)) hx hb hK hP 1 1 rfl rfl rfl dJ5_charAt_5068e_15 ?_
  refine lv_iload_n hx hb dJ5_charAt_5068e_16 rfl (lv_at hl 1 rfl) ?_
  refine lv_ishr hx hb dJ5_charAt_5068e_17 ?_
  refine va_mmin hx hb (hml.trans hl.1.symm) hown (hts (.methodLink RJ5 138 Lib.Math.min.name) (List.mem_of_getElem? (i := 4) rfl)) (hts (.static Lib.Math.min.name) (List.mem_of_getElem? (i := 5) rfl)) (hts (.initialized "java/lang/Math") (List.mem_of_getElem? (i := 6) rfl)) (hts (.code Lib.Math.min.name Lib.Math.min.code 2 (some .int)) (List.mem_of_getElem? (i := 7) rfl)) (Nat.le_of_ble_eq_true rfl) (Nat.le_of_ble_eq_true rfl) (Nat.le_of_ble_eq_true rfl) (Nat.le_of_ble_eq_true rfl) dJ5_charAt_5068e_18 ?_
  refine W.eq (g2 := F0 m 21 ls [.int (minF c_count ((Int32.ofNat m9) >>> (c_coder &&& (31 : Int32))))]) rfl ?_
  refine lv_istore (lv' := [(4, .int (minF c_count ((Int32.ofNat m9) >>> (c_coder &&& (31 : Int32))))), (3, .ref a_value), (2, .int c_coder), (0, .ref a_), (1, .int p1)]) hx hb dJ5_charAt_5068e_21 hl (by decide) rfl (fun ls hl => ?_)
  refine lv_iload_n hx hb dJ5_charAt_5068e_23 rfl (lv_at hl 4 rfl) ?_
  refine lv_iload hx hb dJ5_charAt_5068e_24 (lv_at hl 0 rfl) ?_
  replace hF := bd1_s hF
  obtain ⟨u_1, hc_2, hF⟩ := hF
  have hPc : va_P E.1 vwCl [] s.heap := fun k q h => by simp at h
  refine pc_v (va_runS (As := [.int p1, .int (minF c_count ((Int32.ofNat m9) >>> (c_coder &&& (31 : Int32))))]) (rest := [])  ⟨hx, hb, hml, hown, hts⟩ (f_J0_checkIndex_df160 l E z9 (p0 := p1) (p1 := (minF c_count ((Int32.ofNat m9) >>> (c_coder &&& (31 : Int32))))) hc_2) (va_cwS 2 hts g_f_J5_charAt_5068e_f_J0_checkIndex_df160_144 rfl rfl rfl hd_J0_checkIndex_df160.2 ⟨Nat.le_of_ble_eq_true rfl, Nat.le_of_ble_eq_true rfl⟩) ⟨qPZ.blind, (qPZ.pre0 ⟨hK, hN⟩ hPc hZ)⟩ rfl rfl hl.1 rfl (lv_room (Nat.le_of_ble_eq_true rfl)) dJ5_charAt_5068e_26 ⟨Nat.le_of_ble_eq_true rfl, Nat.le_of_ble_eq_true rfl⟩) ?_
  refine lv_iload_n hx hb dJ5_charAt_5068e_29 rfl (lv_at hl 2 rfl) ?_
  refine lv_if_ne (tgt := 42) hx hb dJ5_charAt_5068e_30 (by decide) (fun c_3 => ?_) (fun c_3 => ?_)
  ·
    replace hF := inn c_3 hF
    cases hF
  ·
    replace hF := ip c_3 hF
    refine lv_aload_n hx hb dJ5_charAt_5068e_33 rfl (lv_at hl 1 rfl) ?_
    refine lv_iload_n hx hb dJ5_charAt_5068e_34 rfl (lv_at hl 4 rfl) ?_
    replace hF := ix_s hF
    obtain ⟨hi_4, hF⟩ := hF
    refine va_bald hx hb hK hP 1 1 rfl rfl hi_4 dJ5_charAt_5068e_35 ?_
    refine lv_sipush (v := 255) hx hb dJ5_charAt_5068e_36 (by decide) ?_
    refine lv_iand hx hb dJ5_charAt_5068e_39 ?_
    refine lv_i2c (v := (((c_value p1.toNatClampNeg) &&& (255 : Int32)).toUInt32 % 65536).toInt32) hx hb dJ5_charAt_5068e_40 rfl ?_
    rw [hQ]
    obtain e9_0 := inj1 hF
    exact W.zret (v := (((c_value p1.toNatClampNeg) &&& (255 : Int32)).toUInt32 % 65536).toInt32) hx hb hr (nar_c _) (fun tt ht hW => ⟨_, rfl, ⟨e9_0, (nar_c _)⟩, ht⟩) (fun _ h => by cases h) dJ5_charAt_5068e_41

def F_J5_inflateIfNeededFor_a7421 (p1 : Nat) (c_coder : Int32) : Option (Unit) :=
  ltF p1 15 (bd1 (F_J0_coder_7d493 p1) (fun r_1 => if c_coder = r_1 then some () else none))
abbrev w_J5_inflateIfNeededFor_a7421 (E : EE) (a_ a_value : Nat) (c_coder : Int32) (c_maybeLatin1 : Int32) (c_count : Int32) : va_W := [(a_, .inr (0, [.ref a_value, .int c_coder, .int c_maybeLatin1, .int c_count]))]
def v_f_J5_inflateIfNeededFor_a7421 : List Cond := List.cons (.code yJ5_inflateIfNeededFor_a7421 cJ5_inflateIfNeededFor_a7421 2 none) (HAppend.hAppend (α := List Cond) (β := List Cond) (γ := List Cond) [.fieldLink RJ5 18 "java/lang/String" "COMPACT_STRINGS" "Z", .fieldLink RJ5 22 "java/lang/AbstractStringBuilder" "coder" "B", .methodLink RJ5 40 yJ0_coder_7d493, .instanceMethod yJ0_coder_7d493, .selects RJ0 yJ0_coder_7d493 yJ0_coder_7d493, .initialized RJ0] (HAppend.hAppend (α := List Cond) (β := List Cond) (γ := List Cond) wsJ40 (HAppend.hAppend (α := List Cond) (β := List Cond) (γ := List Cond) v_f_J0_coder_7d493 [])))
theorem gw_f_J5_inflateIfNeededFor_a7421 : v_f_J5_inflateIfNeededFor_a7421.all goodWord = true := by decide +kernel
theorem i_f_J5_inflateIfNeededFor_a7421_J4 : ∀ w ∈ wsJ40, w ∈ v_f_J5_inflateIfNeededFor_a7421 := fun _ h => List.mem_cons_of_mem _ (List.mem_append_right _ (List.mem_append_left _ h))
theorem g_f_J5_inflateIfNeededFor_a7421_f_J0_coder_7d493_40 : GoodIn v_f_J5_inflateIfNeededFor_a7421 (wsV RJ5 40 RJ0 yJ0_coder_7d493 v_f_J0_coder_7d493) := goodIn_app (goodIn_of _ (by decide +kernel)) (goodIn_sub (fun _ h => List.mem_cons_of_mem _ (List.mem_append_right _ (List.mem_append_right _ (List.mem_append_left _ h)))) gw_f_J0_coder_7d493)
theorem hd_J5_inflateIfNeededFor_a7421 : yJ5_inflateIfNeededFor_a7421.cls = RJ5 ∧ yJ5_inflateIfNeededFor_a7421.cls ≠ "java/lang/invoke/MethodHandle" ∧ yJ5_inflateIfNeededFor_a7421.cls ≠ "java/lang/invoke/VarHandle" ∧ (parseMethodDescriptor yJ5_inflateIfNeededFor_a7421.desc).map (fun d => d.parameters.length) = some 1 := by decide +kernel
set_option maxHeartbeats 4000000 in
set_option maxRecDepth 100000 in
theorem f_J5_inflateIfNeededFor_a7421 (l : Launch) (E : EE) (z9 : Nat → Nat) {a_ a_value : Nat} {p1 : Nat} {c_coder : Int32} {c_maybeLatin1 : Int32} {c_count : Int32} (hF : F_J5_inflateIfNeededFor_a7421 p1 c_coder = some ()) : Met l yJ5_inflateIfNeededFor_a7421 v_f_J5_inflateIfNeededFor_a7421 (({ frames := 1, cells := 0, slots := 0, locals := 20 } : Room)) (va_Pc [.ref a_, .ref (z9 (20 + p1))] (qPZ E z9 (w_J5_inflateIfNeededFor_a7421 E a_ a_value c_coder c_maybeLatin1 c_count))) (va_Sv (fun _ => True)) 0 0 (fun _ => False) := by
  refine Met.ofWF (cc := cJ5_inflateIfNeededFor_a7421) (maxL := 2) (ret := none) (by decide +kernel) rfl ?_
  intro p e s m args below meth c s₁ B hml hv
  obtain ⟨rfl, ⟨hK, hN⟩, hP, hZ⟩ := hv
  have hx := B.exec
  have hb := B.bytes
  have hr := B.returns
  have hts := atoms_spec (ws := v_f_J5_inflateIfNeededFor_a7421) B.pre
  have hown : s.vm.findClass RJ5 = some m.cls := own_of hd_J5_inflateIfNeededFor_a7421.1 (findClass_of_methodNamed B.named)
  have hlocks : meth.locks = false := B.notSynchronized
  replace hP : va_P E.1 vwCl [(a_, .inr (0, [.ref a_value, .int c_coder, .int c_maybeLatin1, .int c_count]))] s.heap := hP
  have hl := lv_entry ([.ref a_, .ref (z9 (20 + p1))]) (n := 2) (Nat.le_of_ble_eq_true rfl)
  rw [lg_entry_eq]
  generalize (lg_sl ([.ref a_, .ref (z9 (20 + p1))]) ++ List.replicate (2 - (lg_sl ([.ref a_, .ref (z9 (20 + p1))])).length) Slot.unset).toArray = ls at hl ⊢
  have hl : lv_has ls 2 [(0, .ref a_), (1, .ref (z9 (20 + p1)))] := hl
  obtain ⟨Q, hQ⟩ : ∃ Q : State → Prop, Q = MQ below (va_Sv (fun _ => True)) #[Value.ref a_, Value.ref (z9 (20 + p1))] s 0 0 (fun _ => False) := ⟨_, rfl⟩
  rw [← hQ]
  change W p l e ({ frames := 1, cells := 0, slots := 0, locals := 20 } : Room) s m #[Value.ref a_, Value.ref (z9 (20 + p1))] below meth c s.heap [] 0 0 Q (F0 m 0 ls [])
  unfold F_J5_inflateIfNeededFor_a7421 at hF
  refine va_gets hx hb hZ.2.2.1.1 (va_S.rf) hown (hts (.fieldLink RJ5 18 "java/lang/String" "COMPACT_STRINGS" "Z") (List.mem_of_getElem? (i := 1) rfl)) (fun _ h9 => h9) dJ5_inflateIfNeededFor_a7421_0 ?_
  refine lv_if_eq (tgt := 21) hx hb dJ5_inflateIfNeededFor_a7421_3 (by decide) (fun q => absurd q (by decide)) (fun _ => ?_)
  refine lv_aload_n hx hb dJ5_inflateIfNeededFor_a7421_6 rfl (lv_at hl 0 rfl) ?_
  refine gt_J4_1 (v := .int c_coder) hx hb hts i_f_J5_inflateIfNeededFor_a7421_J4 hown hK hP 0 rfl (hts (.fieldLink RJ5 22 "java/lang/AbstractStringBuilder" "coder" "B") (List.mem_of_getElem? (i := 2) rfl)) rfl dJ5_inflateIfNeededFor_a7421_7 ?_
  refine lv_aload_n hx hb dJ5_inflateIfNeededFor_a7421_10 rfl (lv_at hl 1 rfl) ?_
  replace hF := ltF_s hF
  obtain ⟨hs_2, hF⟩ := hF
  replace hF := bd1_s hF
  obtain ⟨r_1, hc_3, hF⟩ := hF
  have hPc : va_P E.1 vwCl [] s.heap := fun k q h => by simp at h
  refine pE_b (va_runV (As := []) (rest := [.int c_coder])  ⟨hx, hb, hml, hown, hts⟩ (f_J0_coder_7d493 l E z9 (p0 := p1) hc_3) (cwV 0 hts g_f_J5_inflateIfNeededFor_a7421_f_J0_coder_7d493_40 rfl rfl rfl hd_J0_coder_7d493 ⟨Nat.le_of_ble_eq_true rfl, Nat.le_of_ble_eq_true rfl⟩) ⟨qPZ.blind, vk_recv hZ.2.2.2.1 hs_2 (va_S.rf), (qPZ.pre0 ⟨hK, hN⟩ hPc hZ)⟩ rfl rfl hl.1 rfl (lv_room (Nat.le_of_ble_eq_true rfl)) dJ5_inflateIfNeededFor_a7421_11 ⟨Nat.le_of_ble_eq_true rfl, Nat.le_of_ble_eq_true rfl⟩) (fun hb_4 => ?_)
  refine lv_icmp_eq (tgt := 21) hx hb dJ5_inflateIfNeededFor_a7421_14 (by decide) (fun c_5 => ?_) (fun c_5 => ?_)
  ·
    replace hF := ip c_5 hF
    rw [hQ]
    exact W.vret hx hb hr (fun tt ht hW => ⟨rfl, trivial, ht⟩) (fun _ h => by cases h) dJ5_inflateIfNeededFor_a7421_21
  ·
    replace hF := inn c_5 hF
    cases hF

def F_J0_getBytes_840e7 (p0 : Nat) (p2 : Int32) (p3 : Int32) (c_o1 : Nat → Int32) (m9 : Nat) : Option ((Nat → Int32)) :=
  ltF p0 15 (bd1 (F_J0_coder_7d493 p0) (fun r_1 => if r_1 = p3 then ltF p0 15 (ltF p0 15 (ltF p0 15 (ltF p0 15 (cpF (0 : Int32) (p2 <<< (p3 &&& (31 : Int32))) (Int32.ofNat (strL.getD p0 0)) (strL.getD p0 0) m9 (nmF (va_cpy (fun j => (strB.getD p0 []).getD j 0) c_o1 (0 : Int32).toNatClampNeg (p2 <<< (p3 &&& (31 : Int32))).toNatClampNeg (Int32.ofNat (strL.getD p0 0)).toNatClampNeg) (fun f_11 => some f_11)))))) else none))
abbrev w_J0_getBytes_840e7 (E : EE) (a_o1 : Nat) (c_o1 : Nat → Int32) (m9 : Nat) : va_W := [(a_o1, .inl (E.2.2.1, m9, .inl c_o1))]
def v_f_J0_getBytes_840e7 : List Cond := List.cons (.code yJ0_getBytes_840e7 cJ0_getBytes_840e7 4 none) (HAppend.hAppend (α := List Cond) (β := List Cond) (γ := List Cond) [.fieldLink RJ0 9 "java/lang/String" "value" "[B", .methodLink RJ0 212 arraycopyName, .native arraycopyName, .static arraycopyName, .initialized "java/lang/System", .methodLink RJ0 335 yJ0_coder_7d493, .instanceMethod yJ0_coder_7d493, .selects RJ0 yJ0_coder_7d493 yJ0_coder_7d493, .initialized RJ0] (HAppend.hAppend (α := List Cond) (β := List Cond) (γ := List Cond) v_f_J0_coder_7d493 []))
theorem gw_f_J0_getBytes_840e7 : v_f_J0_getBytes_840e7.all goodWord = true := by decide +kernel
theorem g_f_J0_getBytes_840e7_f_J0_coder_7d493_335 : GoodIn v_f_J0_getBytes_840e7 (wsV RJ0 335 RJ0 yJ0_coder_7d493 v_f_J0_coder_7d493) := goodIn_app (goodIn_of _ (by decide +kernel)) (goodIn_sub (fun _ h => List.mem_cons_of_mem _ (List.mem_append_right _ (List.mem_append_left _ h))) gw_f_J0_coder_7d493)
theorem hd_J0_getBytes_840e7 : yJ0_getBytes_840e7.cls = RJ0 ∧ yJ0_getBytes_840e7.cls ≠ "java/lang/invoke/MethodHandle" ∧ yJ0_getBytes_840e7.cls ≠ "java/lang/invoke/VarHandle" ∧ (parseMethodDescriptor yJ0_getBytes_840e7.desc).map (fun d => d.parameters.length) = some 3 := by decide +kernel
set_option maxHeartbeats 4000000 in
set_option maxRecDepth 100000 in
theorem f_J0_getBytes_840e7 (l : Launch) (E : EE) (sz : Nat) (z9 : Nat → Nat) {a_o1 : Nat} {p0 : Nat} {p2 : Int32} {p3 : Int32} {c_o1 : Nat → Int32} {m9 : Nat} {n_o1 : Nat → Int32} (hF : F_J0_getBytes_840e7 p0 p2 p3 c_o1 m9 = some n_o1) : Met l yJ0_getBytes_840e7 v_f_J0_getBytes_840e7 (({ frames := 1, cells := 0, slots := 0, locals := 60 } : Room)) (va_Pc [.ref (z9 (20 + p0)), .ref a_o1, .int p2, .int p3] (qWZ E z9 sz (w_J0_getBytes_840e7 E a_o1 c_o1 m9))) (va_Qv (fun (_u : Unit) => True) (fun (_u : Unit) tt => va_P E.1 vwCl (w_J0_getBytes_840e7 E a_o1 n_o1 m9) tt.heap ∧ va_D (va_A (w_J0_getBytes_840e7 E a_o1 c_o1 m9) sz) (w_J0_getBytes_840e7 E a_o1 n_o1 m9)) (va_A (w_J0_getBytes_840e7 E a_o1 c_o1 m9) sz)) 0 0 (va_A (w_J0_getBytes_840e7 E a_o1 c_o1 m9) sz) := by
  refine Met.ofWF (cc := cJ0_getBytes_840e7) (maxL := 4) (ret := none) (by decide +kernel) rfl ?_
  intro p e s m args below meth c s₁ B hml hv
  obtain ⟨rfl, hsz, ⟨hK, hN⟩, hP, hD0, hZ⟩ := hv
  have hx := B.exec
  have hb := B.bytes
  have hr := B.returns
  have hts := atoms_spec (ws := v_f_J0_getBytes_840e7) B.pre
  have hown : s.vm.findClass RJ0 = some m.cls := own_of hd_J0_getBytes_840e7.1 (findClass_of_methodNamed B.named)
  have hlocks : meth.locks = false := B.notSynchronized
  subst hsz
  have hD := hD0.self (sz := s.heap.size)
  generalize hAe : va_A (w_J0_getBytes_840e7 E a_o1 c_o1 m9) s.heap.size = A at hD hZ ⊢
  have hA : ∀ q : Nat, s.heap.size ≤ q → A q := fun q h => by rw [← hAe]; exact Or.inr h
  have hS : va_S A s.heap s.heap [] := va_S.rf
  have hl := lv_entry ([.ref (z9 (20 + p0)), .ref a_o1, .int p2, .int p3]) (n := 4) (Nat.le_of_ble_eq_true rfl)
  rw [lg_entry_eq]
  generalize (lg_sl ([.ref (z9 (20 + p0)), .ref a_o1, .int p2, .int p3]) ++ List.replicate (4 - (lg_sl ([.ref (z9 (20 + p0)), .ref a_o1, .int p2, .int p3])).length) Slot.unset).toArray = ls at hl ⊢
  have hl : lv_has ls 4 [(0, .ref (z9 (20 + p0))), (1, .ref a_o1), (2, .int p2), (3, .int p3)] := hl
  obtain ⟨Q, hQ⟩ : ∃ Q : State → Prop, Q = MQ below (va_Qv (fun (_u : Unit) => True) (fun (_u : Unit) tt => va_P E.1 vwCl (w_J0_getBytes_840e7 E a_o1 n_o1 m9) tt.heap ∧ va_D A (w_J0_getBytes_840e7 E a_o1 n_o1 m9)) A) #[Value.ref (z9 (20 + p0)), Value.ref a_o1, Value.int p2, Value.int p3] s 0 0 A := ⟨_, rfl⟩
  rw [← hQ]
  change W p l e ({ frames := 1, cells := 0, slots := 0, locals := 60 } : Room) s m #[Value.ref (z9 (20 + p0)), Value.ref a_o1, Value.int p2, Value.int p3] below meth c s.heap [] 0 0 Q (F0 m 0 ls [])
  suffices hh9 : ∀ (H : Heap) (locs : List Loc), va_P E.1 vwCl (w_J0_getBytes_840e7 E a_o1 c_o1 m9) H → va_D A (w_J0_getBytes_840e7 E a_o1 c_o1 m9) → va_S A s.heap H locs → W p l e ({ frames := 1, cells := 0, slots := 0, locals := 60 } : Room) s m #[Value.ref (z9 (20 + p0)), Value.ref a_o1, Value.int p2, Value.int p3] below meth c H locs 0 0 Q (F0 m 0 ls []) from hh9 s.heap [] hP hD hS
  clear hP hD hS
  intro H locs hP hD hS
  replace hP : va_P E.1 vwCl [(a_o1, .inl (E.2.2.1, m9, .inl c_o1))] H := hP
  replace hD : va_D A [(a_o1, .inl (E.2.2.1, m9, .inl c_o1))] := hD
  unfold F_J0_getBytes_840e7 at hF
  refine lv_aload_n hx hb dJ0_getBytes_840e7_0 rfl (lv_at hl 0 rfl) ?_
  replace hF := ltF_s hF
  obtain ⟨hs_2, hF⟩ := hF
  replace hF := bd1_s hF
  obtain ⟨r_1, hc_3, hF⟩ := hF
  have hPc : va_P E.1 vwCl [] H := fun k q h => by simp at h
  refine pE_b (va_runV (As := []) (rest := [])  ⟨hx, hb, hml, hown, hts⟩ (f_J0_coder_7d493 l E z9 (p0 := p0) hc_3) (cwV 0 hts g_f_J0_getBytes_840e7_f_J0_coder_7d493_335 rfl rfl rfl hd_J0_coder_7d493 ⟨Nat.le_of_ble_eq_true rfl, Nat.le_of_ble_eq_true rfl⟩) ⟨qPZ.blind, vk_recv hZ.2.2.2.1 hs_2 hS, (qPZ.pre ⟨hK, hN⟩ hPc hZ hS)⟩ rfl rfl hl.1 rfl (lv_room (Nat.le_of_ble_eq_true rfl)) dJ0_getBytes_840e7_1 ⟨Nat.le_of_ble_eq_true rfl, Nat.le_of_ble_eq_true rfl⟩) (fun hb_4 => ?_)
  refine lv_iload_n hx hb dJ0_getBytes_840e7_4 rfl (lv_at hl 3 rfl) ?_
  refine lv_icmp_ne (tgt := 28) hx hb dJ0_getBytes_840e7_5 (by decide) (fun c_5 => ?_) (fun c_5 => ?_)
  ·
    replace hF := inn c_5 hF
    cases hF
  ·
    replace hF := ip c_5 hF
    refine lv_aload_n hx hb dJ0_getBytes_840e7_8 rfl (lv_at hl 0 rfl) ?_
    replace hF := ltF_s hF
    obtain ⟨hs_6, hF⟩ := hF
    refine vk_getf (v := .ref (z9 (40 + p0))) hx hb ((hZ.2.2.2.1.1 p0 hs_6).2.2.1) hS hown (hts (.fieldLink RJ0 9 "java/lang/String" "value" "[B") (List.mem_of_getElem? (i := 1) rfl)) (fun _ h9 => h9) dJ0_getBytes_840e7_9 ?_
    refine lv_iconst (v := 0) hx hb dJ0_getBytes_840e7_12 (by decide) ?_
    refine lv_aload_n hx hb dJ0_getBytes_840e7_13 rfl (lv_at hl 1 rfl) ?_
    refine lv_iload_n hx hb dJ0_getBytes_840e7_14 rfl (lv_at hl 2 rfl) ?_
    refine lv_iload_n hx hb dJ0_getBytes_840e7_15 rfl (lv_at hl 3 rfl) ?_
    refine lv_ishl hx hb dJ0_getBytes_840e7_16 ?_
    refine lv_aload_n hx hb dJ0_getBytes_840e7_17 rfl (lv_at hl 0 rfl) ?_
    replace hF := ltF_s hF
    obtain ⟨hs_7, hF⟩ := hF
    refine vk_getf (v := .ref (z9 (40 + p0))) hx hb ((hZ.2.2.2.1.1 p0 hs_7).2.2.1) hS hown (hts (.fieldLink RJ0 9 "java/lang/String" "value" "[B") (List.mem_of_getElem? (i := 1) rfl)) (fun _ h9 => h9) dJ0_getBytes_840e7_18 ?_
    replace hF := ltF_s hF
    obtain ⟨hs_8, hF⟩ := hF
    refine va_tlen (v := (Int32.ofNat (strL.getD p0 0))) hx hb ((hZ.2.2.2.1.1 p0 hs_8).2.2.2) hS rfl dJ0_getBytes_840e7_21 ?_
    replace hF := ltF_s hF
    obtain ⟨hs_9, hF⟩ := hF
    replace hF := cp_s hF
    obtain ⟨hy_10, hF⟩ := hF
    refine vk_copyt (f := fun j => (strB.getD p0 []).getD j 0) hx hb (hml.trans hl.1.symm) hown (hts (.methodLink RJ0 212 arraycopyName) (List.mem_of_getElem? (i := 2) rfl)) (hts (.native arraycopyName) (List.mem_of_getElem? (i := 3) rfl)) (hts (.static arraycopyName) (List.mem_of_getElem? (i := 4) rfl)) (hts (.initialized "java/lang/System") (List.mem_of_getElem? (i := 5) rfl)) hK hP hD hS ((hZ.2.2.2.1.1 p0 hs_9).2.2.2) 0 1 rfl rfl hy_10.1 hy_10.2.1 hy_10.2.2.1 hy_10.2.2.2.1 hy_10.2.2.2.2 (fun _ _ => strB_fit _ _) (Nat.le_of_ble_eq_true rfl) (Nat.le_of_ble_eq_true rfl) dJ0_getBytes_840e7_22 (fun H locs hP hD hS => ?_)
    replace hP : va_P E.1 vwCl [(a_o1, .inl (E.2.2.1, m9, .inl (va_cpy (fun j => (strB.getD p0 []).getD j 0) c_o1 (0 : Int32).toNatClampNeg (p2 <<< (p3 &&& (31 : Int32))).toNatClampNeg (Int32.ofNat (strL.getD p0 0)).toNatClampNeg)))] H := hP
    replace hD : va_D A [(a_o1, .inl (E.2.2.1, m9, .inl (va_cpy (fun j => (strB.getD p0 []).getD j 0) c_o1 (0 : Int32).toNatClampNeg (p2 <<< (p3 &&& (31 : Int32))).toNatClampNeg (Int32.ofNat (strL.getD p0 0)).toNatClampNeg)))] := hD
    replace hF := nm_s hF
    obtain ⟨f_11, hf_11, hF⟩ := hF
    rw [← hf_11] at hP hD
    refine lv_goto (tgt := 43) hx hb dJ0_getBytes_840e7_25 (by decide) ?_
    rw [hQ]
    have h9 := fin9 (P := fun u9 : (Nat → Int32) => va_P E.1 vwCl (w_J0_getBytes_840e7 E a_o1 u9 m9) H ∧ va_D A (w_J0_getBytes_840e7 E a_o1 u9 m9)) hF ⟨hP, hD⟩
    obtain ⟨hP9, hD9⟩ := h9
    exact W.vret hx hb hr (fun tt ht hW => ⟨⟨(), rfl, trivial, ht ▸ hP9, hD9⟩, hS.F ht⟩) hS.2.2 dJ0_getBytes_840e7_43

def F_J5_putStringAt_47b60 (p1 : Int32) (p2 : Nat) (c_value : Nat → Int32) (c_coder : Int32) (m9 : Nat) : Option ((Nat → Int32)) :=
  bd1 (F_J5_inflateIfNeededFor_a7421 p2 c_coder) (fun u_1 => ltF p2 15 (bd1 (F_J0_getBytes_840e7 p2 p1 c_coder c_value m9) (fun w_3 => some w_3)))
abbrev w_J5_putStringAt_47b60 (E : EE) (a_ a_value : Nat) (c_coder : Int32) (c_maybeLatin1 : Int32) (c_count : Int32) (c_value : Nat → Int32) (m9 : Nat) : va_W := [(a_, .inr (0, [.ref a_value, .int c_coder, .int c_maybeLatin1, .int c_count])), (a_value, .inl (E.2.2.1, m9, .inl c_value))]
def v_f_J5_putStringAt_47b60 : List Cond := List.cons (.code yJ5_putStringAt_47b60 cJ5_putStringAt_47b60 3 none) (HAppend.hAppend (α := List Cond) (β := List Cond) (γ := List Cond) [.fieldLink RJ5 15 "java/lang/AbstractStringBuilder" "value" "[B", .fieldLink RJ5 22 "java/lang/AbstractStringBuilder" "coder" "B", .methodLink RJ5 397 yJ5_inflateIfNeededFor_a7421, .instanceMethod yJ5_inflateIfNeededFor_a7421, .selects RJ4 yJ5_inflateIfNeededFor_a7421 yJ5_inflateIfNeededFor_a7421, .initialized RJ5, .methodLink RJ5 399 yJ0_getBytes_840e7, .instanceMethod yJ0_getBytes_840e7, .selects RJ0 yJ0_getBytes_840e7 yJ0_getBytes_840e7, .initialized RJ0] (HAppend.hAppend (α := List Cond) (β := List Cond) (γ := List Cond) v_f_J5_inflateIfNeededFor_a7421 (HAppend.hAppend (α := List Cond) (β := List Cond) (γ := List Cond) wsJ40 (HAppend.hAppend (α := List Cond) (β := List Cond) (γ := List Cond) v_f_J0_getBytes_840e7 []))))
theorem gw_f_J5_putStringAt_47b60 : v_f_J5_putStringAt_47b60.all goodWord = true := by decide +kernel
theorem i_f_J5_putStringAt_47b60_J4 : ∀ w ∈ wsJ40, w ∈ v_f_J5_putStringAt_47b60 := fun _ h => List.mem_cons_of_mem _ (List.mem_append_right _ (List.mem_append_right _ (List.mem_append_left _ h)))
theorem g_f_J5_putStringAt_47b60_f_J5_inflateIfNeededFor_a7421_397 : GoodIn v_f_J5_putStringAt_47b60 (wsC RJ5 397 RJ4 yJ5_inflateIfNeededFor_a7421 v_f_J5_inflateIfNeededFor_a7421) := goodIn_app (goodIn_of _ (by decide +kernel)) (goodIn_sub (fun _ h => List.mem_cons_of_mem _ (List.mem_append_right _ (List.mem_append_left _ h))) gw_f_J5_inflateIfNeededFor_a7421)
theorem g_f_J5_putStringAt_47b60_f_J0_getBytes_840e7_399 : GoodIn v_f_J5_putStringAt_47b60 (wsV RJ5 399 RJ0 yJ0_getBytes_840e7 v_f_J0_getBytes_840e7) := goodIn_app (goodIn_of _ (by decide +kernel)) (goodIn_sub (fun _ h => List.mem_cons_of_mem _ (List.mem_append_right _ (List.mem_append_right _ (List.mem_append_right _ (List.mem_append_left _ h))))) gw_f_J0_getBytes_840e7)
theorem hd_J5_putStringAt_47b60 : yJ5_putStringAt_47b60.cls = RJ5 ∧ yJ5_putStringAt_47b60.cls ≠ "java/lang/invoke/MethodHandle" ∧ yJ5_putStringAt_47b60.cls ≠ "java/lang/invoke/VarHandle" ∧ (parseMethodDescriptor yJ5_putStringAt_47b60.desc).map (fun d => d.parameters.length) = some 2 := by decide +kernel
set_option maxHeartbeats 4000000 in
set_option maxRecDepth 100000 in
theorem f_J5_putStringAt_47b60 (l : Launch) (E : EE) (sz : Nat) (z9 : Nat → Nat) {a_ a_value : Nat} {p1 : Int32} {p2 : Nat} {c_coder : Int32} {c_maybeLatin1 : Int32} {c_count : Int32} {c_value : Nat → Int32} {m9 : Nat} {n_value : Nat → Int32} (hF : F_J5_putStringAt_47b60 p1 p2 c_value c_coder m9 = some n_value) : Met l yJ5_putStringAt_47b60 v_f_J5_putStringAt_47b60 (({ frames := 2, cells := 0, slots := 0, locals := 83 } : Room)) (va_Pc [.ref a_, .int p1, .ref (z9 (20 + p2))] (qWZ E z9 sz (w_J5_putStringAt_47b60 E a_ a_value c_coder c_maybeLatin1 c_count c_value m9))) (va_Qv (fun (_u : Unit) => True) (fun (_u : Unit) tt => va_P E.1 vwCl (w_J5_putStringAt_47b60 E a_ a_value c_coder c_maybeLatin1 c_count n_value m9) tt.heap ∧ va_D (va_A (w_J5_putStringAt_47b60 E a_ a_value c_coder c_maybeLatin1 c_count c_value m9) sz) (w_J5_putStringAt_47b60 E a_ a_value c_coder c_maybeLatin1 c_count n_value m9)) (va_A (w_J5_putStringAt_47b60 E a_ a_value c_coder c_maybeLatin1 c_count c_value m9) sz)) 0 0 (va_A (w_J5_putStringAt_47b60 E a_ a_value c_coder c_maybeLatin1 c_count c_value m9) sz) := by
  refine Met.ofWF (cc := cJ5_putStringAt_47b60) (maxL := 3) (ret := none) (by decide +kernel) rfl ?_
  intro p e s m args below meth c s₁ B hml hv
  obtain ⟨rfl, hsz, ⟨hK, hN⟩, hP, hD0, hZ⟩ := hv
  have hx := B.exec
  have hb := B.bytes
  have hr := B.returns
  have hts := atoms_spec (ws := v_f_J5_putStringAt_47b60) B.pre
  have hown : s.vm.findClass RJ5 = some m.cls := own_of hd_J5_putStringAt_47b60.1 (findClass_of_methodNamed B.named)
  have hlocks : meth.locks = false := B.notSynchronized
  subst hsz
  have hD := hD0.self (sz := s.heap.size)
  generalize hAe : va_A (w_J5_putStringAt_47b60 E a_ a_value c_coder c_maybeLatin1 c_count c_value m9) s.heap.size = A at hD hZ ⊢
  have hA : ∀ q : Nat, s.heap.size ≤ q → A q := fun q h => by rw [← hAe]; exact Or.inr h
  have hS : va_S A s.heap s.heap [] := va_S.rf
  have hl := lv_entry ([.ref a_, .int p1, .ref (z9 (20 + p2))]) (n := 3) (Nat.le_of_ble_eq_true rfl)
  rw [lg_entry_eq]
  generalize (lg_sl ([.ref a_, .int p1, .ref (z9 (20 + p2))]) ++ List.replicate (3 - (lg_sl ([.ref a_, .int p1, .ref (z9 (20 + p2))])).length) Slot.unset).toArray = ls at hl ⊢
  have hl : lv_has ls 3 [(0, .ref a_), (1, .int p1), (2, .ref (z9 (20 + p2)))] := hl
  obtain ⟨Q, hQ⟩ : ∃ Q : State → Prop, Q = MQ below (va_Qv (fun (_u : Unit) => True) (fun (_u : Unit) tt => va_P E.1 vwCl (w_J5_putStringAt_47b60 E a_ a_value c_coder c_maybeLatin1 c_count n_value m9) tt.heap ∧ va_D A (w_J5_putStringAt_47b60 E a_ a_value c_coder c_maybeLatin1 c_count n_value m9)) A) #[Value.ref a_, Value.int p1, Value.ref (z9 (20 + p2))] s 0 0 A := ⟨_, rfl⟩
  rw [← hQ]
  change W p l e ({ frames := 2, cells := 0, slots := 0, locals := 83 } : Room) s m #[Value.ref a_, Value.int p1, Value.ref (z9 (20 + p2))] below meth c s.heap [] 0 0 Q (F0 m 0 ls [])
  suffices hh9 : ∀ (H : Heap) (locs : List Loc), va_P E.1 vwCl (w_J5_putStringAt_47b60 E a_ a_value c_coder c_maybeLatin1 c_count c_value m9) H → va_D A (w_J5_putStringAt_47b60 E a_ a_value c_coder c_maybeLatin1 c_count c_value m9) → va_S A s.heap H locs → W p l e ({ frames := 2, cells := 0, slots := 0, locals := 83 } : Room) s m #[Value.ref a_, Value.int p1, Value.ref (z9 (20 + p2))] below meth c H locs 0 0 Q (F0 m 0 ls []) from hh9 s.heap [] hP hD hS
  clear hP hD hS
  intro H locs hP hD hS
  replace hP : va_P E.1 vwCl [(a_, .inr (0, [.ref a_value, .int c_coder, .int c_maybeLatin1, .int c_count])), (a_value, .inl (E.2.2.1, m9, .inl c_value))] H := hP
  replace hD : va_D A [(a_, .inr (0, [.ref a_value, .int c_coder, .int c_maybeLatin1, .int c_count])), (a_value, .inl (E.2.2.1, m9, .inl c_value))] := hD
  unfold F_J5_putStringAt_47b60 at hF
  refine lv_aload_n hx hb dJ5_putStringAt_47b60_0 rfl (lv_at hl 0 rfl) ?_
  refine lv_aload_n hx hb dJ5_putStringAt_47b60_1 rfl (lv_at hl 2 rfl) ?_
  replace hF := bd1_s hF
  obtain ⟨u_1, hc_2, hF⟩ := hF
  have hPc : va_P E.1 vwCl (w_J5_inflateIfNeededFor_a7421 E a_ a_value c_coder c_maybeLatin1 c_count) H := hP.sub (ws' := [(a_, .inr (0, [.ref a_value, .int c_coder, .int c_maybeLatin1, .int c_count]))]) [0] rfl
  have hrc := va_recv hK hPc (ci := 0) (q0 := 0) rfl rfl
  refine pc_v (va_runV (As := [.ref (z9 (20 + p2))]) (rest := [])  ⟨hx, hb, hml, hown, hts⟩ (f_J5_inflateIfNeededFor_a7421 l E z9 (a_ := a_) (a_value := a_value) (p1 := p2) (c_coder := c_coder) (c_maybeLatin1 := c_maybeLatin1) (c_count := c_count) hc_2) (cwC 1 hts g_f_J5_putStringAt_47b60_f_J5_inflateIfNeededFor_a7421_397 rfl rfl rfl hd_J5_inflateIfNeededFor_a7421.2 ⟨Nat.le_of_ble_eq_true rfl, Nat.le_of_ble_eq_true rfl⟩) ⟨qPZ.blind, hrc, (qPZ.pre ⟨hK, hN⟩ hPc hZ hS)⟩ rfl rfl hl.1 rfl (lv_room (Nat.le_of_ble_eq_true rfl)) dJ5_putStringAt_47b60_2 ⟨Nat.le_of_ble_eq_true rfl, Nat.le_of_ble_eq_true rfl⟩) ?_
  refine lv_aload_n hx hb dJ5_putStringAt_47b60_5 rfl (lv_at hl 2 rfl) ?_
  refine lv_aload_n hx hb dJ5_putStringAt_47b60_6 rfl (lv_at hl 0 rfl) ?_
  refine gt_J4_0 (v := .ref a_value) hx hb hts i_f_J5_putStringAt_47b60_J4 hown hK hP 0 rfl (hts (.fieldLink RJ5 15 "java/lang/AbstractStringBuilder" "value" "[B") (List.mem_of_getElem? (i := 1) rfl)) rfl dJ5_putStringAt_47b60_7 ?_
  refine lv_iload_n hx hb dJ5_putStringAt_47b60_10 rfl (lv_at hl 1 rfl) ?_
  refine lv_aload_n hx hb dJ5_putStringAt_47b60_11 rfl (lv_at hl 0 rfl) ?_
  refine gt_J4_1 (v := .int c_coder) hx hb hts i_f_J5_putStringAt_47b60_J4 hown hK hP 0 rfl (hts (.fieldLink RJ5 22 "java/lang/AbstractStringBuilder" "coder" "B") (List.mem_of_getElem? (i := 2) rfl)) rfl dJ5_putStringAt_47b60_12 ?_
  replace hF := ltF_s hF
  obtain ⟨hs_4, hF⟩ := hF
  replace hF := bd1_s hF
  obtain ⟨w_3, hc_5, hF⟩ := hF
  obtain ⟨hPc, hDc, hFc⟩ := wcut (wc := (w_J0_getBytes_840e7 E a_value c_value m9)) hP hD hS hA [1] (by decide) rfl
  refine cE_v (wc := (w_J0_getBytes_840e7 E a_value c_value m9)) (wr := [(a_, .inr (0, [.ref a_value, .int c_coder, .int c_maybeLatin1, .int c_count]))]) (w1 := (w_J0_getBytes_840e7 E a_value w_3 m9)) (va_runV (As := [.ref a_value, .int p1, .int c_coder]) (rest := [])  ⟨hx, hb, hml, hown, hts⟩ (f_J0_getBytes_840e7 l E H.size z9 (a_o1 := a_value) (p0 := p2) (p2 := p1) (p3 := c_coder) (c_o1 := c_value) (m9 := m9) hc_5) (cwV 3 hts g_f_J5_putStringAt_47b60_f_J0_getBytes_840e7_399 rfl rfl rfl hd_J0_getBytes_840e7 ⟨Nat.le_of_ble_eq_true rfl, Nat.le_of_ble_eq_true rfl⟩) ⟨qWZ.blind, vk_recv hZ.2.2.2.1 hs_4 hS, (qWZ.pre ⟨hK, hN⟩ hPc hDc hZ hS hFc)⟩ rfl rfl hl.1 rfl (lv_room (Nat.le_of_ble_eq_true rfl)) dJ5_putStringAt_47b60_15 ⟨Nat.le_of_ble_eq_true rfl, Nat.le_of_ble_eq_true rfl⟩) hS hFc hP hD [1] [0] rfl rfl (by decide) (by decide) (fun H locs hP hD hS => ?_)
  replace hP : va_P E.1 vwCl [(a_, .inr (0, [.ref a_value, .int c_coder, .int c_maybeLatin1, .int c_count])), (a_value, .inl (E.2.2.1, m9, .inl w_3))] H := hP
  replace hD : va_D A [(a_, .inr (0, [.ref a_value, .int c_coder, .int c_maybeLatin1, .int c_count])), (a_value, .inl (E.2.2.1, m9, .inl w_3))] := hD
  rw [hQ]
  have h9 := fin9 (P := fun u9 : (Nat → Int32) => va_P E.1 vwCl (w_J5_putStringAt_47b60 E a_ a_value c_coder c_maybeLatin1 c_count u9 m9) H ∧ va_D A (w_J5_putStringAt_47b60 E a_ a_value c_coder c_maybeLatin1 c_count u9 m9)) hF ⟨hP, hD⟩
  obtain ⟨hP9, hD9⟩ := h9
  exact W.vret hx hb hr (fun tt ht hW => ⟨⟨(), rfl, trivial, ht ▸ hP9, hD9⟩, hS.F ht⟩) hS.2.2 dJ5_putStringAt_47b60_18
