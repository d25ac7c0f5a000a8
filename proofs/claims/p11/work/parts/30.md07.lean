def dl_X8_note_30_md07_0 : List (Nat × Instr × Nat) := [(58, .bipush 85, 2), (60, .iconst 3, 1), (61, .aload_n 0, 1), (62, .getfield 22, 3), (65, .bipush 84, 2), (67, .iaload, 1), (68, .imul, 1), (69, .iadd, 1), (70, .istore_n 3, 1), (71, .aload_n 0, 1), (72, .getfield 22, 3), (75, .iload_n 3, 1), (76, .iload_n 1, 1), (77, .iastore, 1), (78, .aload_n 0, 1), (79, .getfield 22, 3), (82, .iload_n 3, 1), (83, .iconst 1, 1), (84, .iadd, 1), (85, .iload_n 2, 1), (86, .iastore, 1), (87, .aload_n 0, 1), (88, .getfield 22, 3), (91, .iload_n 3, 1), (92, .iconst 2, 1), (93, .iadd, 1), (94, .aload_n 0, 1), (95, .getfield 316, 3), (98, .iastore, 1), (99, .aload_n 0, 1), (100, .getfield 22, 3), (103, .bipush 84, 2), (105, .dup2, 1), (106, .iaload, 1), (107, .iconst 1, 1), (108, .iadd, 1), (109, .iastore, 1), (110, .return_, 1), (14, .iload_n 3, 1), (15, .sipush 180, 3), (18, .if_icmp .ge 29, 3), (21, .aload_n 0, 1), (22, .getfield 22, 3), (25, .bipush 85, 2), (27, .iload_n 3, 1), (28, .iadd, 1), (29, .iconst 3, 1), (30, .isub, 1), (31, .aload_n 0, 1), (32, .getfield 22, 3)]
set_option maxRecDepth 100000 in
theorem dall_X8_note_30_md07_0 : dchk cX8_note dl_X8_note_30_md07_0 = true := by decide +kernel
theorem dX8_note_58 : decode cX8_note 58 = .ok (.bipush 85, 2) := dchk_at dall_X8_note_30_md07_0 (k := 0) rfl
theorem dX8_note_60 : decode cX8_note 60 = .ok (.iconst 3, 1) := dchk_at dall_X8_note_30_md07_0 (k := 1) rfl
theorem dX8_note_61 : decode cX8_note 61 = .ok (.aload_n 0, 1) := dchk_at dall_X8_note_30_md07_0 (k := 2) rfl
theorem dX8_note_62 : decode cX8_note 62 = .ok (.getfield 22, 3) := dchk_at dall_X8_note_30_md07_0 (k := 3) rfl
theorem dX8_note_65 : decode cX8_note 65 = .ok (.bipush 84, 2) := dchk_at dall_X8_note_30_md07_0 (k := 4) rfl
theorem dX8_note_67 : decode cX8_note 67 = .ok (.iaload, 1) := dchk_at dall_X8_note_30_md07_0 (k := 5) rfl
theorem dX8_note_68 : decode cX8_note 68 = .ok (.imul, 1) := dchk_at dall_X8_note_30_md07_0 (k := 6) rfl
theorem dX8_note_69 : decode cX8_note 69 = .ok (.iadd, 1) := dchk_at dall_X8_note_30_md07_0 (k := 7) rfl
theorem dX8_note_70 : decode cX8_note 70 = .ok (.istore_n 3, 1) := dchk_at dall_X8_note_30_md07_0 (k := 8) rfl
theorem dX8_note_71 : decode cX8_note 71 = .ok (.aload_n 0, 1) := dchk_at dall_X8_note_30_md07_0 (k := 9) rfl
theorem dX8_note_72 : decode cX8_note 72 = .ok (.getfield 22, 3) := dchk_at dall_X8_note_30_md07_0 (k := 10) rfl
theorem dX8_note_75 : decode cX8_note 75 = .ok (.iload_n 3, 1) := dchk_at dall_X8_note_30_md07_0 (k := 11) rfl
theorem dX8_note_76 : decode cX8_note 76 = .ok (.iload_n 1, 1) := dchk_at dall_X8_note_30_md07_0 (k := 12) rfl
theorem dX8_note_77 : decode cX8_note 77 = .ok (.iastore, 1) := dchk_at dall_X8_note_30_md07_0 (k := 13) rfl
theorem dX8_note_78 : decode cX8_note 78 = .ok (.aload_n 0, 1) := dchk_at dall_X8_note_30_md07_0 (k := 14) rfl
theorem dX8_note_79 : decode cX8_note 79 = .ok (.getfield 22, 3) := dchk_at dall_X8_note_30_md07_0 (k := 15) rfl
theorem dX8_note_82 : decode cX8_note 82 = .ok (.iload_n 3, 1) := dchk_at dall_X8_note_30_md07_0 (k := 16) rfl
theorem dX8_note_83 : decode cX8_note 83 = .ok (.iconst 1, 1) := dchk_at dall_X8_note_30_md07_0 (k := 17) rfl
theorem dX8_note_84 : decode cX8_note 84 = .ok (.iadd, 1) := dchk_at dall_X8_note_30_md07_0 (k := 18) rfl
theorem dX8_note_85 : decode cX8_note 85 = .ok (.iload_n 2, 1) := dchk_at dall_X8_note_30_md07_0 (k := 19) rfl
theorem dX8_note_86 : decode cX8_note 86 = .ok (.iastore, 1) := dchk_at dall_X8_note_30_md07_0 (k := 20) rfl
theorem dX8_note_87 : decode cX8_note 87 = .ok (.aload_n 0, 1) := dchk_at dall_X8_note_30_md07_0 (k := 21) rfl
theorem dX8_note_88 : decode cX8_note 88 = .ok (.getfield 22, 3) := dchk_at dall_X8_note_30_md07_0 (k := 22) rfl
theorem dX8_note_91 : decode cX8_note 91 = .ok (.iload_n 3, 1) := dchk_at dall_X8_note_30_md07_0 (k := 23) rfl
theorem dX8_note_92 : decode cX8_note 92 = .ok (.iconst 2, 1) := dchk_at dall_X8_note_30_md07_0 (k := 24) rfl
theorem dX8_note_93 : decode cX8_note 93 = .ok (.iadd, 1) := dchk_at dall_X8_note_30_md07_0 (k := 25) rfl
theorem dX8_note_94 : decode cX8_note 94 = .ok (.aload_n 0, 1) := dchk_at dall_X8_note_30_md07_0 (k := 26) rfl
theorem dX8_note_95 : decode cX8_note 95 = .ok (.getfield 316, 3) := dchk_at dall_X8_note_30_md07_0 (k := 27) rfl
theorem dX8_note_98 : decode cX8_note 98 = .ok (.iastore, 1) := dchk_at dall_X8_note_30_md07_0 (k := 28) rfl
theorem dX8_note_99 : decode cX8_note 99 = .ok (.aload_n 0, 1) := dchk_at dall_X8_note_30_md07_0 (k := 29) rfl
theorem dX8_note_100 : decode cX8_note 100 = .ok (.getfield 22, 3) := dchk_at dall_X8_note_30_md07_0 (k := 30) rfl
theorem dX8_note_103 : decode cX8_note 103 = .ok (.bipush 84, 2) := dchk_at dall_X8_note_30_md07_0 (k := 31) rfl
theorem dX8_note_105 : decode cX8_note 105 = .ok (.dup2, 1) := dchk_at dall_X8_note_30_md07_0 (k := 32) rfl
theorem dX8_note_106 : decode cX8_note 106 = .ok (.iaload, 1) := dchk_at dall_X8_note_30_md07_0 (k := 33) rfl
theorem dX8_note_107 : decode cX8_note 107 = .ok (.iconst 1, 1) := dchk_at dall_X8_note_30_md07_0 (k := 34) rfl
theorem dX8_note_108 : decode cX8_note 108 = .ok (.iadd, 1) := dchk_at dall_X8_note_30_md07_0 (k := 35) rfl
theorem dX8_note_109 : decode cX8_note 109 = .ok (.iastore, 1) := dchk_at dall_X8_note_30_md07_0 (k := 36) rfl
theorem dX8_note_110 : decode cX8_note 110 = .ok (.return_, 1) := dchk_at dall_X8_note_30_md07_0 (k := 37) rfl
theorem dX8_note_14 : decode cX8_note 14 = .ok (.iload_n 3, 1) := dchk_at dall_X8_note_30_md07_0 (k := 38) rfl
theorem dX8_note_15 : decode cX8_note 15 = .ok (.sipush 180, 3) := dchk_at dall_X8_note_30_md07_0 (k := 39) rfl
theorem dX8_note_18 : decode cX8_note 18 = .ok (.if_icmp .ge 29, 3) := dchk_at dall_X8_note_30_md07_0 (k := 40) rfl
theorem dX8_note_21 : decode cX8_note 21 = .ok (.aload_n 0, 1) := dchk_at dall_X8_note_30_md07_0 (k := 41) rfl
theorem dX8_note_22 : decode cX8_note 22 = .ok (.getfield 22, 3) := dchk_at dall_X8_note_30_md07_0 (k := 42) rfl
theorem dX8_note_25 : decode cX8_note 25 = .ok (.bipush 85, 2) := dchk_at dall_X8_note_30_md07_0 (k := 43) rfl
theorem dX8_note_27 : decode cX8_note 27 = .ok (.iload_n 3, 1) := dchk_at dall_X8_note_30_md07_0 (k := 44) rfl
theorem dX8_note_28 : decode cX8_note 28 = .ok (.iadd, 1) := dchk_at dall_X8_note_30_md07_0 (k := 45) rfl
theorem dX8_note_29 : decode cX8_note 29 = .ok (.iconst 3, 1) := dchk_at dall_X8_note_30_md07_0 (k := 46) rfl
theorem dX8_note_30 : decode cX8_note 30 = .ok (.isub, 1) := dchk_at dall_X8_note_30_md07_0 (k := 47) rfl
theorem dX8_note_31 : decode cX8_note 31 = .ok (.aload_n 0, 1) := dchk_at dall_X8_note_30_md07_0 (k := 48) rfl
theorem dX8_note_32 : decode cX8_note 32 = .ok (.getfield 22, 3) := dchk_at dall_X8_note_30_md07_0 (k := 49) rfl
def dl_X8_note_30_md07_1 : List (Nat × Instr × Nat) := [(35, .bipush 85, 2), (37, .iload_n 3, 1), (38, .iadd, 1), (39, .iaload, 1), (40, .iastore, 1), (41, .iinc 3 1, 3), (44, .goto (-30), 3), (0, .aload_n 0, 1), (1, .getfield 22, 3), (4, .bipush 84, 2), (6, .iaload, 1), (7, .bipush 60, 2), (9, .if_icmp .ne 49, 3), (12, .iconst 3, 1), (13, .istore_n 3, 1), (47, .aload_n 0, 1), (48, .getfield 22, 3), (51, .bipush 84, 2), (53, .dup2, 1), (54, .iaload, 1), (55, .iconst 1, 1), (56, .isub, 1), (57, .iastore, 1)]
set_option maxRecDepth 100000 in
theorem dall_X8_note_30_md07_1 : dchk cX8_note dl_X8_note_30_md07_1 = true := by decide +kernel
theorem dX8_note_35 : decode cX8_note 35 = .ok (.bipush 85, 2) := dchk_at dall_X8_note_30_md07_1 (k := 0) rfl
theorem dX8_note_37 : decode cX8_note 37 = .ok (.iload_n 3, 1) := dchk_at dall_X8_note_30_md07_1 (k := 1) rfl
theorem dX8_note_38 : decode cX8_note 38 = .ok (.iadd, 1) := dchk_at dall_X8_note_30_md07_1 (k := 2) rfl
theorem dX8_note_39 : decode cX8_note 39 = .ok (.iaload, 1) := dchk_at dall_X8_note_30_md07_1 (k := 3) rfl
theorem dX8_note_40 : decode cX8_note 40 = .ok (.iastore, 1) := dchk_at dall_X8_note_30_md07_1 (k := 4) rfl
theorem dX8_note_41 : decode cX8_note 41 = .ok (.iinc 3 1, 3) := dchk_at dall_X8_note_30_md07_1 (k := 5) rfl
theorem dX8_note_44 : decode cX8_note 44 = .ok (.goto (-30), 3) := dchk_at dall_X8_note_30_md07_1 (k := 6) rfl
theorem dX8_note_0 : decode cX8_note 0 = .ok (.aload_n 0, 1) := dchk_at dall_X8_note_30_md07_1 (k := 7) rfl
theorem dX8_note_1 : decode cX8_note 1 = .ok (.getfield 22, 3) := dchk_at dall_X8_note_30_md07_1 (k := 8) rfl
theorem dX8_note_4 : decode cX8_note 4 = .ok (.bipush 84, 2) := dchk_at dall_X8_note_30_md07_1 (k := 9) rfl
theorem dX8_note_6 : decode cX8_note 6 = .ok (.iaload, 1) := dchk_at dall_X8_note_30_md07_1 (k := 10) rfl
theorem dX8_note_7 : decode cX8_note 7 = .ok (.bipush 60, 2) := dchk_at dall_X8_note_30_md07_1 (k := 11) rfl
theorem dX8_note_9 : decode cX8_note 9 = .ok (.if_icmp .ne 49, 3) := dchk_at dall_X8_note_30_md07_1 (k := 12) rfl
theorem dX8_note_12 : decode cX8_note 12 = .ok (.iconst 3, 1) := dchk_at dall_X8_note_30_md07_1 (k := 13) rfl
theorem dX8_note_13 : decode cX8_note 13 = .ok (.istore_n 3, 1) := dchk_at dall_X8_note_30_md07_1 (k := 14) rfl
theorem dX8_note_47 : decode cX8_note 47 = .ok (.aload_n 0, 1) := dchk_at dall_X8_note_30_md07_1 (k := 15) rfl
theorem dX8_note_48 : decode cX8_note 48 = .ok (.getfield 22, 3) := dchk_at dall_X8_note_30_md07_1 (k := 16) rfl
theorem dX8_note_51 : decode cX8_note 51 = .ok (.bipush 84, 2) := dchk_at dall_X8_note_30_md07_1 (k := 17) rfl
theorem dX8_note_53 : decode cX8_note 53 = .ok (.dup2, 1) := dchk_at dall_X8_note_30_md07_1 (k := 18) rfl
theorem dX8_note_54 : decode cX8_note 54 = .ok (.iaload, 1) := dchk_at dall_X8_note_30_md07_1 (k := 19) rfl
theorem dX8_note_55 : decode cX8_note 55 = .ok (.iconst 1, 1) := dchk_at dall_X8_note_30_md07_1 (k := 20) rfl
theorem dX8_note_56 : decode cX8_note 56 = .ok (.isub, 1) := dchk_at dall_X8_note_30_md07_1 (k := 21) rfl
theorem dX8_note_57 : decode cX8_note 57 = .ok (.iastore, 1) := dchk_at dall_X8_note_30_md07_1 (k := 22) rfl
def dl_X8_act_30_md07_0 : List (Nat × Instr × Nat) := [(0, .aload_n 0, 1), (1, .invokevirtual 334, 3), (4, .aload_n 0, 1), (5, .iload_n 1, 1), (6, .iload_n 2, 1), (7, .iload_n 3, 1), (8, .iload 4, 2), (10, .invokevirtual 337, 3), (13, .istore 5, 2), (15, .aload_n 0, 1), (16, .iload_n 1, 1), (17, .iload_n 1, 1), (18, .iconst 1, 1), (19, .if_icmp .ne 7, 3), (26, .iload_n 2, 1), (27, .invokevirtual 340, 3), (30, .iload 5, 2), (32, .ireturn, 1), (22, .iconst (-1), 1), (23, .goto 4, 3)]
set_option maxRecDepth 100000 in
theorem dall_X8_act_30_md07_0 : dchk cX8_act dl_X8_act_30_md07_0 = true := by decide +kernel
theorem dX8_act_0 : decode cX8_act 0 = .ok (.aload_n 0, 1) := dchk_at dall_X8_act_30_md07_0 (k := 0) rfl
theorem dX8_act_1 : decode cX8_act 1 = .ok (.invokevirtual 334, 3) := dchk_at dall_X8_act_30_md07_0 (k := 1) rfl
theorem dX8_act_4 : decode cX8_act 4 = .ok (.aload_n 0, 1) := dchk_at dall_X8_act_30_md07_0 (k := 2) rfl
theorem dX8_act_5 : decode cX8_act 5 = .ok (.iload_n 1, 1) := dchk_at dall_X8_act_30_md07_0 (k := 3) rfl
theorem dX8_act_6 : decode cX8_act 6 = .ok (.iload_n 2, 1) := dchk_at dall_X8_act_30_md07_0 (k := 4) rfl
theorem dX8_act_7 : decode cX8_act 7 = .ok (.iload_n 3, 1) := dchk_at dall_X8_act_30_md07_0 (k := 5) rfl
theorem dX8_act_8 : decode cX8_act 8 = .ok (.iload 4, 2) := dchk_at dall_X8_act_30_md07_0 (k := 6) rfl
theorem dX8_act_10 : decode cX8_act 10 = .ok (.invokevirtual 337, 3) := dchk_at dall_X8_act_30_md07_0 (k := 7) rfl
theorem dX8_act_13 : decode cX8_act 13 = .ok (.istore 5, 2) := dchk_at dall_X8_act_30_md07_0 (k := 8) rfl
theorem dX8_act_15 : decode cX8_act 15 = .ok (.aload_n 0, 1) := dchk_at dall_X8_act_30_md07_0 (k := 9) rfl
theorem dX8_act_16 : decode cX8_act 16 = .ok (.iload_n 1, 1) := dchk_at dall_X8_act_30_md07_0 (k := 10) rfl
theorem dX8_act_17 : decode cX8_act 17 = .ok (.iload_n 1, 1) := dchk_at dall_X8_act_30_md07_0 (k := 11) rfl
theorem dX8_act_18 : decode cX8_act 18 = .ok (.iconst 1, 1) := dchk_at dall_X8_act_30_md07_0 (k := 12) rfl
theorem dX8_act_19 : decode cX8_act 19 = .ok (.if_icmp .ne 7, 3) := dchk_at dall_X8_act_30_md07_0 (k := 13) rfl
theorem dX8_act_26 : decode cX8_act 26 = .ok (.iload_n 2, 1) := dchk_at dall_X8_act_30_md07_0 (k := 14) rfl
theorem dX8_act_27 : decode cX8_act 27 = .ok (.invokevirtual 340, 3) := dchk_at dall_X8_act_30_md07_0 (k := 15) rfl
theorem dX8_act_30 : decode cX8_act 30 = .ok (.iload 5, 2) := dchk_at dall_X8_act_30_md07_0 (k := 16) rfl
theorem dX8_act_32 : decode cX8_act 32 = .ok (.ireturn, 1) := dchk_at dall_X8_act_30_md07_0 (k := 17) rfl
theorem dX8_act_22 : decode cX8_act 22 = .ok (.iconst (-1), 1) := dchk_at dall_X8_act_30_md07_0 (k := 18) rfl
theorem dX8_act_23 : decode cX8_act 23 = .ok (.goto 4, 3) := dchk_at dall_X8_act_30_md07_0 (k := 19) rfl
def dl_X8_actOf_30_md07_0 : List (Nat × Instr × Nat) := [(0, .iload_n 0, 1), (1, .tableswitch 56 0 6 #[43, 45, 47, 49, 51, 56, 53], 43), (44, .iconst 0, 1), (45, .ireturn, 1), (46, .iconst 4, 1), (47, .ireturn, 1), (48, .iconst 2, 1), (49, .ireturn, 1), (50, .iconst 3, 1), (51, .ireturn, 1), (52, .iconst 1, 1), (53, .ireturn, 1), (57, .iconst 5, 1), (58, .ireturn, 1), (54, .bipush 6, 2), (56, .ireturn, 1)]
set_option maxRecDepth 100000 in
theorem dall_X8_actOf_30_md07_0 : dchk cX8_actOf dl_X8_actOf_30_md07_0 = true := by decide +kernel
theorem dX8_actOf_0 : decode cX8_actOf 0 = .ok (.iload_n 0, 1) := dchk_at dall_X8_actOf_30_md07_0 (k := 0) rfl
theorem dX8_actOf_1 : decode cX8_actOf 1 = .ok (.tableswitch 56 0 6 #[43, 45, 47, 49, 51, 56, 53], 43) := dchk_at dall_X8_actOf_30_md07_0 (k := 1) rfl
theorem dX8_actOf_44 : decode cX8_actOf 44 = .ok (.iconst 0, 1) := dchk_at dall_X8_actOf_30_md07_0 (k := 2) rfl
theorem dX8_actOf_45 : decode cX8_actOf 45 = .ok (.ireturn, 1) := dchk_at dall_X8_actOf_30_md07_0 (k := 3) rfl
theorem dX8_actOf_46 : decode cX8_actOf 46 = .ok (.iconst 4, 1) := dchk_at dall_X8_actOf_30_md07_0 (k := 4) rfl
theorem dX8_actOf_47 : decode cX8_actOf 47 = .ok (.ireturn, 1) := dchk_at dall_X8_actOf_30_md07_0 (k := 5) rfl
theorem dX8_actOf_48 : decode cX8_actOf 48 = .ok (.iconst 2, 1) := dchk_at dall_X8_actOf_30_md07_0 (k := 6) rfl
theorem dX8_actOf_49 : decode cX8_actOf 49 = .ok (.ireturn, 1) := dchk_at dall_X8_actOf_30_md07_0 (k := 7) rfl
theorem dX8_actOf_50 : decode cX8_actOf 50 = .ok (.iconst 3, 1) := dchk_at dall_X8_actOf_30_md07_0 (k := 8) rfl
theorem dX8_actOf_51 : decode cX8_actOf 51 = .ok (.ireturn, 1) := dchk_at dall_X8_actOf_30_md07_0 (k := 9) rfl
theorem dX8_actOf_52 : decode cX8_actOf 52 = .ok (.iconst 1, 1) := dchk_at dall_X8_actOf_30_md07_0 (k := 10) rfl
theorem dX8_actOf_53 : decode cX8_actOf 53 = .ok (.ireturn, 1) := dchk_at dall_X8_actOf_30_md07_0 (k := 11) rfl
theorem dX8_actOf_57 : decode cX8_actOf 57 = .ok (.iconst 5, 1) := dchk_at dall_X8_actOf_30_md07_0 (k := 12) rfl
theorem dX8_actOf_58 : decode cX8_actOf 58 = .ok (.ireturn, 1) := dchk_at dall_X8_actOf_30_md07_0 (k := 13) rfl
theorem dX8_actOf_54 : decode cX8_actOf 54 = .ok (.bipush 6, 2) := dchk_at dall_X8_actOf_30_md07_0 (k := 14) rfl
theorem dX8_actOf_56 : decode cX8_actOf 56 = .ok (.ireturn, 1) := dchk_at dall_X8_actOf_30_md07_0 (k := 15) rfl
def dl_X8_in_30_md07_0 : List (Nat × Instr × Nat) := [(0, .lload_n 0, 1), (1, .lload_n 2, 1), (2, .lcmp, 1), (3, .ifCond .lt 14, 3), (17, .iconst 0, 1), (18, .ireturn, 1), (6, .lload_n 0, 1), (7, .lload 4, 2), (9, .lcmp, 1), (10, .ifCond .gt 7, 3), (13, .iconst 1, 1), (14, .goto 4, 3)]
set_option maxRecDepth 100000 in
theorem dall_X8_in_30_md07_0 : dchk cX8_in dl_X8_in_30_md07_0 = true := by decide +kernel
theorem dX8_in_0 : decode cX8_in 0 = .ok (.lload_n 0, 1) := dchk_at dall_X8_in_30_md07_0 (k := 0) rfl
theorem dX8_in_1 : decode cX8_in 1 = .ok (.lload_n 2, 1) := dchk_at dall_X8_in_30_md07_0 (k := 1) rfl
theorem dX8_in_2 : decode cX8_in 2 = .ok (.lcmp, 1) := dchk_at dall_X8_in_30_md07_0 (k := 2) rfl
theorem dX8_in_3 : decode cX8_in 3 = .ok (.ifCond .lt 14, 3) := dchk_at dall_X8_in_30_md07_0 (k := 3) rfl
theorem dX8_in_17 : decode cX8_in 17 = .ok (.iconst 0, 1) := dchk_at dall_X8_in_30_md07_0 (k := 4) rfl
theorem dX8_in_18 : decode cX8_in 18 = .ok (.ireturn, 1) := dchk_at dall_X8_in_30_md07_0 (k := 5) rfl
theorem dX8_in_6 : decode cX8_in 6 = .ok (.lload_n 0, 1) := dchk_at dall_X8_in_30_md07_0 (k := 6) rfl
theorem dX8_in_7 : decode cX8_in 7 = .ok (.lload 4, 2) := dchk_at dall_X8_in_30_md07_0 (k := 7) rfl
theorem dX8_in_9 : decode cX8_in 9 = .ok (.lcmp, 1) := dchk_at dall_X8_in_30_md07_0 (k := 8) rfl
theorem dX8_in_10 : decode cX8_in 10 = .ok (.ifCond .gt 7, 3) := dchk_at dall_X8_in_30_md07_0 (k := 9) rfl
theorem dX8_in_13 : decode cX8_in 13 = .ok (.iconst 1, 1) := dchk_at dall_X8_in_30_md07_0 (k := 10) rfl
theorem dX8_in_14 : decode cX8_in 14 = .ok (.goto 4, 3) := dchk_at dall_X8_in_30_md07_0 (k := 11) rfl
def dl_X8_isSite_30_md07_0 : List (Nat × Instr × Nat) := [(0, .iload_n 1, 1), (1, .i2l, 1), (2, .lconst 0, 1), (3, .aload_n 0, 1), (4, .getfield 196, 3), (7, .iconst 1, 1), (8, .isub, 1), (9, .i2l, 1), (10, .invokestatic 60, 3), (13, .ireturn, 1)]
set_option maxRecDepth 100000 in
theorem dall_X8_isSite_30_md07_0 : dchk cX8_isSite dl_X8_isSite_30_md07_0 = true := by decide +kernel
theorem dX8_isSite_0 : decode cX8_isSite 0 = .ok (.iload_n 1, 1) := dchk_at dall_X8_isSite_30_md07_0 (k := 0) rfl
theorem dX8_isSite_1 : decode cX8_isSite 1 = .ok (.i2l, 1) := dchk_at dall_X8_isSite_30_md07_0 (k := 1) rfl
theorem dX8_isSite_2 : decode cX8_isSite 2 = .ok (.lconst 0, 1) := dchk_at dall_X8_isSite_30_md07_0 (k := 2) rfl
theorem dX8_isSite_3 : decode cX8_isSite 3 = .ok (.aload_n 0, 1) := dchk_at dall_X8_isSite_30_md07_0 (k := 3) rfl
theorem dX8_isSite_4 : decode cX8_isSite 4 = .ok (.getfield 196, 3) := dchk_at dall_X8_isSite_30_md07_0 (k := 4) rfl
theorem dX8_isSite_7 : decode cX8_isSite 7 = .ok (.iconst 1, 1) := dchk_at dall_X8_isSite_30_md07_0 (k := 5) rfl
theorem dX8_isSite_8 : decode cX8_isSite 8 = .ok (.isub, 1) := dchk_at dall_X8_isSite_30_md07_0 (k := 6) rfl
theorem dX8_isSite_9 : decode cX8_isSite 9 = .ok (.i2l, 1) := dchk_at dall_X8_isSite_30_md07_0 (k := 7) rfl
theorem dX8_isSite_10 : decode cX8_isSite 10 = .ok (.invokestatic 60, 3) := dchk_at dall_X8_isSite_30_md07_0 (k := 8) rfl
theorem dX8_isSite_13 : decode cX8_isSite 13 = .ok (.ireturn, 1) := dchk_at dall_X8_isSite_30_md07_0 (k := 9) rfl
def dl_X8_whyMove_30_md07_0 : List (Nat × Instr × Nat) := [(90, .istore 4, 2), (92, .iload 4, 2), (94, .ifCond .ne 7, 3), (101, .iload_n 2, 1), (102, .ifCond .ne 7, 3), (109, .aload_n 0, 1), (110, .iload_n 1, 1), (111, .invokevirtual 257, 3), (114, .ifCond .eq 7, 3), (121, .iconst (-1), 1), (122, .ireturn, 1), (117, .iconst 2, 1), (118, .goto 4, 3), (105, .iload_n 3, 1), (106, .ifCond .eq 11, 3), (97, .iconst 1, 1), (98, .goto 24, 3), (89, .iconst 0, 1), (0, .aload_n 0, 1), (1, .iload_n 1, 1), (2, .invokevirtual 278, 3), (5, .ifCond .ne 5, 3), (10, .iload_n 2, 1), (11, .i2l, 1), (12, .ldc2_w 281, 3), (15, .ldc2_w 283, 3), (18, .invokestatic 60, 3), (21, .ifCond .eq 68, 3), (24, .iload_n 3, 1), (25, .i2l, 1), (26, .ldc2_w 281, 3), (29, .ldc2_w 283, 3), (32, .invokestatic 60, 3), (35, .ifCond .eq 54, 3), (38, .aload_n 0, 1), (39, .getfield 22, 3), (42, .iconst 0, 1), (43, .iload_n 1, 1), (44, .iadd, 1), (45, .iaload, 1), (46, .iload_n 2, 1), (47, .iadd, 1), (48, .i2l, 1), (49, .ldc2_w 285, 3), (52, .ldc2_w 287, 3), (55, .invokestatic 60, 3), (58, .ifCond .eq 31, 3), (61, .aload_n 0, 1), (62, .getfield 22, 3), (65, .bipush 8, 2)]
set_option maxRecDepth 100000 in
theorem dall_X8_whyMove_30_md07_0 : dchk cX8_whyMove dl_X8_whyMove_30_md07_0 = true := by decide +kernel
theorem dX8_whyMove_90 : decode cX8_whyMove 90 = .ok (.istore 4, 2) := dchk_at dall_X8_whyMove_30_md07_0 (k := 0) rfl
theorem dX8_whyMove_92 : decode cX8_whyMove 92 = .ok (.iload 4, 2) := dchk_at dall_X8_whyMove_30_md07_0 (k := 1) rfl
theorem dX8_whyMove_94 : decode cX8_whyMove 94 = .ok (.ifCond .ne 7, 3) := dchk_at dall_X8_whyMove_30_md07_0 (k := 2) rfl
theorem dX8_whyMove_101 : decode cX8_whyMove 101 = .ok (.iload_n 2, 1) := dchk_at dall_X8_whyMove_30_md07_0 (k := 3) rfl
theorem dX8_whyMove_102 : decode cX8_whyMove 102 = .ok (.ifCond .ne 7, 3) := dchk_at dall_X8_whyMove_30_md07_0 (k := 4) rfl
theorem dX8_whyMove_109 : decode cX8_whyMove 109 = .ok (.aload_n 0, 1) := dchk_at dall_X8_whyMove_30_md07_0 (k := 5) rfl
theorem dX8_whyMove_110 : decode cX8_whyMove 110 = .ok (.iload_n 1, 1) := dchk_at dall_X8_whyMove_30_md07_0 (k := 6) rfl
theorem dX8_whyMove_111 : decode cX8_whyMove 111 = .ok (.invokevirtual 257, 3) := dchk_at dall_X8_whyMove_30_md07_0 (k := 7) rfl
theorem dX8_whyMove_114 : decode cX8_whyMove 114 = .ok (.ifCond .eq 7, 3) := dchk_at dall_X8_whyMove_30_md07_0 (k := 8) rfl
theorem dX8_whyMove_121 : decode cX8_whyMove 121 = .ok (.iconst (-1), 1) := dchk_at dall_X8_whyMove_30_md07_0 (k := 9) rfl
theorem dX8_whyMove_122 : decode cX8_whyMove 122 = .ok (.ireturn, 1) := dchk_at dall_X8_whyMove_30_md07_0 (k := 10) rfl
theorem dX8_whyMove_117 : decode cX8_whyMove 117 = .ok (.iconst 2, 1) := dchk_at dall_X8_whyMove_30_md07_0 (k := 11) rfl
theorem dX8_whyMove_118 : decode cX8_whyMove 118 = .ok (.goto 4, 3) := dchk_at dall_X8_whyMove_30_md07_0 (k := 12) rfl
theorem dX8_whyMove_105 : decode cX8_whyMove 105 = .ok (.iload_n 3, 1) := dchk_at dall_X8_whyMove_30_md07_0 (k := 13) rfl
theorem dX8_whyMove_106 : decode cX8_whyMove 106 = .ok (.ifCond .eq 11, 3) := dchk_at dall_X8_whyMove_30_md07_0 (k := 14) rfl
theorem dX8_whyMove_97 : decode cX8_whyMove 97 = .ok (.iconst 1, 1) := dchk_at dall_X8_whyMove_30_md07_0 (k := 15) rfl
theorem dX8_whyMove_98 : decode cX8_whyMove 98 = .ok (.goto 24, 3) := dchk_at dall_X8_whyMove_30_md07_0 (k := 16) rfl
theorem dX8_whyMove_89 : decode cX8_whyMove 89 = .ok (.iconst 0, 1) := dchk_at dall_X8_whyMove_30_md07_0 (k := 17) rfl
theorem dX8_whyMove_0 : decode cX8_whyMove 0 = .ok (.aload_n 0, 1) := dchk_at dall_X8_whyMove_30_md07_0 (k := 18) rfl
theorem dX8_whyMove_1 : decode cX8_whyMove 1 = .ok (.iload_n 1, 1) := dchk_at dall_X8_whyMove_30_md07_0 (k := 19) rfl
theorem dX8_whyMove_2 : decode cX8_whyMove 2 = .ok (.invokevirtual 278, 3) := dchk_at dall_X8_whyMove_30_md07_0 (k := 20) rfl
theorem dX8_whyMove_5 : decode cX8_whyMove 5 = .ok (.ifCond .ne 5, 3) := dchk_at dall_X8_whyMove_30_md07_0 (k := 21) rfl
theorem dX8_whyMove_10 : decode cX8_whyMove 10 = .ok (.iload_n 2, 1) := dchk_at dall_X8_whyMove_30_md07_0 (k := 22) rfl
theorem dX8_whyMove_11 : decode cX8_whyMove 11 = .ok (.i2l, 1) := dchk_at dall_X8_whyMove_30_md07_0 (k := 23) rfl
theorem dX8_whyMove_12 : decode cX8_whyMove 12 = .ok (.ldc2_w 281, 3) := dchk_at dall_X8_whyMove_30_md07_0 (k := 24) rfl
theorem dX8_whyMove_15 : decode cX8_whyMove 15 = .ok (.ldc2_w 283, 3) := dchk_at dall_X8_whyMove_30_md07_0 (k := 25) rfl
theorem dX8_whyMove_18 : decode cX8_whyMove 18 = .ok (.invokestatic 60, 3) := dchk_at dall_X8_whyMove_30_md07_0 (k := 26) rfl
theorem dX8_whyMove_21 : decode cX8_whyMove 21 = .ok (.ifCond .eq 68, 3) := dchk_at dall_X8_whyMove_30_md07_0 (k := 27) rfl
theorem dX8_whyMove_24 : decode cX8_whyMove 24 = .ok (.iload_n 3, 1) := dchk_at dall_X8_whyMove_30_md07_0 (k := 28) rfl
theorem dX8_whyMove_25 : decode cX8_whyMove 25 = .ok (.i2l, 1) := dchk_at dall_X8_whyMove_30_md07_0 (k := 29) rfl
theorem dX8_whyMove_26 : decode cX8_whyMove 26 = .ok (.ldc2_w 281, 3) := dchk_at dall_X8_whyMove_30_md07_0 (k := 30) rfl
theorem dX8_whyMove_29 : decode cX8_whyMove 29 = .ok (.ldc2_w 283, 3) := dchk_at dall_X8_whyMove_30_md07_0 (k := 31) rfl
theorem dX8_whyMove_32 : decode cX8_whyMove 32 = .ok (.invokestatic 60, 3) := dchk_at dall_X8_whyMove_30_md07_0 (k := 32) rfl
theorem dX8_whyMove_35 : decode cX8_whyMove 35 = .ok (.ifCond .eq 54, 3) := dchk_at dall_X8_whyMove_30_md07_0 (k := 33) rfl
theorem dX8_whyMove_38 : decode cX8_whyMove 38 = .ok (.aload_n 0, 1) := dchk_at dall_X8_whyMove_30_md07_0 (k := 34) rfl
theorem dX8_whyMove_39 : decode cX8_whyMove 39 = .ok (.getfield 22, 3) := dchk_at dall_X8_whyMove_30_md07_0 (k := 35) rfl
theorem dX8_whyMove_42 : decode cX8_whyMove 42 = .ok (.iconst 0, 1) := dchk_at dall_X8_whyMove_30_md07_0 (k := 36) rfl
theorem dX8_whyMove_43 : decode cX8_whyMove 43 = .ok (.iload_n 1, 1) := dchk_at dall_X8_whyMove_30_md07_0 (k := 37) rfl
theorem dX8_whyMove_44 : decode cX8_whyMove 44 = .ok (.iadd, 1) := dchk_at dall_X8_whyMove_30_md07_0 (k := 38) rfl
theorem dX8_whyMove_45 : decode cX8_whyMove 45 = .ok (.iaload, 1) := dchk_at dall_X8_whyMove_30_md07_0 (k := 39) rfl
theorem dX8_whyMove_46 : decode cX8_whyMove 46 = .ok (.iload_n 2, 1) := dchk_at dall_X8_whyMove_30_md07_0 (k := 40) rfl
theorem dX8_whyMove_47 : decode cX8_whyMove 47 = .ok (.iadd, 1) := dchk_at dall_X8_whyMove_30_md07_0 (k := 41) rfl
theorem dX8_whyMove_48 : decode cX8_whyMove 48 = .ok (.i2l, 1) := dchk_at dall_X8_whyMove_30_md07_0 (k := 42) rfl
theorem dX8_whyMove_49 : decode cX8_whyMove 49 = .ok (.ldc2_w 285, 3) := dchk_at dall_X8_whyMove_30_md07_0 (k := 43) rfl
theorem dX8_whyMove_52 : decode cX8_whyMove 52 = .ok (.ldc2_w 287, 3) := dchk_at dall_X8_whyMove_30_md07_0 (k := 44) rfl
theorem dX8_whyMove_55 : decode cX8_whyMove 55 = .ok (.invokestatic 60, 3) := dchk_at dall_X8_whyMove_30_md07_0 (k := 45) rfl
theorem dX8_whyMove_58 : decode cX8_whyMove 58 = .ok (.ifCond .eq 31, 3) := dchk_at dall_X8_whyMove_30_md07_0 (k := 46) rfl
theorem dX8_whyMove_61 : decode cX8_whyMove 61 = .ok (.aload_n 0, 1) := dchk_at dall_X8_whyMove_30_md07_0 (k := 47) rfl
theorem dX8_whyMove_62 : decode cX8_whyMove 62 = .ok (.getfield 22, 3) := dchk_at dall_X8_whyMove_30_md07_0 (k := 48) rfl
theorem dX8_whyMove_65 : decode cX8_whyMove 65 = .ok (.bipush 8, 2) := dchk_at dall_X8_whyMove_30_md07_0 (k := 49) rfl
def dl_X8_whyMove_30_md07_1 : List (Nat × Instr × Nat) := [(67, .iload_n 1, 1), (68, .iadd, 1), (69, .iaload, 1), (70, .iload_n 3, 1), (71, .iadd, 1), (72, .i2l, 1), (73, .ldc2_w 285, 3), (76, .ldc2_w 287, 3), (79, .invokestatic 60, 3), (82, .ifCond .eq 7, 3), (85, .iconst 1, 1), (86, .goto 4, 3), (8, .iconst 0, 1), (9, .ireturn, 1)]
set_option maxRecDepth 100000 in
theorem dall_X8_whyMove_30_md07_1 : dchk cX8_whyMove dl_X8_whyMove_30_md07_1 = true := by decide +kernel
theorem dX8_whyMove_67 : decode cX8_whyMove 67 = .ok (.iload_n 1, 1) := dchk_at dall_X8_whyMove_30_md07_1 (k := 0) rfl
theorem dX8_whyMove_68 : decode cX8_whyMove 68 = .ok (.iadd, 1) := dchk_at dall_X8_whyMove_30_md07_1 (k := 1) rfl
theorem dX8_whyMove_69 : decode cX8_whyMove 69 = .ok (.iaload, 1) := dchk_at dall_X8_whyMove_30_md07_1 (k := 2) rfl
theorem dX8_whyMove_70 : decode cX8_whyMove 70 = .ok (.iload_n 3, 1) := dchk_at dall_X8_whyMove_30_md07_1 (k := 3) rfl
theorem dX8_whyMove_71 : decode cX8_whyMove 71 = .ok (.iadd, 1) := dchk_at dall_X8_whyMove_30_md07_1 (k := 4) rfl
theorem dX8_whyMove_72 : decode cX8_whyMove 72 = .ok (.i2l, 1) := dchk_at dall_X8_whyMove_30_md07_1 (k := 5) rfl
theorem dX8_whyMove_73 : decode cX8_whyMove 73 = .ok (.ldc2_w 285, 3) := dchk_at dall_X8_whyMove_30_md07_1 (k := 6) rfl
theorem dX8_whyMove_76 : decode cX8_whyMove 76 = .ok (.ldc2_w 287, 3) := dchk_at dall_X8_whyMove_30_md07_1 (k := 7) rfl
theorem dX8_whyMove_79 : decode cX8_whyMove 79 = .ok (.invokestatic 60, 3) := dchk_at dall_X8_whyMove_30_md07_1 (k := 8) rfl
theorem dX8_whyMove_82 : decode cX8_whyMove 82 = .ok (.ifCond .eq 7, 3) := dchk_at dall_X8_whyMove_30_md07_1 (k := 9) rfl
theorem dX8_whyMove_85 : decode cX8_whyMove 85 = .ok (.iconst 1, 1) := dchk_at dall_X8_whyMove_30_md07_1 (k := 10) rfl
theorem dX8_whyMove_86 : decode cX8_whyMove 86 = .ok (.goto 4, 3) := dchk_at dall_X8_whyMove_30_md07_1 (k := 11) rfl
theorem dX8_whyMove_8 : decode cX8_whyMove 8 = .ok (.iconst 0, 1) := dchk_at dall_X8_whyMove_30_md07_1 (k := 12) rfl
theorem dX8_whyMove_9 : decode cX8_whyMove 9 = .ok (.ireturn, 1) := dchk_at dall_X8_whyMove_30_md07_1 (k := 13) rfl
def J_X8_note_58 (p1 : Int32) (p2 : Int32) (c_took : Int32) (c_now : Nat → Int32) : Option ((Nat → Int32)) :=
  ixF ((85 : Int32) + ((3 : Int32) * (c_now 84))) 265 (nmF (upd c_now ((85 : Int32) + ((3 : Int32) * (c_now 84))).toNatClampNeg p1) (fun f_3 => ixF (((85 : Int32) + ((3 : Int32) * (c_now 84))) + (1 : Int32)) 265 (nmF (upd f_3 (((85 : Int32) + ((3 : Int32) * (c_now 84))) + (1 : Int32)).toNatClampNeg p2) (fun f_5 => ixF (((85 : Int32) + ((3 : Int32) * (c_now 84))) + (2 : Int32)) 265 (nmF (upd f_5 (((85 : Int32) + ((3 : Int32) * (c_now 84))) + (2 : Int32)).toNatClampNeg c_took) (fun f_7 => nmF (upd f_7 84 ((f_7 84) + (1 : Int32))) (fun f_8 => some f_8)))))))
def B_X8_note_14 (x3 : Int32) (c_now : Nat → Int32) : Option ((Int32 × (Nat → Int32)) ⊕ ((Nat → Int32))) :=
  if (180 : Int32) ≤ x3 then some (.inr c_now) else ixF ((85 : Int32) + x3) 265 (ixF (((85 : Int32) + x3) - (3 : Int32)) 265 (nmF (upd c_now (((85 : Int32) + x3) - (3 : Int32)).toNatClampNeg (c_now ((85 : Int32) + x3).toNatClampNeg)) (fun f_12 => some (.inl (x3 + (1 : Int32), f_12)))))
def F_X8_note (K : Nat) (p1 : Int32) (p2 : Int32) (c_now : Nat → Int32) (c_took : Int32) : Option ((Nat → Int32)) :=
  if c_now 84 = (60 : Int32) then bd1 (lpF (fun u9 : Int32 × (Nat → Int32) => B_X8_note_14  u9.1 u9.2) K ((3 : Int32), c_now)) (fun c_now_13 => nmF (upd c_now_13 84 ((c_now_13 84) - (1 : Int32))) (fun f_15 => J_X8_note_58 p1 p2 c_took f_15)) else J_X8_note_58 p1 p2 c_took c_now
abbrev w_X8_note (E : EE) (a_ a_tape a_readPlace a_script a_scriptLong a_now a_refused a_shareX a_shareY a_askedRow a_kept a_aside a_spelled a_image : Nat) (c_thrown : Int32) (c_taped : Int32) (c_at : Int32) (c_part : Int32) (c_partFrom : Int32) (c_partNumber : Int32) (c_wrong : Int32) (c_partWord : Int64) (c_readLaw : Int32) (c_readBound : Int32) (c_readGoal : Int32) (c_readSites : Int32) (c_scripts : Int32) (c_sites : Int32) (c_asked : Int32) (c_outcome : Int32) (c_took : Int32) (c_acts : Int32) (c_drawn : Int64) (c_racer : Int32) (c_raced : Int32) (c_spelledMany : Int32) (c_hasImage : Int32) (c_now : Nat → Int32) : va_W := [(a_, .inr (9, [.int c_thrown, .ref a_tape, .int c_taped, .int c_at, .int c_part, .int c_partFrom, .int c_partNumber, .int c_wrong, .long c_partWord, .int c_readLaw, .int c_readBound, .int c_readGoal, .int c_readSites, .ref a_readPlace, .ref a_script, .ref a_scriptLong, .int c_scripts, .ref a_now, .ref a_refused, .int c_sites, .ref a_shareX, .ref a_shareY, .int c_asked, .int c_outcome, .ref a_askedRow, .int c_took, .ref a_kept, .int c_acts, .long c_drawn, .ref a_aside, .int c_racer, .int c_raced, .ref a_spelled, .int c_spelledMany, .ref a_image, .int c_hasImage])), (a_now, .inl (E.2.1, 265, .inl c_now))]
def v_f_X8_note : List Cond := List.cons (.code yX8_note cX8_note 4 none) (HAppend.hAppend (α := List Cond) (β := List Cond) (γ := List Cond) [.fieldLink RX8 22 "HushWatchModel" "now" "[I", .fieldLink RX8 316 "HushWatchModel" "took" "I"] (HAppend.hAppend (α := List Cond) (β := List Cond) (γ := List Cond) wsX80 []))
theorem gw_f_X8_note : v_f_X8_note.all goodWord = true := by decide +kernel
theorem i_f_X8_note_X8 : ∀ w ∈ wsX80, w ∈ v_f_X8_note := fun _ h => List.mem_cons_of_mem _ (List.mem_append_right _ (List.mem_append_left _ h))
theorem hd_X8_note : yX8_note.cls = RX8 ∧ yX8_note.cls ≠ "java/lang/invoke/MethodHandle" ∧ yX8_note.cls ≠ "java/lang/invoke/VarHandle" ∧ (parseMethodDescriptor yX8_note.desc).map (fun d => d.parameters.length) = some 2 := by decide +kernel
set_option maxHeartbeats 4000000 in
set_option maxRecDepth 100000 in
theorem j_X8_note_58 {p : Program} (l : Launch) {e : Env} {s : State} {m : MethodId} {below : List Frame} {meth : Method} {c : Code} {Q : State → Prop} (E : EE) (K : Nat) {a_ a_tape a_readPlace a_script a_scriptLong a_now a_refused a_shareX a_shareY a_askedRow a_kept a_aside a_spelled a_image : Nat} {p1 : Int32} {p2 : Int32} {c_thrown : Int32} {c_taped : Int32} {c_at : Int32} {c_part : Int32} {c_partFrom : Int32} {c_partNumber : Int32} {c_wrong : Int32} {c_partWord : Int64} {c_readLaw : Int32} {c_readBound : Int32} {c_readGoal : Int32} {c_readSites : Int32} {c_scripts : Int32} {c_sites : Int32} {c_asked : Int32} {c_outcome : Int32} {c_took : Int32} {c_acts : Int32} {c_drawn : Int64} {c_racer : Int32} {c_raced : Int32} {c_spelledMany : Int32} {c_hasImage : Int32} {c_now : Nat → Int32} (hx : p.tables.exec = Jvm.exec) (hb : c.code = cX8_note) (hml : c.maxLocals = 4) (hown : s.vm.findClass RX8 = some m.cls) (hts : ∀ w ∈ v_f_X8_note, w.before #[Value.ref a_, Value.int p1, Value.int p2] s = true) (hK : va_K E.1 vwCl (TY E) s) (hN : NX s) {A : Nat → Prop} (hA : ∀ q : Nat, s.heap.size ≤ q → A q) {n_now : Nat → Int32} (hr : meth.sig.returnType = none) (hlocks : meth.locks = false) (hQ : Q = MQ below (va_Qv (fun (_u : Unit) => True) (fun (_u : Unit) tt => va_P E.1 vwCl (w_X8_note E a_ a_tape a_readPlace a_script a_scriptLong a_now a_refused a_shareX a_shareY a_askedRow a_kept a_aside a_spelled a_image c_thrown c_taped c_at c_part c_partFrom c_partNumber c_wrong c_partWord c_readLaw c_readBound c_readGoal c_readSites c_scripts c_sites c_asked c_outcome c_took c_acts c_drawn c_racer c_raced c_spelledMany c_hasImage n_now) tt.heap ∧ va_D A (w_X8_note E a_ a_tape a_readPlace a_script a_scriptLong a_now a_refused a_shareX a_shareY a_askedRow a_kept a_aside a_spelled a_image c_thrown c_taped c_at c_part c_partFrom c_partNumber c_wrong c_partWord c_readLaw c_readBound c_readGoal c_readSites c_scripts c_sites c_asked c_outcome c_took c_acts c_drawn c_racer c_raced c_spelledMany c_hasImage n_now)) A) #[Value.ref a_, Value.int p1, Value.int p2] s 0 0 A) (hF : J_X8_note_58 p1 p2 c_took c_now = some n_now) : ∀ (H : Heap) (locs : List Loc) (ls : Array Slot), va_P E.1 vwCl (w_X8_note E a_ a_tape a_readPlace a_script a_scriptLong a_now a_refused a_shareX a_shareY a_askedRow a_kept a_aside a_spelled a_image c_thrown c_taped c_at c_part c_partFrom c_partNumber c_wrong c_partWord c_readLaw c_readBound c_readGoal c_readSites c_scripts c_sites c_asked c_outcome c_took c_acts c_drawn c_racer c_raced c_spelledMany c_hasImage c_now) H → va_D A (w_X8_note E a_ a_tape a_readPlace a_script a_scriptLong a_now a_refused a_shareX a_shareY a_askedRow a_kept a_aside a_spelled a_image c_thrown c_taped c_at c_part c_partFrom c_partNumber c_wrong c_partWord c_readLaw c_readBound c_readGoal c_readSites c_scripts c_sites c_asked c_outcome c_took c_acts c_drawn c_racer c_raced c_spelledMany c_hasImage c_now) → va_S A s.heap H locs → lv_has ls 4 [(0, .ref a_), (1, .int p1), (2, .int p2)] → W p l e ({ frames := 0, cells := 0, slots := 0, locals := 0 } : Room) s m #[Value.ref a_, Value.int p1, Value.int p2] below meth c H locs 0 0 Q (F0 m 58 ls []) := by
  unfold J_X8_note_58 at hF
  intro H locs ls hP hD hS hl
  replace hP : va_P E.1 vwCl [(a_, .inr (9, [.int c_thrown, .ref a_tape, .int c_taped, .int c_at, .int c_part, .int c_partFrom, .int c_partNumber, .int c_wrong, .long c_partWord, .int c_readLaw, .int c_readBound, .int c_readGoal, .int c_readSites, .ref a_readPlace, .ref a_script, .ref a_scriptLong, .int c_scripts, .ref a_now, .ref a_refused, .int c_sites, .ref a_shareX, .ref a_shareY, .int c_asked, .int c_outcome, .ref a_askedRow, .int c_took, .ref a_kept, .int c_acts, .long c_drawn, .ref a_aside, .int c_racer, .int c_raced, .ref a_spelled, .int c_spelledMany, .ref a_image, .int c_hasImage])), (a_now, .inl (E.2.1, 265, .inl c_now))] H := hP
  replace hD : va_D A [(a_, .inr (9, [.int c_thrown, .ref a_tape, .int c_taped, .int c_at, .int c_part, .int c_partFrom, .int c_partNumber, .int c_wrong, .long c_partWord, .int c_readLaw, .int c_readBound, .int c_readGoal, .int c_readSites, .ref a_readPlace, .ref a_script, .ref a_scriptLong, .int c_scripts, .ref a_now, .ref a_refused, .int c_sites, .ref a_shareX, .ref a_shareY, .int c_asked, .int c_outcome, .ref a_askedRow, .int c_took, .ref a_kept, .int c_acts, .long c_drawn, .ref a_aside, .int c_racer, .int c_raced, .ref a_spelled, .int c_spelledMany, .ref a_image, .int c_hasImage])), (a_now, .inl (E.2.1, 265, .inl c_now))] := hD
  refine lv_bipush (v := 85) hx hb dX8_note_58 (by decide) ?_
  refine lv_iconst (v := 3) hx hb dX8_note_60 (by decide) ?_
  refine lv_aload_n hx hb dX8_note_61 rfl (lv_at hl 0 rfl) ?_
  refine gt_X8_17 (v := .ref a_now) hx hb hts i_f_X8_note_X8 hown hK hP 0 rfl (hts (.fieldLink RX8 22 "HushWatchModel" "now" "[I") (List.mem_of_getElem? (i := 1) rfl)) rfl dX8_note_62 ?_
  refine lv_bipush (v := 84) hx hb dX8_note_65 (by decide) ?_
  refine va_iald hx hb hK hP 1 0 rfl rfl (vin rfl) dX8_note_67 ?_
  refine W.eq (g2 := F0 m 68 ls [.int (c_now 84), .int (3 : Int32), .int (85 : Int32)]) rfl ?_
  refine lv_imul hx hb dX8_note_68 ?_
  refine lv_iadd hx hb dX8_note_69 ?_
  refine lv_istore_n (lv' := [(3, .int ((85 : Int32) + ((3 : Int32) * (c_now 84)))), (0, .ref a_), (1, .int p1), (2, .int p2)]) hx hb dX8_note_70 rfl hl (by decide) rfl (fun ls hl => ?_)
  refine lv_aload_n hx hb dX8_note_71 rfl (lv_at hl 1 rfl) ?_
  refine gt_X8_17 (v := .ref a_now) hx hb hts i_f_X8_note_X8 hown hK hP 0 rfl (hts (.fieldLink RX8 22 "HushWatchModel" "now" "[I") (List.mem_of_getElem? (i := 1) rfl)) rfl dX8_note_72 ?_
  refine lv_iload_n hx hb dX8_note_75 rfl (lv_at hl 0 rfl) ?_
  refine lv_iload_n hx hb dX8_note_76 rfl (lv_at hl 2 rfl) ?_
  replace hF := ix_s hF
  obtain ⟨hi_2, hF⟩ := hF
  refine va_iast hx hb hK hP hD hS 1 0 rfl rfl hi_2 dX8_note_77 (fun H locs hP hD hS => ?_)
  replace hP : va_P E.1 vwCl [(a_, .inr (9, [.int c_thrown, .ref a_tape, .int c_taped, .int c_at, .int c_part, .int c_partFrom, .int c_partNumber, .int c_wrong, .long c_partWord, .int c_readLaw, .int c_readBound, .int c_readGoal, .int c_readSites, .ref a_readPlace, .ref a_script, .ref a_scriptLong, .int c_scripts, .ref a_now, .ref a_refused, .int c_sites, .ref a_shareX, .ref a_shareY, .int c_asked, .int c_outcome, .ref a_askedRow, .int c_took, .ref a_kept, .int c_acts, .long c_drawn, .ref a_aside, .int c_racer, .int c_raced, .ref a_spelled, .int c_spelledMany, .ref a_image, .int c_hasImage])), (a_now, .inl (E.2.1, 265, .inl (upd c_now ((85 : Int32) + ((3 : Int32) * (c_now 84))).toNatClampNeg p1)))] H := hP
  replace hD : va_D A [(a_, .inr (9, [.int c_thrown, .ref a_tape, .int c_taped, .int c_at, .int c_part, .int c_partFrom, .int c_partNumber, .int c_wrong, .long c_partWord, .int c_readLaw, .int c_readBound, .int c_readGoal, .int c_readSites, .ref a_readPlace, .ref a_script, .ref a_scriptLong, .int c_scripts, .ref a_now, .ref a_refused, .int c_sites, .ref a_shareX, .ref a_shareY, .int c_asked, .int c_outcome, .ref a_askedRow, .int c_took, .ref a_kept, .int c_acts, .long c_drawn, .ref a_aside, .int c_racer, .int c_raced, .ref a_spelled, .int c_spelledMany, .ref a_image, .int c_hasImage])), (a_now, .inl (E.2.1, 265, .inl (upd c_now ((85 : Int32) + ((3 : Int32) * (c_now 84))).toNatClampNeg p1)))] := hD
  replace hF := nm_s hF
  obtain ⟨f_3, hf_3, hF⟩ := hF
  rw [← hf_3] at hP hD
  refine lv_aload_n hx hb dX8_note_78 rfl (lv_at hl 1 rfl) ?_
  refine gt_X8_17 (v := .ref a_now) hx hb hts i_f_X8_note_X8 hown hK hP 0 rfl (hts (.fieldLink RX8 22 "HushWatchModel" "now" "[I") (List.mem_of_getElem? (i := 1) rfl)) rfl dX8_note_79 ?_
  refine lv_iload_n hx hb dX8_note_82 rfl (lv_at hl 0 rfl) ?_
  refine lv_iconst (v := 1) hx hb dX8_note_83 (by decide) ?_
  refine lv_iadd hx hb dX8_note_84 ?_
  refine lv_iload_n hx hb dX8_note_85 rfl (lv_at hl 3 rfl) ?_
  replace hF := ix_s hF
  obtain ⟨hi_4, hF⟩ := hF
  refine va_iast hx hb hK hP hD hS 1 0 rfl rfl hi_4 dX8_note_86 (fun H locs hP hD hS => ?_)
  replace hP : va_P E.1 vwCl [(a_, .inr (9, [.int c_thrown, .ref a_tape, .int c_taped, .int c_at, .int c_part, .int c_partFrom, .int c_partNumber, .int c_wrong, .long c_partWord, .int c_readLaw, .int c_readBound, .int c_readGoal, .int c_readSites, .ref a_readPlace, .ref a_script, .ref a_scriptLong, .int c_scripts, .ref a_now, .ref a_refused, .int c_sites, .ref a_shareX, .ref a_shareY, .int c_asked, .int c_outcome, .ref a_askedRow, .int c_took, .ref a_kept, .int c_acts, .long c_drawn, .ref a_aside, .int c_racer, .int c_raced, .ref a_spelled, .int c_spelledMany, .ref a_image, .int c_hasImage])), (a_now, .inl (E.2.1, 265, .inl (upd f_3 (((85 : Int32) + ((3 : Int32) * (c_now 84))) + (1 : Int32)).toNatClampNeg p2)))] H := hP
  replace hD : va_D A [(a_, .inr (9, [.int c_thrown, .ref a_tape, .int c_taped, .int c_at, .int c_part, .int c_partFrom, .int c_partNumber, .int c_wrong, .long c_partWord, .int c_readLaw, .int c_readBound, .int c_readGoal, .int c_readSites, .ref a_readPlace, .ref a_script, .ref a_scriptLong, .int c_scripts, .ref a_now, .ref a_refused, .int c_sites, .ref a_shareX, .ref a_shareY, .int c_asked, .int c_outcome, .ref a_askedRow, .int c_took, .ref a_kept, .int c_acts, .long c_drawn, .ref a_aside, .int c_racer, .int c_raced, .ref a_spelled, .int c_spelledMany, .ref a_image, .int c_hasImage])), (a_now, .inl (E.2.1, 265, .inl (upd f_3 (((85 : Int32) + ((3 : Int32) * (c_now 84))) + (1 : Int32)).toNatClampNeg p2)))] := hD
  replace hF := nm_s hF
  obtain ⟨f_5, hf_5, hF⟩ := hF
  rw [← hf_5] at hP hD
  refine lv_aload_n hx hb dX8_note_87 rfl (lv_at hl 1 rfl) ?_
  refine gt_X8_17 (v := .ref a_now) hx hb hts i_f_X8_note_X8 hown hK hP 0 rfl (hts (.fieldLink RX8 22 "HushWatchModel" "now" "[I") (List.mem_of_getElem? (i := 1) rfl)) rfl dX8_note_88 ?_
  refine lv_iload_n hx hb dX8_note_91 rfl (lv_at hl 0 rfl) ?_
  refine lv_iconst (v := 2) hx hb dX8_note_92 (by decide) ?_
  refine lv_iadd hx hb dX8_note_93 ?_
  refine lv_aload_n hx hb dX8_note_94 rfl (lv_at hl 1 rfl) ?_
  refine gt_X8_25 (v := .int c_took) hx hb hts i_f_X8_note_X8 hown hK hP 0 rfl (hts (.fieldLink RX8 316 "HushWatchModel" "took" "I") (List.mem_of_getElem? (i := 2) rfl)) rfl dX8_note_95 ?_
  replace hF := ix_s hF
  obtain ⟨hi_6, hF⟩ := hF
  refine va_iast hx hb hK hP hD hS 1 0 rfl rfl hi_6 dX8_note_98 (fun H locs hP hD hS => ?_)
  replace hP : va_P E.1 vwCl [(a_, .inr (9, [.int c_thrown, .ref a_tape, .int c_taped, .int c_at, .int c_part, .int c_partFrom, .int c_partNumber, .int c_wrong, .long c_partWord, .int c_readLaw, .int c_readBound, .int c_readGoal, .int c_readSites, .ref a_readPlace, .ref a_script, .ref a_scriptLong, .int c_scripts, .ref a_now, .ref a_refused, .int c_sites, .ref a_shareX, .ref a_shareY, .int c_asked, .int c_outcome, .ref a_askedRow, .int c_took, .ref a_kept, .int c_acts, .long c_drawn, .ref a_aside, .int c_racer, .int c_raced, .ref a_spelled, .int c_spelledMany, .ref a_image, .int c_hasImage])), (a_now, .inl (E.2.1, 265, .inl (upd f_5 (((85 : Int32) + ((3 : Int32) * (c_now 84))) + (2 : Int32)).toNatClampNeg c_took)))] H := hP
  replace hD : va_D A [(a_, .inr (9, [.int c_thrown, .ref a_tape, .int c_taped, .int c_at, .int c_part, .int c_partFrom, .int c_partNumber, .int c_wrong, .long c_partWord, .int c_readLaw, .int c_readBound, .int c_readGoal, .int c_readSites, .ref a_readPlace, .ref a_script, .ref a_scriptLong, .int c_scripts, .ref a_now, .ref a_refused, .int c_sites, .ref a_shareX, .ref a_shareY, .int c_asked, .int c_outcome, .ref a_askedRow, .int c_took, .ref a_kept, .int c_acts, .long c_drawn, .ref a_aside, .int c_racer, .int c_raced, .ref a_spelled, .int c_spelledMany, .ref a_image, .int c_hasImage])), (a_now, .inl (E.2.1, 265, .inl (upd f_5 (((85 : Int32) + ((3 : Int32) * (c_now 84))) + (2 : Int32)).toNatClampNeg c_took)))] := hD
  replace hF := nm_s hF
  obtain ⟨f_7, hf_7, hF⟩ := hF
  rw [← hf_7] at hP hD
  refine lv_aload_n hx hb dX8_note_99 rfl (lv_at hl 1 rfl) ?_
  refine gt_X8_17 (v := .ref a_now) hx hb hts i_f_X8_note_X8 hown hK hP 0 rfl (hts (.fieldLink RX8 22 "HushWatchModel" "now" "[I") (List.mem_of_getElem? (i := 1) rfl)) rfl dX8_note_100 ?_
  refine lv_bipush (v := 84) hx hb dX8_note_103 (by decide) ?_
  refine lv_dup2_11 hx hb dX8_note_105 rfl rfl ?_
  refine va_iald hx hb hK hP 1 0 rfl rfl (vin rfl) dX8_note_106 ?_
  refine W.eq (g2 := F0 m 107 ls [.int (f_7 84), .int (84 : Int32), .ref a_now]) rfl ?_
  refine lv_iconst (v := 1) hx hb dX8_note_107 (by decide) ?_
  refine lv_iadd hx hb dX8_note_108 ?_
  refine va_iast hx hb hK hP hD hS 1 0 rfl rfl (vin rfl) dX8_note_109 (fun H locs hP hD hS => ?_)
  replace hP : va_P E.1 vwCl [(a_, .inr (9, [.int c_thrown, .ref a_tape, .int c_taped, .int c_at, .int c_part, .int c_partFrom, .int c_partNumber, .int c_wrong, .long c_partWord, .int c_readLaw, .int c_readBound, .int c_readGoal, .int c_readSites, .ref a_readPlace, .ref a_script, .ref a_scriptLong, .int c_scripts, .ref a_now, .ref a_refused, .int c_sites, .ref a_shareX, .ref a_shareY, .int c_asked, .int c_outcome, .ref a_askedRow, .int c_took, .ref a_kept, .int c_acts, .long c_drawn, .ref a_aside, .int c_racer, .int c_raced, .ref a_spelled, .int c_spelledMany, .ref a_image, .int c_hasImage])), (a_now, .inl (E.2.1, 265, .inl (upd f_7 84 ((f_7 84) + (1 : Int32)))))] H := hP
  replace hD : va_D A [(a_, .inr (9, [.int c_thrown, .ref a_tape, .int c_taped, .int c_at, .int c_part, .int c_partFrom, .int c_partNumber, .int c_wrong, .long c_partWord, .int c_readLaw, .int c_readBound, .int c_readGoal, .int c_readSites, .ref a_readPlace, .ref a_script, .ref a_scriptLong, .int c_scripts, .ref a_now, .ref a_refused, .int c_sites, .ref a_shareX, .ref a_shareY, .int c_asked, .int c_outcome, .ref a_askedRow, .int c_took, .ref a_kept, .int c_acts, .long c_drawn, .ref a_aside, .int c_racer, .int c_raced, .ref a_spelled, .int c_spelledMany, .ref a_image, .int c_hasImage])), (a_now, .inl (E.2.1, 265, .inl (upd f_7 84 ((f_7 84) + (1 : Int32)))))] := hD
  replace hF := nm_s hF
  obtain ⟨f_8, hf_8, hF⟩ := hF
  rw [← hf_8] at hP hD
  rw [hQ]
  have h9 := fin9 (P := fun u9 : (Nat → Int32) => va_P E.1 vwCl (w_X8_note E a_ a_tape a_readPlace a_script a_scriptLong a_now a_refused a_shareX a_shareY a_askedRow a_kept a_aside a_spelled a_image c_thrown c_taped c_at c_part c_partFrom c_partNumber c_wrong c_partWord c_readLaw c_readBound c_readGoal c_readSites c_scripts c_sites c_asked c_outcome c_took c_acts c_drawn c_racer c_raced c_spelledMany c_hasImage u9) H ∧ va_D A (w_X8_note E a_ a_tape a_readPlace a_script a_scriptLong a_now a_refused a_shareX a_shareY a_askedRow a_kept a_aside a_spelled a_image c_thrown c_taped c_at c_part c_partFrom c_partNumber c_wrong c_partWord c_readLaw c_readBound c_readGoal c_readSites c_scripts c_sites c_asked c_outcome c_took c_acts c_drawn c_racer c_raced c_spelledMany c_hasImage u9)) hF ⟨hP, hD⟩
  obtain ⟨hP9, hD9⟩ := h9
  exact W.vret hx hb hr (fun tt ht hW => ⟨⟨(), rfl, trivial, ht ▸ hP9, hD9⟩, hS.F ht⟩) hS.2.2 dX8_note_110

set_option maxHeartbeats 4000000 in
set_option maxRecDepth 100000 in
theorem wb_X8_note_14 {p : Program} (l : Launch) {e : Env} {s : State} {m : MethodId} {below : List Frame} {meth : Method} {c : Code} {Q : State → Prop} (E : EE) (K : Nat) {a_ a_tape a_readPlace a_script a_scriptLong a_now a_refused a_shareX a_shareY a_askedRow a_kept a_aside a_spelled a_image : Nat} {p1 : Int32} {p2 : Int32} {c_thrown : Int32} {c_taped : Int32} {c_at : Int32} {c_part : Int32} {c_partFrom : Int32} {c_partNumber : Int32} {c_wrong : Int32} {c_partWord : Int64} {c_readLaw : Int32} {c_readBound : Int32} {c_readGoal : Int32} {c_readSites : Int32} {c_scripts : Int32} {c_sites : Int32} {c_asked : Int32} {c_outcome : Int32} {c_took : Int32} {c_acts : Int32} {c_drawn : Int64} {c_racer : Int32} {c_raced : Int32} {c_spelledMany : Int32} {c_hasImage : Int32} {x3 : Int32} {c_now : Nat → Int32} (hx : p.tables.exec = Jvm.exec) (hb : c.code = cX8_note) (hml : c.maxLocals = 4) (hown : s.vm.findClass RX8 = some m.cls) (hts : ∀ w ∈ v_f_X8_note, w.before #[Value.ref a_, Value.int p1, Value.int p2] s = true) (hK : va_K E.1 vwCl (TY E) s) (hN : NX s) {A : Nat → Prop} (hA : ∀ q : Nat, s.heap.size ≤ q → A q) {xx : (Int32 × (Nat → Int32)) ⊕ ((Nat → Int32))} (hC : ∀ (x3 : Int32), ∀ (c_now : Nat → Int32), xx = .inl (x3, c_now) → ∀ (H : Heap) (locs : List Loc) (ls : Array Slot), va_P E.1 vwCl (w_X8_note E a_ a_tape a_readPlace a_script a_scriptLong a_now a_refused a_shareX a_shareY a_askedRow a_kept a_aside a_spelled a_image c_thrown c_taped c_at c_part c_partFrom c_partNumber c_wrong c_partWord c_readLaw c_readBound c_readGoal c_readSites c_scripts c_sites c_asked c_outcome c_took c_acts c_drawn c_racer c_raced c_spelledMany c_hasImage c_now) H → va_D A (w_X8_note E a_ a_tape a_readPlace a_script a_scriptLong a_now a_refused a_shareX a_shareY a_askedRow a_kept a_aside a_spelled a_image c_thrown c_taped c_at c_part c_partFrom c_partNumber c_wrong c_partWord c_readLaw c_readBound c_readGoal c_readSites c_scripts c_sites c_asked c_outcome c_took c_acts c_drawn c_racer c_raced c_spelledMany c_hasImage c_now) → va_S A s.heap H locs → lv_has ls 4 [(0, .ref a_), (1, .int p1), (2, .int p2), (3, .int x3)] → W p l e ({ frames := 0, cells := 0, slots := 0, locals := 0 } : Room) s m #[Value.ref a_, Value.int p1, Value.int p2] below meth c H locs 0 0 Q (F0 m 14 ls [])) (hE : ∀ (c_now : Nat → Int32), xx = .inr c_now → ((∀ (H : Heap) (locs : List Loc) (ls : Array Slot), va_P E.1 vwCl (w_X8_note E a_ a_tape a_readPlace a_script a_scriptLong a_now a_refused a_shareX a_shareY a_askedRow a_kept a_aside a_spelled a_image c_thrown c_taped c_at c_part c_partFrom c_partNumber c_wrong c_partWord c_readLaw c_readBound c_readGoal c_readSites c_scripts c_sites c_asked c_outcome c_took c_acts c_drawn c_racer c_raced c_spelledMany c_hasImage c_now) H → va_D A (w_X8_note E a_ a_tape a_readPlace a_script a_scriptLong a_now a_refused a_shareX a_shareY a_askedRow a_kept a_aside a_spelled a_image c_thrown c_taped c_at c_part c_partFrom c_partNumber c_wrong c_partWord c_readLaw c_readBound c_readGoal c_readSites c_scripts c_sites c_asked c_outcome c_took c_acts c_drawn c_racer c_raced c_spelledMany c_hasImage c_now) → va_S A s.heap H locs → lv_has ls 4 [(0, .ref a_), (1, .int p1), (2, .int p2)] → W p l e ({ frames := 0, cells := 0, slots := 0, locals := 0 } : Room) s m #[Value.ref a_, Value.int p1, Value.int p2] below meth c H locs 0 0 Q (F0 m 47 ls [])))) (hF : B_X8_note_14  x3 c_now = some xx) : ∀ (H : Heap) (locs : List Loc) (ls : Array Slot), va_P E.1 vwCl (w_X8_note E a_ a_tape a_readPlace a_script a_scriptLong a_now a_refused a_shareX a_shareY a_askedRow a_kept a_aside a_spelled a_image c_thrown c_taped c_at c_part c_partFrom c_partNumber c_wrong c_partWord c_readLaw c_readBound c_readGoal c_readSites c_scripts c_sites c_asked c_outcome c_took c_acts c_drawn c_racer c_raced c_spelledMany c_hasImage c_now) H → va_D A (w_X8_note E a_ a_tape a_readPlace a_script a_scriptLong a_now a_refused a_shareX a_shareY a_askedRow a_kept a_aside a_spelled a_image c_thrown c_taped c_at c_part c_partFrom c_partNumber c_wrong c_partWord c_readLaw c_readBound c_readGoal c_readSites c_scripts c_sites c_asked c_outcome c_took c_acts c_drawn c_racer c_raced c_spelledMany c_hasImage c_now) → va_S A s.heap H locs → lv_has ls 4 [(0, .ref a_), (1, .int p1), (2, .int p2), (3, .int x3)] → W p l e ({ frames := 0, cells := 0, slots := 0, locals := 0 } : Room) s m #[Value.ref a_, Value.int p1, Value.int p2] below meth c H locs 0 0 Q (F0 m 14 ls []) := by
  unfold B_X8_note_14 at hF
  intro H locs ls hP hD hS hl
  replace hP : va_P E.1 vwCl [(a_, .inr (9, [.int c_thrown, .ref a_tape, .int c_taped, .int c_at, .int c_part, .int c_partFrom, .int c_partNumber, .int c_wrong, .long c_partWord, .int c_readLaw, .int c_readBound, .int c_readGoal, .int c_readSites, .ref a_readPlace, .ref a_script, .ref a_scriptLong, .int c_scripts, .ref a_now, .ref a_refused, .int c_sites, .ref a_shareX, .ref a_shareY, .int c_asked, .int c_outcome, .ref a_askedRow, .int c_took, .ref a_kept, .int c_acts, .long c_drawn, .ref a_aside, .int c_racer, .int c_raced, .ref a_spelled, .int c_spelledMany, .ref a_image, .int c_hasImage])), (a_now, .inl (E.2.1, 265, .inl c_now))] H := hP
  replace hD : va_D A [(a_, .inr (9, [.int c_thrown, .ref a_tape, .int c_taped, .int c_at, .int c_part, .int c_partFrom, .int c_partNumber, .int c_wrong, .long c_partWord, .int c_readLaw, .int c_readBound, .int c_readGoal, .int c_readSites, .ref a_readPlace, .ref a_script, .ref a_scriptLong, .int c_scripts, .ref a_now, .ref a_refused, .int c_sites, .ref a_shareX, .ref a_shareY, .int c_asked, .int c_outcome, .ref a_askedRow, .int c_took, .ref a_kept, .int c_acts, .long c_drawn, .ref a_aside, .int c_racer, .int c_raced, .ref a_spelled, .int c_spelledMany, .ref a_image, .int c_hasImage])), (a_now, .inl (E.2.1, 265, .inl c_now))] := hD
  refine lv_iload_n hx hb dX8_note_14 rfl (lv_at hl 3 rfl) ?_
  refine lv_sipush (v := 180) hx hb dX8_note_15 (by decide) ?_
  refine lv_icmp_ge (tgt := 47) hx hb dX8_note_18 (by decide) (fun c_9 => ?_) (fun c_9 => ?_)
  ·
    replace hF := ip c_9 hF
    cases hF
    exact hE c_now rfl H locs ls (hP.sub [0, 1] rfl) (hD.sub [0, 1] (by decide) rfl) hS (lv_sub hl [0, 1, 2] rfl)
  ·
    replace hF := inn c_9 hF
    refine lv_aload_n hx hb dX8_note_21 rfl (lv_at hl 0 rfl) ?_
    refine gt_X8_17 (v := .ref a_now) hx hb hts i_f_X8_note_X8 hown hK hP 0 rfl (hts (.fieldLink RX8 22 "HushWatchModel" "now" "[I") (List.mem_of_getElem? (i := 1) rfl)) rfl dX8_note_22 ?_
    refine lv_bipush (v := 85) hx hb dX8_note_25 (by decide) ?_
    refine lv_iload_n hx hb dX8_note_27 rfl (lv_at hl 3 rfl) ?_
    refine lv_iadd hx hb dX8_note_28 ?_
    refine lv_iconst (v := 3) hx hb dX8_note_29 (by decide) ?_
    refine lv_isub hx hb dX8_note_30 ?_
    refine lv_aload_n hx hb dX8_note_31 rfl (lv_at hl 0 rfl) ?_
    refine gt_X8_17 (v := .ref a_now) hx hb hts i_f_X8_note_X8 hown hK hP 0 rfl (hts (.fieldLink RX8 22 "HushWatchModel" "now" "[I") (List.mem_of_getElem? (i := 1) rfl)) rfl dX8_note_32 ?_
    refine lv_bipush (v := 85) hx hb dX8_note_35 (by decide) ?_
    refine lv_iload_n hx hb dX8_note_37 rfl (lv_at hl 3 rfl) ?_
    refine lv_iadd hx hb dX8_note_38 ?_
    replace hF := ix_s hF
    obtain ⟨hi_10, hF⟩ := hF
    refine va_iald hx hb hK hP 1 0 rfl rfl hi_10 dX8_note_39 ?_
    replace hF := ix_s hF
    obtain ⟨hi_11, hF⟩ := hF
    refine va_iast hx hb hK hP hD hS 1 0 rfl rfl hi_11 dX8_note_40 (fun H locs hP hD hS => ?_)
    replace hP : va_P E.1 vwCl [(a_, .inr (9, [.int c_thrown, .ref a_tape, .int c_taped, .int c_at, .int c_part, .int c_partFrom, .int c_partNumber, .int c_wrong, .long c_partWord, .int c_readLaw, .int c_readBound, .int c_readGoal, .int c_readSites, .ref a_readPlace, .ref a_script, .ref a_scriptLong, .int c_scripts, .ref a_now, .ref a_refused, .int c_sites, .ref a_shareX, .ref a_shareY, .int c_asked, .int c_outcome, .ref a_askedRow, .int c_took, .ref a_kept, .int c_acts, .long c_drawn, .ref a_aside, .int c_racer, .int c_raced, .ref a_spelled, .int c_spelledMany, .ref a_image, .int c_hasImage])), (a_now, .inl (E.2.1, 265, .inl (upd c_now (((85 : Int32) + x3) - (3 : Int32)).toNatClampNeg (c_now ((85 : Int32) + x3).toNatClampNeg))))] H := hP
    replace hD : va_D A [(a_, .inr (9, [.int c_thrown, .ref a_tape, .int c_taped, .int c_at, .int c_part, .int c_partFrom, .int c_partNumber, .int c_wrong, .long c_partWord, .int c_readLaw, .int c_readBound, .int c_readGoal, .int c_readSites, .ref a_readPlace, .ref a_script, .ref a_scriptLong, .int c_scripts, .ref a_now, .ref a_refused, .int c_sites, .ref a_shareX, .ref a_shareY, .int c_asked, .int c_outcome, .ref a_askedRow, .int c_took, .ref a_kept, .int c_acts, .long c_drawn, .ref a_aside, .int c_racer, .int c_raced, .ref a_spelled, .int c_spelledMany, .ref a_image, .int c_hasImage])), (a_now, .inl (E.2.1, 265, .inl (upd c_now (((85 : Int32) + x3) - (3 : Int32)).toNatClampNeg (c_now ((85 : Int32) + x3).toNatClampNeg))))] := hD
    replace hF := nm_s hF
    obtain ⟨f_12, hf_12, hF⟩ := hF
    rw [← hf_12] at hP hD
    refine lv_iinc (v := x3 + (1 : Int32)) (lv' := [(3, .int (x3 + (1 : Int32))), (0, .ref a_), (1, .int p1), (2, .int p2)]) hx hb dX8_note_41 hl (k := 3) rfl (rfl) (by decide) rfl (fun ls hl => ?_)
    refine lv_goto (tgt := 14) hx hb dX8_note_44 (by decide) ?_
    cases hF
    exact hC (x3 + (1 : Int32)) f_12 rfl H locs ls (hP.sub [0, 1] rfl) (hD.sub [0, 1] (by decide) rfl) hS (lv_sub hl [1, 2, 3, 0] rfl)

set_option maxHeartbeats 4000000 in
set_option maxRecDepth 100000 in
theorem lw_X8_note_14 {p : Program} (l : Launch) {e : Env} {s : State} {m : MethodId} {below : List Frame} {meth : Method} {c : Code} {Q : State → Prop} (E : EE) (K : Nat) {a_ a_tape a_readPlace a_script a_scriptLong a_now a_refused a_shareX a_shareY a_askedRow a_kept a_aside a_spelled a_image : Nat} {p1 : Int32} {p2 : Int32} {c_thrown : Int32} {c_taped : Int32} {c_at : Int32} {c_part : Int32} {c_partFrom : Int32} {c_partNumber : Int32} {c_wrong : Int32} {c_partWord : Int64} {c_readLaw : Int32} {c_readBound : Int32} {c_readGoal : Int32} {c_readSites : Int32} {c_scripts : Int32} {c_sites : Int32} {c_asked : Int32} {c_outcome : Int32} {c_took : Int32} {c_acts : Int32} {c_drawn : Int64} {c_racer : Int32} {c_raced : Int32} {c_spelledMany : Int32} {c_hasImage : Int32} (hx : p.tables.exec = Jvm.exec) (hb : c.code = cX8_note) (hml : c.maxLocals = 4) (hown : s.vm.findClass RX8 = some m.cls) (hts : ∀ w ∈ v_f_X8_note, w.before #[Value.ref a_, Value.int p1, Value.int p2] s = true) (hK : va_K E.1 vwCl (TY E) s) (hN : NX s) {A : Nat → Prop} (hA : ∀ q : Nat, s.heap.size ≤ q → A q) (j9 : Nat) (x3 : Int32) (c_now : Nat → Int32) (c_now' : Nat → Int32) (hL : lpF (fun u9 : Int32 × (Nat → Int32) => B_X8_note_14  u9.1 u9.2) j9 (x3, c_now) = some c_now') (hX : (∀ (H : Heap) (locs : List Loc) (ls : Array Slot), va_P E.1 vwCl (w_X8_note E a_ a_tape a_readPlace a_script a_scriptLong a_now a_refused a_shareX a_shareY a_askedRow a_kept a_aside a_spelled a_image c_thrown c_taped c_at c_part c_partFrom c_partNumber c_wrong c_partWord c_readLaw c_readBound c_readGoal c_readSites c_scripts c_sites c_asked c_outcome c_took c_acts c_drawn c_racer c_raced c_spelledMany c_hasImage c_now') H → va_D A (w_X8_note E a_ a_tape a_readPlace a_script a_scriptLong a_now a_refused a_shareX a_shareY a_askedRow a_kept a_aside a_spelled a_image c_thrown c_taped c_at c_part c_partFrom c_partNumber c_wrong c_partWord c_readLaw c_readBound c_readGoal c_readSites c_scripts c_sites c_asked c_outcome c_took c_acts c_drawn c_racer c_raced c_spelledMany c_hasImage c_now') → va_S A s.heap H locs → lv_has ls 4 [(0, .ref a_), (1, .int p1), (2, .int p2)] → W p l e ({ frames := 0, cells := 0, slots := 0, locals := 0 } : Room) s m #[Value.ref a_, Value.int p1, Value.int p2] below meth c H locs 0 0 Q (F0 m 47 ls []))) : ∀ (H : Heap) (locs : List Loc) (ls : Array Slot), va_P E.1 vwCl (w_X8_note E a_ a_tape a_readPlace a_script a_scriptLong a_now a_refused a_shareX a_shareY a_askedRow a_kept a_aside a_spelled a_image c_thrown c_taped c_at c_part c_partFrom c_partNumber c_wrong c_partWord c_readLaw c_readBound c_readGoal c_readSites c_scripts c_sites c_asked c_outcome c_took c_acts c_drawn c_racer c_raced c_spelledMany c_hasImage c_now) H → va_D A (w_X8_note E a_ a_tape a_readPlace a_script a_scriptLong a_now a_refused a_shareX a_shareY a_askedRow a_kept a_aside a_spelled a_image c_thrown c_taped c_at c_part c_partFrom c_partNumber c_wrong c_partWord c_readLaw c_readBound c_readGoal c_readSites c_scripts c_sites c_asked c_outcome c_took c_acts c_drawn c_racer c_raced c_spelledMany c_hasImage c_now) → va_S A s.heap H locs → lv_has ls 4 [(0, .ref a_), (1, .int p1), (2, .int p2), (3, .int x3)] → W p l e ({ frames := 0, cells := 0, slots := 0, locals := 0 } : Room) s m #[Value.ref a_, Value.int p1, Value.int p2] below meth c H locs 0 0 Q (F0 m 14 ls []) := by
  exact lp_rule (P := (fun u9 : Int32 × (Nat → Int32) => ∀ (H : Heap) (locs : List Loc) (ls : Array Slot), va_P E.1 vwCl (w_X8_note E a_ a_tape a_readPlace a_script a_scriptLong a_now a_refused a_shareX a_shareY a_askedRow a_kept a_aside a_spelled a_image c_thrown c_taped c_at c_part c_partFrom c_partNumber c_wrong c_partWord c_readLaw c_readBound c_readGoal c_readSites c_scripts c_sites c_asked c_outcome c_took c_acts c_drawn c_racer c_raced c_spelledMany c_hasImage u9.2) H → va_D A (w_X8_note E a_ a_tape a_readPlace a_script a_scriptLong a_now a_refused a_shareX a_shareY a_askedRow a_kept a_aside a_spelled a_image c_thrown c_taped c_at c_part c_partFrom c_partNumber c_wrong c_partWord c_readLaw c_readBound c_readGoal c_readSites c_scripts c_sites c_asked c_outcome c_took c_acts c_drawn c_racer c_raced c_spelledMany c_hasImage u9.2) → va_S A s.heap H locs → lv_has ls 4 [(0, .ref a_), (1, .int p1), (2, .int p2), (3, .int u9.1)] → W p l e ({ frames := 0, cells := 0, slots := 0, locals := 0 } : Room) s m #[Value.ref a_, Value.int p1, Value.int p2] below meth c H locs 0 0 Q (F0 m 14 ls []))) (R := (fun r9 : (Nat → Int32) => (∀ (H : Heap) (locs : List Loc) (ls : Array Slot), va_P E.1 vwCl (w_X8_note E a_ a_tape a_readPlace a_script a_scriptLong a_now a_refused a_shareX a_shareY a_askedRow a_kept a_aside a_spelled a_image c_thrown c_taped c_at c_part c_partFrom c_partNumber c_wrong c_partWord c_readLaw c_readBound c_readGoal c_readSites c_scripts c_sites c_asked c_outcome c_took c_acts c_drawn c_racer c_raced c_spelledMany c_hasImage r9) H → va_D A (w_X8_note E a_ a_tape a_readPlace a_script a_scriptLong a_now a_refused a_shareX a_shareY a_askedRow a_kept a_aside a_spelled a_image c_thrown c_taped c_at c_part c_partFrom c_partNumber c_wrong c_partWord c_readLaw c_readBound c_readGoal c_readSites c_scripts c_sites c_asked c_outcome c_took c_acts c_drawn c_racer c_raced c_spelledMany c_hasImage r9) → va_S A s.heap H locs → lv_has ls 4 [(0, .ref a_), (1, .int p1), (2, .int p2)] → W p l e ({ frames := 0, cells := 0, slots := 0, locals := 0 } : Room) s m #[Value.ref a_, Value.int p1, Value.int p2] below meth c H locs 0 0 Q (F0 m 47 ls [])))) (fun u9 xx hF hC hE => wb_X8_note_14 l E K (p1 := p1) (p2 := p2) (c_thrown := c_thrown) (c_taped := c_taped) (c_at := c_at) (c_part := c_part) (c_partFrom := c_partFrom) (c_partNumber := c_partNumber) (c_wrong := c_wrong) (c_partWord := c_partWord) (c_readLaw := c_readLaw) (c_readBound := c_readBound) (c_readGoal := c_readGoal) (c_readSites := c_readSites) (c_scripts := c_scripts) (c_sites := c_sites) (c_asked := c_asked) (c_outcome := c_outcome) (c_took := c_took) (c_acts := c_acts) (c_drawn := c_drawn) (c_racer := c_racer) (c_raced := c_raced) (c_spelledMany := c_spelledMany) (c_hasImage := c_hasImage) (x3 := u9.1) (c_now := u9.2) hx hb hml hown hts hK hN hA (fun x3 c_now q9 => hC _ q9) (fun c_now q9 => hE _ q9) hF) j9 (x3, c_now) c_now' hL hX

set_option maxHeartbeats 4000000 in
set_option maxRecDepth 100000 in
theorem f_X8_note (l : Launch) (E : EE) (sz : Nat) (K : Nat) {a_ a_tape a_readPlace a_script a_scriptLong a_now a_refused a_shareX a_shareY a_askedRow a_kept a_aside a_spelled a_image : Nat} {p1 : Int32} {p2 : Int32} {c_thrown : Int32} {c_taped : Int32} {c_at : Int32} {c_part : Int32} {c_partFrom : Int32} {c_partNumber : Int32} {c_wrong : Int32} {c_partWord : Int64} {c_readLaw : Int32} {c_readBound : Int32} {c_readGoal : Int32} {c_readSites : Int32} {c_scripts : Int32} {c_sites : Int32} {c_asked : Int32} {c_outcome : Int32} {c_took : Int32} {c_acts : Int32} {c_drawn : Int64} {c_racer : Int32} {c_raced : Int32} {c_spelledMany : Int32} {c_hasImage : Int32} {c_now : Nat → Int32} {n_now : Nat → Int32} (hF : F_X8_note K p1 p2 c_now c_took = some n_now) : Met l yX8_note v_f_X8_note (({ frames := 0, cells := 0, slots := 0, locals := 0 } : Room)) (va_Pc [.ref a_, .int p1, .int p2] (pW E sz (w_X8_note E a_ a_tape a_readPlace a_script a_scriptLong a_now a_refused a_shareX a_shareY a_askedRow a_kept a_aside a_spelled a_image c_thrown c_taped c_at c_part c_partFrom c_partNumber c_wrong c_partWord c_readLaw c_readBound c_readGoal c_readSites c_scripts c_sites c_asked c_outcome c_took c_acts c_drawn c_racer c_raced c_spelledMany c_hasImage c_now))) (va_Qv (fun (_u : Unit) => True) (fun (_u : Unit) tt => va_P E.1 vwCl (w_X8_note E a_ a_tape a_readPlace a_script a_scriptLong a_now a_refused a_shareX a_shareY a_askedRow a_kept a_aside a_spelled a_image c_thrown c_taped c_at c_part c_partFrom c_partNumber c_wrong c_partWord c_readLaw c_readBound c_readGoal c_readSites c_scripts c_sites c_asked c_outcome c_took c_acts c_drawn c_racer c_raced c_spelledMany c_hasImage n_now) tt.heap ∧ va_D (va_A (w_X8_note E a_ a_tape a_readPlace a_script a_scriptLong a_now a_refused a_shareX a_shareY a_askedRow a_kept a_aside a_spelled a_image c_thrown c_taped c_at c_part c_partFrom c_partNumber c_wrong c_partWord c_readLaw c_readBound c_readGoal c_readSites c_scripts c_sites c_asked c_outcome c_took c_acts c_drawn c_racer c_raced c_spelledMany c_hasImage c_now) sz) (w_X8_note E a_ a_tape a_readPlace a_script a_scriptLong a_now a_refused a_shareX a_shareY a_askedRow a_kept a_aside a_spelled a_image c_thrown c_taped c_at c_part c_partFrom c_partNumber c_wrong c_partWord c_readLaw c_readBound c_readGoal c_readSites c_scripts c_sites c_asked c_outcome c_took c_acts c_drawn c_racer c_raced c_spelledMany c_hasImage n_now)) (va_A (w_X8_note E a_ a_tape a_readPlace a_script a_scriptLong a_now a_refused a_shareX a_shareY a_askedRow a_kept a_aside a_spelled a_image c_thrown c_taped c_at c_part c_partFrom c_partNumber c_wrong c_partWord c_readLaw c_readBound c_readGoal c_readSites c_scripts c_sites c_asked c_outcome c_took c_acts c_drawn c_racer c_raced c_spelledMany c_hasImage c_now) sz)) 0 0 (va_A (w_X8_note E a_ a_tape a_readPlace a_script a_scriptLong a_now a_refused a_shareX a_shareY a_askedRow a_kept a_aside a_spelled a_image c_thrown c_taped c_at c_part c_partFrom c_partNumber c_wrong c_partWord c_readLaw c_readBound c_readGoal c_readSites c_scripts c_sites c_asked c_outcome c_took c_acts c_drawn c_racer c_raced c_spelledMany c_hasImage c_now) sz) := by
  refine Met.ofW (cc := cX8_note) (maxL := 4) (ret := none) (by decide) rfl ?_
  intro p e s m args below meth c s₁ B hml hv
  obtain ⟨rfl, hsz, ⟨hK, hN⟩, hP, hD0⟩ := hv
  have hx := B.exec
  have hb := B.bytes
  have hr := B.returns
  have hts := atoms_spec (ws := v_f_X8_note) B.pre
  have hown : s.vm.findClass RX8 = some m.cls := own_of hd_X8_note.1 (findClass_of_methodNamed B.named)
  have hlocks : meth.locks = false := B.notSynchronized
  subst hsz
  have hD := hD0.self (sz := s.heap.size)
  generalize hAe : va_A (w_X8_note E a_ a_tape a_readPlace a_script a_scriptLong a_now a_refused a_shareX a_shareY a_askedRow a_kept a_aside a_spelled a_image c_thrown c_taped c_at c_part c_partFrom c_partNumber c_wrong c_partWord c_readLaw c_readBound c_readGoal c_readSites c_scripts c_sites c_asked c_outcome c_took c_acts c_drawn c_racer c_raced c_spelledMany c_hasImage c_now) s.heap.size = A at hD ⊢
  have hA : ∀ q : Nat, s.heap.size ≤ q → A q := fun q h => by rw [← hAe]; exact Or.inr h
  have hS : va_S A s.heap s.heap [] := va_S.rf
  have hl := lv_entry ([.ref a_, .int p1, .int p2]) (n := 4) (Nat.le_of_ble_eq_true rfl)
  rw [lg_entry_eq]
  generalize (lg_sl ([.ref a_, .int p1, .int p2]) ++ List.replicate (4 - (lg_sl ([.ref a_, .int p1, .int p2])).length) Slot.unset).toArray = ls at hl ⊢
  have hl : lv_has ls 4 [(0, .ref a_), (1, .int p1), (2, .int p2)] := hl
  obtain ⟨Q, hQ⟩ : ∃ Q : State → Prop, Q = MQ below (va_Qv (fun (_u : Unit) => True) (fun (_u : Unit) tt => va_P E.1 vwCl (w_X8_note E a_ a_tape a_readPlace a_script a_scriptLong a_now a_refused a_shareX a_shareY a_askedRow a_kept a_aside a_spelled a_image c_thrown c_taped c_at c_part c_partFrom c_partNumber c_wrong c_partWord c_readLaw c_readBound c_readGoal c_readSites c_scripts c_sites c_asked c_outcome c_took c_acts c_drawn c_racer c_raced c_spelledMany c_hasImage n_now) tt.heap ∧ va_D A (w_X8_note E a_ a_tape a_readPlace a_script a_scriptLong a_now a_refused a_shareX a_shareY a_askedRow a_kept a_aside a_spelled a_image c_thrown c_taped c_at c_part c_partFrom c_partNumber c_wrong c_partWord c_readLaw c_readBound c_readGoal c_readSites c_scripts c_sites c_asked c_outcome c_took c_acts c_drawn c_racer c_raced c_spelledMany c_hasImage n_now)) A) #[Value.ref a_, Value.int p1, Value.int p2] s 0 0 A := ⟨_, rfl⟩
  rw [← hQ]
  change W p l e ({ frames := 0, cells := 0, slots := 0, locals := 0 } : Room) s m #[Value.ref a_, Value.int p1, Value.int p2] below meth c s.heap [] 0 0 Q (F0 m 0 ls [])
  suffices hh9 : ∀ (H : Heap) (locs : List Loc), va_P E.1 vwCl (w_X8_note E a_ a_tape a_readPlace a_script a_scriptLong a_now a_refused a_shareX a_shareY a_askedRow a_kept a_aside a_spelled a_image c_thrown c_taped c_at c_part c_partFrom c_partNumber c_wrong c_partWord c_readLaw c_readBound c_readGoal c_readSites c_scripts c_sites c_asked c_outcome c_took c_acts c_drawn c_racer c_raced c_spelledMany c_hasImage c_now) H → va_D A (w_X8_note E a_ a_tape a_readPlace a_script a_scriptLong a_now a_refused a_shareX a_shareY a_askedRow a_kept a_aside a_spelled a_image c_thrown c_taped c_at c_part c_partFrom c_partNumber c_wrong c_partWord c_readLaw c_readBound c_readGoal c_readSites c_scripts c_sites c_asked c_outcome c_took c_acts c_drawn c_racer c_raced c_spelledMany c_hasImage c_now) → va_S A s.heap H locs → W p l e ({ frames := 0, cells := 0, slots := 0, locals := 0 } : Room) s m #[Value.ref a_, Value.int p1, Value.int p2] below meth c H locs 0 0 Q (F0 m 0 ls []) from hh9 s.heap [] hP hD hS
  clear hP hD hS
  intro H locs hP hD hS
  replace hP : va_P E.1 vwCl [(a_, .inr (9, [.int c_thrown, .ref a_tape, .int c_taped, .int c_at, .int c_part, .int c_partFrom, .int c_partNumber, .int c_wrong, .long c_partWord, .int c_readLaw, .int c_readBound, .int c_readGoal, .int c_readSites, .ref a_readPlace, .ref a_script, .ref a_scriptLong, .int c_scripts, .ref a_now, .ref a_refused, .int c_sites, .ref a_shareX, .ref a_shareY, .int c_asked, .int c_outcome, .ref a_askedRow, .int c_took, .ref a_kept, .int c_acts, .long c_drawn, .ref a_aside, .int c_racer, .int c_raced, .ref a_spelled, .int c_spelledMany, .ref a_image, .int c_hasImage])), (a_now, .inl (E.2.1, 265, .inl c_now))] H := hP
  replace hD : va_D A [(a_, .inr (9, [.int c_thrown, .ref a_tape, .int c_taped, .int c_at, .int c_part, .int c_partFrom, .int c_partNumber, .int c_wrong, .long c_partWord, .int c_readLaw, .int c_readBound, .int c_readGoal, .int c_readSites, .ref a_readPlace, .ref a_script, .ref a_scriptLong, .int c_scripts, .ref a_now, .ref a_refused, .int c_sites, .ref a_shareX, .ref a_shareY, .int c_asked, .int c_outcome, .ref a_askedRow, .int c_took, .ref a_kept, .int c_acts, .long c_drawn, .ref a_aside, .int c_racer, .int c_raced, .ref a_spelled, .int c_spelledMany, .ref a_image, .int c_hasImage])), (a_now, .inl (E.2.1, 265, .inl c_now))] := hD
  unfold F_X8_note at hF
  refine lv_aload_n hx hb dX8_note_0 rfl (lv_at hl 0 rfl) ?_
  refine gt_X8_17 (v := .ref a_now) hx hb hts i_f_X8_note_X8 hown hK hP 0 rfl (hts (.fieldLink RX8 22 "HushWatchModel" "now" "[I") (List.mem_of_getElem? (i := 1) rfl)) rfl dX8_note_1 ?_
  refine lv_bipush (v := 84) hx hb dX8_note_4 (by decide) ?_
  refine va_iald hx hb hK hP 1 0 rfl rfl (vin rfl) dX8_note_6 ?_
  refine W.eq (g2 := F0 m 7 ls [.int (c_now 84)]) rfl ?_
  refine lv_bipush (v := 60) hx hb dX8_note_7 (by decide) ?_
  refine lv_icmp_ne (tgt := 58) hx hb dX8_note_9 (by decide) (fun c_1 => ?_) (fun c_1 => ?_)
  ·
    replace hF := inn c_1 hF
    exact j_X8_note_58 l E K (p1 := p1) (p2 := p2) (c_thrown := c_thrown) (c_taped := c_taped) (c_at := c_at) (c_part := c_part) (c_partFrom := c_partFrom) (c_partNumber := c_partNumber) (c_wrong := c_wrong) (c_partWord := c_partWord) (c_readLaw := c_readLaw) (c_readBound := c_readBound) (c_readGoal := c_readGoal) (c_readSites := c_readSites) (c_scripts := c_scripts) (c_sites := c_sites) (c_asked := c_asked) (c_outcome := c_outcome) (c_took := c_took) (c_acts := c_acts) (c_drawn := c_drawn) (c_racer := c_racer) (c_raced := c_raced) (c_spelledMany := c_spelledMany) (c_hasImage := c_hasImage) (c_now := c_now) hx hb hml hown hts hK hN hA hr hlocks hQ hF H locs ls (hP.sub [0, 1] rfl) (hD.sub [0, 1] (by decide) rfl) hS (lv_sub hl [0, 1, 2] rfl)
  ·
    replace hF := ip c_1 hF
    refine lv_iconst (v := 3) hx hb dX8_note_12 (by decide) ?_
    refine lv_istore_n (lv' := [(3, .int (3 : Int32)), (0, .ref a_), (1, .int p1), (2, .int p2)]) hx hb dX8_note_13 rfl hl (by decide) rfl (fun ls hl => ?_)
    replace hF := bd1_s hF
    obtain ⟨c_now_13, hL_14, hF⟩ := hF
    refine lw_X8_note_14 l E K (p1 := p1) (p2 := p2) (c_thrown := c_thrown) (c_taped := c_taped) (c_at := c_at) (c_part := c_part) (c_partFrom := c_partFrom) (c_partNumber := c_partNumber) (c_wrong := c_wrong) (c_partWord := c_partWord) (c_readLaw := c_readLaw) (c_readBound := c_readBound) (c_readGoal := c_readGoal) (c_readSites := c_readSites) (c_scripts := c_scripts) (c_sites := c_sites) (c_asked := c_asked) (c_outcome := c_outcome) (c_took := c_took) (c_acts := c_acts) (c_drawn := c_drawn) (c_racer := c_racer) (c_raced := c_raced) (c_spelledMany := c_spelledMany) (c_hasImage := c_hasImage) hx hb hml hown hts hK hN hA K (3 : Int32) c_now c_now_13 hL_14 ?_ H locs ls (hP.sub [0, 1] rfl) (hD.sub [0, 1] (by decide) rfl) hS (lv_sub hl [1, 2, 3, 0] rfl)
    ·
      intro H locs ls hP hD hS hl
      replace hP : va_P E.1 vwCl [(a_, .inr (9, [.int c_thrown, .ref a_tape, .int c_taped, .int c_at, .int c_part, .int c_partFrom, .int c_partNumber, .int c_wrong, .long c_partWord, .int c_readLaw, .int c_readBound, .int c_readGoal, .int c_readSites, .ref a_readPlace, .ref a_script, .ref a_scriptLong, .int c_scripts, .ref a_now, .ref a_refused, .int c_sites, .ref a_shareX, .ref a_shareY, .int c_asked, .int c_outcome, .ref a_askedRow, .int c_took, .ref a_kept, .int c_acts, .long c_drawn, .ref a_aside, .int c_racer, .int c_raced, .ref a_spelled, .int c_spelledMany, .ref a_image, .int c_hasImage])), (a_now, .inl (E.2.1, 265, .inl c_now_13))] H := hP
      replace hD : va_D A [(a_, .inr (9, [.int c_thrown, .ref a_tape, .int c_taped, .int c_at, .int c_part, .int c_partFrom, .int c_partNumber, .int c_wrong, .long c_partWord, .int c_readLaw, .int c_readBound, .int c_readGoal, .int c_readSites, .ref a_readPlace, .ref a_script, .ref a_scriptLong, .int c_scripts, .ref a_now, .ref a_refused, .int c_sites, .ref a_shareX, .ref a_shareY, .int c_asked, .int c_outcome, .ref a_askedRow, .int c_took, .ref a_kept, .int c_acts, .long c_drawn, .ref a_aside, .int c_racer, .int c_raced, .ref a_spelled, .int c_spelledMany, .ref a_image, .int c_hasImage])), (a_now, .inl (E.2.1, 265, .inl c_now_13))] := hD
      refine lv_aload_n hx hb dX8_note_47 rfl (lv_at hl 0 rfl) ?_
      refine gt_X8_17 (v := .ref a_now) hx hb hts i_f_X8_note_X8 hown hK hP 0 rfl (hts (.fieldLink RX8 22 "HushWatchModel" "now" "[I") (List.mem_of_getElem? (i := 1) rfl)) rfl dX8_note_48 ?_
      refine lv_bipush (v := 84) hx hb dX8_note_51 (by decide) ?_
      refine lv_dup2_11 hx hb dX8_note_53 rfl rfl ?_
      refine va_iald hx hb hK hP 1 0 rfl rfl (vin rfl) dX8_note_54 ?_
      refine W.eq (g2 := F0 m 55 ls [.int (c_now_13 84), .int (84 : Int32), .ref a_now]) rfl ?_
      refine lv_iconst (v := 1) hx hb dX8_note_55 (by decide) ?_
      refine lv_isub hx hb dX8_note_56 ?_
      refine va_iast hx hb hK hP hD hS 1 0 rfl rfl (vin rfl) dX8_note_57 (fun H locs hP hD hS => ?_)
      replace hP : va_P E.1 vwCl [(a_, .inr (9, [.int c_thrown, .ref a_tape, .int c_taped, .int c_at, .int c_part, .int c_partFrom, .int c_partNumber, .int c_wrong, .long c_partWord, .int c_readLaw, .int c_readBound, .int c_readGoal, .int c_readSites, .ref a_readPlace, .ref a_script, .ref a_scriptLong, .int c_scripts, .ref a_now, .ref a_refused, .int c_sites, .ref a_shareX, .ref a_shareY, .int c_asked, .int c_outcome, .ref a_askedRow, .int c_took, .ref a_kept, .int c_acts, .long c_drawn, .ref a_aside, .int c_racer, .int c_raced, .ref a_spelled, .int c_spelledMany, .ref a_image, .int c_hasImage])), (a_now, .inl (E.2.1, 265, .inl (upd c_now_13 84 ((c_now_13 84) - (1 : Int32)))))] H := hP
      replace hD : va_D A [(a_, .inr (9, [.int c_thrown, .ref a_tape, .int c_taped, .int c_at, .int c_part, .int c_partFrom, .int c_partNumber, .int c_wrong, .long c_partWord, .int c_readLaw, .int c_readBound, .int c_readGoal, .int c_readSites, .ref a_readPlace, .ref a_script, .ref a_scriptLong, .int c_scripts, .ref a_now, .ref a_refused, .int c_sites, .ref a_shareX, .ref a_shareY, .int c_asked, .int c_outcome, .ref a_askedRow, .int c_took, .ref a_kept, .int c_acts, .long c_drawn, .ref a_aside, .int c_racer, .int c_raced, .ref a_spelled, .int c_spelledMany, .ref a_image, .int c_hasImage])), (a_now, .inl (E.2.1, 265, .inl (upd c_now_13 84 ((c_now_13 84) - (1 : Int32)))))] := hD
      replace hF := nm_s hF
      obtain ⟨f_15, hf_15, hF⟩ := hF
      rw [← hf_15] at hP hD
      exact j_X8_note_58 l E K (p1 := p1) (p2 := p2) (c_thrown := c_thrown) (c_taped := c_taped) (c_at := c_at) (c_part := c_part) (c_partFrom := c_partFrom) (c_partNumber := c_partNumber) (c_wrong := c_wrong) (c_partWord := c_partWord) (c_readLaw := c_readLaw) (c_readBound := c_readBound) (c_readGoal := c_readGoal) (c_readSites := c_readSites) (c_scripts := c_scripts) (c_sites := c_sites) (c_asked := c_asked) (c_outcome := c_outcome) (c_took := c_took) (c_acts := c_acts) (c_drawn := c_drawn) (c_racer := c_racer) (c_raced := c_raced) (c_spelledMany := c_spelledMany) (c_hasImage := c_hasImage) (c_now := f_15) hx hb hml hown hts hK hN hA hr hlocks hQ hF H locs ls (hP.sub [0, 1] rfl) (hD.sub [0, 1] (by decide) rfl) hS (lv_sub hl [0, 1, 2] rfl)

def F_X8_act (K : Nat) (p1 : Int32) (p2 : Int32) (p3 : Int32) (p4 : Int32) (c_now : Nat → Int32) (c_sites : Int32) (c_shareX : Nat → Int32) (c_shareY : Nat → Int32) (c_asked : Int32) (c_outcome : Int32) (c_askedRow : Nat → Int32) (c_took : Int32) (c_kept : Nat → Int32) (c_acts : Int32) : Option (Int32 × (Nat → Int32) × (Nat → Int32) × (Nat → Int32) × Int32 × Int32 × (Nat → Int32) × Int32 × (Nat → Int32) × Int32) :=
  bd2 (F_X8_keep K c_now c_kept c_acts) (fun w_1 w_2 => bd8 (F_X8_doNow K p1 p2 p3 p4 c_now c_sites c_shareX c_shareY c_asked c_outcome c_askedRow c_took) (fun r_4 w_5 w_6 w_7 w_8 w_9 w_10 w_11 => if p1 = (1 : Int32) then bd1 (F_X8_note K p1 (-1 : Int32) w_5 w_11) (fun w_16 => some (r_4, w_16, w_6, w_7, w_8, w_9, w_10, w_11, w_1, w_2)) else bd1 (F_X8_note K p1 p2 w_5 w_11) (fun w_14 => some (r_4, w_14, w_6, w_7, w_8, w_9, w_10, w_11, w_1, w_2))))
abbrev w_X8_act (E : EE) (a_ a_tape a_readPlace a_script a_scriptLong a_now a_refused a_shareX a_shareY a_askedRow a_kept a_aside a_spelled a_image : Nat) (c_thrown : Int32) (c_taped : Int32) (c_at : Int32) (c_part : Int32) (c_partFrom : Int32) (c_partNumber : Int32) (c_wrong : Int32) (c_partWord : Int64) (c_readLaw : Int32) (c_readBound : Int32) (c_readGoal : Int32) (c_readSites : Int32) (c_scripts : Int32) (c_sites : Int32) (c_asked : Int32) (c_outcome : Int32) (c_took : Int32) (c_acts : Int32) (c_drawn : Int64) (c_racer : Int32) (c_raced : Int32) (c_spelledMany : Int32) (c_hasImage : Int32) (c_now : Nat → Int32) (c_shareX : Nat → Int32) (c_shareY : Nat → Int32) (c_askedRow : Nat → Int32) (c_kept : Nat → Int32) : va_W := [(a_, .inr (9, [.int c_thrown, .ref a_tape, .int c_taped, .int c_at, .int c_part, .int c_partFrom, .int c_partNumber, .int c_wrong, .long c_partWord, .int c_readLaw, .int c_readBound, .int c_readGoal, .int c_readSites, .ref a_readPlace, .ref a_script, .ref a_scriptLong, .int c_scripts, .ref a_now, .ref a_refused, .int c_sites, .ref a_shareX, .ref a_shareY, .int c_asked, .int c_outcome, .ref a_askedRow, .int c_took, .ref a_kept, .int c_acts, .long c_drawn, .ref a_aside, .int c_racer, .int c_raced, .ref a_spelled, .int c_spelledMany, .ref a_image, .int c_hasImage])), (a_now, .inl (E.2.1, 265, .inl c_now)), (a_shareX, .inl (E.2.1, 8, .inl c_shareX)), (a_shareY, .inl (E.2.1, 8, .inl c_shareY)), (a_askedRow, .inl (E.2.1, 8, .inl c_askedRow)), (a_kept, .inl (E.2.1, 10600, .inl c_kept))]
def v_f_X8_act : List Cond := List.cons (.code yX8_act cX8_act 6 (some .int)) (HAppend.hAppend (α := List Cond) (β := List Cond) (γ := List Cond) [.methodLink RX8 334 yX8_keep, .instanceMethod yX8_keep, .selects RX8 yX8_keep yX8_keep, .initialized RX8, .methodLink RX8 337 yX8_doNow, .instanceMethod yX8_doNow, .selects RX8 yX8_doNow yX8_doNow, .methodLink RX8 340 yX8_note, .instanceMethod yX8_note, .selects RX8 yX8_note yX8_note] (HAppend.hAppend (α := List Cond) (β := List Cond) (γ := List Cond) v_f_X8_keep (HAppend.hAppend (α := List Cond) (β := List Cond) (γ := List Cond) v_f_X8_doNow (HAppend.hAppend (α := List Cond) (β := List Cond) (γ := List Cond) v_f_X8_note []))))
theorem gw_f_X8_act : v_f_X8_act.all goodWord = true := by decide +kernel
theorem g_f_X8_act_f_X8_keep_334 : GoodIn v_f_X8_act (wsV RX8 334 RX8 yX8_keep v_f_X8_keep) := goodIn_app (goodIn_of _ (by decide +kernel)) (goodIn_sub (fun _ h => List.mem_cons_of_mem _ (List.mem_append_right _ (List.mem_append_left _ h))) gw_f_X8_keep)
theorem g_f_X8_act_f_X8_doNow_337 : GoodIn v_f_X8_act (wsV RX8 337 RX8 yX8_doNow v_f_X8_doNow) := goodIn_app (goodIn_of _ (by decide +kernel)) (goodIn_sub (fun _ h => List.mem_cons_of_mem _ (List.mem_append_right _ (List.mem_append_right _ (List.mem_append_left _ h)))) gw_f_X8_doNow)
theorem g_f_X8_act_f_X8_note_340 : GoodIn v_f_X8_act (wsV RX8 340 RX8 yX8_note v_f_X8_note) := goodIn_app (goodIn_of _ (by decide +kernel)) (goodIn_sub (fun _ h => List.mem_cons_of_mem _ (List.mem_append_right _ (List.mem_append_right _ (List.mem_append_right _ (List.mem_append_left _ h))))) gw_f_X8_note)
theorem hd_X8_act : yX8_act.cls = RX8 ∧ yX8_act.cls ≠ "java/lang/invoke/MethodHandle" ∧ yX8_act.cls ≠ "java/lang/invoke/VarHandle" ∧ (parseMethodDescriptor yX8_act.desc).map (fun d => d.parameters.length) = some 4 := by decide +kernel
set_option maxHeartbeats 4000000 in
set_option maxRecDepth 100000 in
theorem f_X8_act (l : Launch) (E : EE) (sz : Nat) (K : Nat) {a_ a_tape a_readPlace a_script a_scriptLong a_now a_refused a_shareX a_shareY a_askedRow a_kept a_aside a_spelled a_image : Nat} {p1 : Int32} {p2 : Int32} {p3 : Int32} {p4 : Int32} {c_thrown : Int32} {c_taped : Int32} {c_at : Int32} {c_part : Int32} {c_partFrom : Int32} {c_partNumber : Int32} {c_wrong : Int32} {c_partWord : Int64} {c_readLaw : Int32} {c_readBound : Int32} {c_readGoal : Int32} {c_readSites : Int32} {c_scripts : Int32} {c_sites : Int32} {c_asked : Int32} {c_outcome : Int32} {c_took : Int32} {c_acts : Int32} {c_drawn : Int64} {c_racer : Int32} {c_raced : Int32} {c_spelledMany : Int32} {c_hasImage : Int32} {c_now : Nat → Int32} {c_shareX : Nat → Int32} {c_shareY : Nat → Int32} {c_askedRow : Nat → Int32} {c_kept : Nat → Int32} {rr : Int32} {n_now : Nat → Int32} {n_shareX : Nat → Int32} {n_shareY : Nat → Int32} {n_asked : Int32} {n_outcome : Int32} {n_askedRow : Nat → Int32} {n_took : Int32} {n_kept : Nat → Int32} {n_acts : Int32} (hF : F_X8_act K p1 p2 p3 p4 c_now c_sites c_shareX c_shareY c_asked c_outcome c_askedRow c_took c_kept c_acts = some (rr, n_now, n_shareX, n_shareY, n_asked, n_outcome, n_askedRow, n_took, n_kept, n_acts)) : Met l yX8_act v_f_X8_act (({ frames := 8, cells := 0, slots := 0, locals := 190 } : Room)) (va_Pc [.ref a_, .int p1, .int p2, .int p3, .int p4] (pW E sz (w_X8_act E a_ a_tape a_readPlace a_script a_scriptLong a_now a_refused a_shareX a_shareY a_askedRow a_kept a_aside a_spelled a_image c_thrown c_taped c_at c_part c_partFrom c_partNumber c_wrong c_partWord c_readLaw c_readBound c_readGoal c_readSites c_scripts c_sites c_asked c_outcome c_took c_acts c_drawn c_racer c_raced c_spelledMany c_hasImage c_now c_shareX c_shareY c_askedRow c_kept))) (va_Qi (fun (q : Int32) (_u : Unit) => q = rr) (fun (_u : Unit) tt => va_P E.1 vwCl (w_X8_act E a_ a_tape a_readPlace a_script a_scriptLong a_now a_refused a_shareX a_shareY a_askedRow a_kept a_aside a_spelled a_image c_thrown c_taped c_at c_part c_partFrom c_partNumber c_wrong c_partWord c_readLaw c_readBound c_readGoal c_readSites c_scripts c_sites n_asked n_outcome n_took n_acts c_drawn c_racer c_raced c_spelledMany c_hasImage n_now n_shareX n_shareY n_askedRow n_kept) tt.heap ∧ va_D (va_A (w_X8_act E a_ a_tape a_readPlace a_script a_scriptLong a_now a_refused a_shareX a_shareY a_askedRow a_kept a_aside a_spelled a_image c_thrown c_taped c_at c_part c_partFrom c_partNumber c_wrong c_partWord c_readLaw c_readBound c_readGoal c_readSites c_scripts c_sites c_asked c_outcome c_took c_acts c_drawn c_racer c_raced c_spelledMany c_hasImage c_now c_shareX c_shareY c_askedRow c_kept) sz) (w_X8_act E a_ a_tape a_readPlace a_script a_scriptLong a_now a_refused a_shareX a_shareY a_askedRow a_kept a_aside a_spelled a_image c_thrown c_taped c_at c_part c_partFrom c_partNumber c_wrong c_partWord c_readLaw c_readBound c_readGoal c_readSites c_scripts c_sites n_asked n_outcome n_took n_acts c_drawn c_racer c_raced c_spelledMany c_hasImage n_now n_shareX n_shareY n_askedRow n_kept)) (va_A (w_X8_act E a_ a_tape a_readPlace a_script a_scriptLong a_now a_refused a_shareX a_shareY a_askedRow a_kept a_aside a_spelled a_image c_thrown c_taped c_at c_part c_partFrom c_partNumber c_wrong c_partWord c_readLaw c_readBound c_readGoal c_readSites c_scripts c_sites c_asked c_outcome c_took c_acts c_drawn c_racer c_raced c_spelledMany c_hasImage c_now c_shareX c_shareY c_askedRow c_kept) sz)) 0 0 (va_A (w_X8_act E a_ a_tape a_readPlace a_script a_scriptLong a_now a_refused a_shareX a_shareY a_askedRow a_kept a_aside a_spelled a_image c_thrown c_taped c_at c_part c_partFrom c_partNumber c_wrong c_partWord c_readLaw c_readBound c_readGoal c_readSites c_scripts c_sites c_asked c_outcome c_took c_acts c_drawn c_racer c_raced c_spelledMany c_hasImage c_now c_shareX c_shareY c_askedRow c_kept) sz) := by
  refine Met.ofW (cc := cX8_act) (maxL := 6) (ret := (some .int)) (by decide) rfl ?_
  intro p e s m args below meth c s₁ B hml hv
  obtain ⟨rfl, hsz, ⟨hK, hN⟩, hP, hD0⟩ := hv
  have hx := B.exec
  have hb := B.bytes
  have hr := B.returns
  have hts := atoms_spec (ws := v_f_X8_act) B.pre
  have hown : s.vm.findClass RX8 = some m.cls := own_of hd_X8_act.1 (findClass_of_methodNamed B.named)
  have hlocks : meth.locks = false := B.notSynchronized
  subst hsz
  have hD := hD0.self (sz := s.heap.size)
  generalize hAe : va_A (w_X8_act E a_ a_tape a_readPlace a_script a_scriptLong a_now a_refused a_shareX a_shareY a_askedRow a_kept a_aside a_spelled a_image c_thrown c_taped c_at c_part c_partFrom c_partNumber c_wrong c_partWord c_readLaw c_readBound c_readGoal c_readSites c_scripts c_sites c_asked c_outcome c_took c_acts c_drawn c_racer c_raced c_spelledMany c_hasImage c_now c_shareX c_shareY c_askedRow c_kept) s.heap.size = A at hD ⊢
  have hA : ∀ q : Nat, s.heap.size ≤ q → A q := fun q h => by rw [← hAe]; exact Or.inr h
  have hS : va_S A s.heap s.heap [] := va_S.rf
  have hl := lv_entry ([.ref a_, .int p1, .int p2, .int p3, .int p4]) (n := 6) (Nat.le_of_ble_eq_true rfl)
  rw [lg_entry_eq]
  generalize (lg_sl ([.ref a_, .int p1, .int p2, .int p3, .int p4]) ++ List.replicate (6 - (lg_sl ([.ref a_, .int p1, .int p2, .int p3, .int p4])).length) Slot.unset).toArray = ls at hl ⊢
  have hl : lv_has ls 6 [(0, .ref a_), (1, .int p1), (2, .int p2), (3, .int p3), (4, .int p4)] := hl
  obtain ⟨Q, hQ⟩ : ∃ Q : State → Prop, Q = MQ below (va_Qi (fun (q : Int32) (_u : Unit) => q = rr) (fun (_u : Unit) tt => va_P E.1 vwCl (w_X8_act E a_ a_tape a_readPlace a_script a_scriptLong a_now a_refused a_shareX a_shareY a_askedRow a_kept a_aside a_spelled a_image c_thrown c_taped c_at c_part c_partFrom c_partNumber c_wrong c_partWord c_readLaw c_readBound c_readGoal c_readSites c_scripts c_sites n_asked n_outcome n_took n_acts c_drawn c_racer c_raced c_spelledMany c_hasImage n_now n_shareX n_shareY n_askedRow n_kept) tt.heap ∧ va_D A (w_X8_act E a_ a_tape a_readPlace a_script a_scriptLong a_now a_refused a_shareX a_shareY a_askedRow a_kept a_aside a_spelled a_image c_thrown c_taped c_at c_part c_partFrom c_partNumber c_wrong c_partWord c_readLaw c_readBound c_readGoal c_readSites c_scripts c_sites n_asked n_outcome n_took n_acts c_drawn c_racer c_raced c_spelledMany c_hasImage n_now n_shareX n_shareY n_askedRow n_kept)) A) #[Value.ref a_, Value.int p1, Value.int p2, Value.int p3, Value.int p4] s 0 0 A := ⟨_, rfl⟩
  rw [← hQ]
  change W p l e ({ frames := 8, cells := 0, slots := 0, locals := 190 } : Room) s m #[Value.ref a_, Value.int p1, Value.int p2, Value.int p3, Value.int p4] below meth c s.heap [] 0 0 Q (F0 m 0 ls [])
  suffices hh9 : ∀ (H : Heap) (locs : List Loc), va_P E.1 vwCl (w_X8_act E a_ a_tape a_readPlace a_script a_scriptLong a_now a_refused a_shareX a_shareY a_askedRow a_kept a_aside a_spelled a_image c_thrown c_taped c_at c_part c_partFrom c_partNumber c_wrong c_partWord c_readLaw c_readBound c_readGoal c_readSites c_scripts c_sites c_asked c_outcome c_took c_acts c_drawn c_racer c_raced c_spelledMany c_hasImage c_now c_shareX c_shareY c_askedRow c_kept) H → va_D A (w_X8_act E a_ a_tape a_readPlace a_script a_scriptLong a_now a_refused a_shareX a_shareY a_askedRow a_kept a_aside a_spelled a_image c_thrown c_taped c_at c_part c_partFrom c_partNumber c_wrong c_partWord c_readLaw c_readBound c_readGoal c_readSites c_scripts c_sites c_asked c_outcome c_took c_acts c_drawn c_racer c_raced c_spelledMany c_hasImage c_now c_shareX c_shareY c_askedRow c_kept) → va_S A s.heap H locs → W p l e ({ frames := 8, cells := 0, slots := 0, locals := 190 } : Room) s m #[Value.ref a_, Value.int p1, Value.int p2, Value.int p3, Value.int p4] below meth c H locs 0 0 Q (F0 m 0 ls []) from hh9 s.heap [] hP hD hS
  clear hP hD hS
  intro H locs hP hD hS
  replace hP : va_P E.1 vwCl [(a_, .inr (9, [.int c_thrown, .ref a_tape, .int c_taped, .int c_at, .int c_part, .int c_partFrom, .int c_partNumber, .int c_wrong, .long c_partWord, .int c_readLaw, .int c_readBound, .int c_readGoal, .int c_readSites, .ref a_readPlace, .ref a_script, .ref a_scriptLong, .int c_scripts, .ref a_now, .ref a_refused, .int c_sites, .ref a_shareX, .ref a_shareY, .int c_asked, .int c_outcome, .ref a_askedRow, .int c_took, .ref a_kept, .int c_acts, .long c_drawn, .ref a_aside, .int c_racer, .int c_raced, .ref a_spelled, .int c_spelledMany, .ref a_image, .int c_hasImage])), (a_now, .inl (E.2.1, 265, .inl c_now)), (a_shareX, .inl (E.2.1, 8, .inl c_shareX)), (a_shareY, .inl (E.2.1, 8, .inl c_shareY)), (a_askedRow, .inl (E.2.1, 8, .inl c_askedRow)), (a_kept, .inl (E.2.1, 10600, .inl c_kept))] H := hP
  replace hD : va_D A [(a_, .inr (9, [.int c_thrown, .ref a_tape, .int c_taped, .int c_at, .int c_part, .int c_partFrom, .int c_partNumber, .int c_wrong, .long c_partWord, .int c_readLaw, .int c_readBound, .int c_readGoal, .int c_readSites, .ref a_readPlace, .ref a_script, .ref a_scriptLong, .int c_scripts, .ref a_now, .ref a_refused, .int c_sites, .ref a_shareX, .ref a_shareY, .int c_asked, .int c_outcome, .ref a_askedRow, .int c_took, .ref a_kept, .int c_acts, .long c_drawn, .ref a_aside, .int c_racer, .int c_raced, .ref a_spelled, .int c_spelledMany, .ref a_image, .int c_hasImage])), (a_now, .inl (E.2.1, 265, .inl c_now)), (a_shareX, .inl (E.2.1, 8, .inl c_shareX)), (a_shareY, .inl (E.2.1, 8, .inl c_shareY)), (a_askedRow, .inl (E.2.1, 8, .inl c_askedRow)), (a_kept, .inl (E.2.1, 10600, .inl c_kept))] := hD
  unfold F_X8_act at hF
  refine lv_aload_n hx hb dX8_act_0 rfl (lv_at hl 0 rfl) ?_
  replace hF := bd2_s hF
  obtain ⟨w_1, w_2, hc_3, hF⟩ := hF
  obtain ⟨hPc, hDc, hFc⟩ := wcut (wc := (w_X8_keep E a_ a_tape a_readPlace a_script a_scriptLong a_now a_refused a_shareX a_shareY a_askedRow a_kept a_aside a_spelled a_image c_thrown c_taped c_at c_part c_partFrom c_partNumber c_wrong c_partWord c_readLaw c_readBound c_readGoal c_readSites c_scripts c_sites c_asked c_outcome c_took c_acts c_drawn c_racer c_raced c_spelledMany c_hasImage c_now c_kept)) hP hD hS hA [0, 1, 5] (by decide) rfl
  have hrc := va_recv hK hPc (ci := 9) (q0 := 0) rfl rfl
  refine cE_v (wc := (w_X8_keep E a_ a_tape a_readPlace a_script a_scriptLong a_now a_refused a_shareX a_shareY a_askedRow a_kept a_aside a_spelled a_image c_thrown c_taped c_at c_part c_partFrom c_partNumber c_wrong c_partWord c_readLaw c_readBound c_readGoal c_readSites c_scripts c_sites c_asked c_outcome c_took c_acts c_drawn c_racer c_raced c_spelledMany c_hasImage c_now c_kept)) (wr := [(a_shareX, .inl (E.2.1, 8, .inl c_shareX)), (a_shareY, .inl (E.2.1, 8, .inl c_shareY)), (a_askedRow, .inl (E.2.1, 8, .inl c_askedRow))]) (w1 := (w_X8_keep E a_ a_tape a_readPlace a_script a_scriptLong a_now a_refused a_shareX a_shareY a_askedRow a_kept a_aside a_spelled a_image c_thrown c_taped c_at c_part c_partFrom c_partNumber c_wrong c_partWord c_readLaw c_readBound c_readGoal c_readSites c_scripts c_sites c_asked c_outcome c_took w_2 c_drawn c_racer c_raced c_spelledMany c_hasImage c_now w_1)) (va_runV (As := []) (rest := [])  ⟨hx, hb, hml, hown, hts⟩ (f_X8_keep l E H.size K (a_ := a_) (a_tape := a_tape) (a_readPlace := a_readPlace) (a_script := a_script) (a_scriptLong := a_scriptLong) (a_now := a_now) (a_refused := a_refused) (a_shareX := a_shareX) (a_shareY := a_shareY) (a_askedRow := a_askedRow) (a_kept := a_kept) (a_aside := a_aside) (a_spelled := a_spelled) (a_image := a_image) (c_thrown := c_thrown) (c_taped := c_taped) (c_at := c_at) (c_part := c_part) (c_partFrom := c_partFrom) (c_partNumber := c_partNumber) (c_wrong := c_wrong) (c_partWord := c_partWord) (c_readLaw := c_readLaw) (c_readBound := c_readBound) (c_readGoal := c_readGoal) (c_readSites := c_readSites) (c_scripts := c_scripts) (c_sites := c_sites) (c_asked := c_asked) (c_outcome := c_outcome) (c_took := c_took) (c_acts := c_acts) (c_drawn := c_drawn) (c_racer := c_racer) (c_raced := c_raced) (c_spelledMany := c_spelledMany) (c_hasImage := c_hasImage) (c_now := c_now) (c_kept := c_kept) hc_3) (cwV 0 hts g_f_X8_act_f_X8_keep_334 rfl rfl rfl hd_X8_keep ⟨Nat.le_of_ble_eq_true rfl, Nat.le_of_ble_eq_true rfl⟩) ⟨pW.blind, hrc, (pW.pre ⟨hK, hN⟩ hPc hDc)⟩ rfl rfl hl.1 rfl (lv_room (Nat.le_of_ble_eq_true rfl)) dX8_act_1 ⟨Nat.le_of_ble_eq_true rfl, Nat.le_of_ble_eq_true rfl⟩) hS hFc hP hD [0, 1, 5] [2, 3, 4] rfl rfl (by decide) (by decide) (fun H locs hP hD hS => ?_)
  replace hP : va_P E.1 vwCl [(a_shareX, .inl (E.2.1, 8, .inl c_shareX)), (a_shareY, .inl (E.2.1, 8, .inl c_shareY)), (a_askedRow, .inl (E.2.1, 8, .inl c_askedRow)), (a_, .inr (9, [.int c_thrown, .ref a_tape, .int c_taped, .int c_at, .int c_part, .int c_partFrom, .int c_partNumber, .int c_wrong, .long c_partWord, .int c_readLaw, .int c_readBound, .int c_readGoal, .int c_readSites, .ref a_readPlace, .ref a_script, .ref a_scriptLong, .int c_scripts, .ref a_now, .ref a_refused, .int c_sites, .ref a_shareX, .ref a_shareY, .int c_asked, .int c_outcome, .ref a_askedRow, .int c_took, .ref a_kept, .int w_2, .long c_drawn, .ref a_aside, .int c_racer, .int c_raced, .ref a_spelled, .int c_spelledMany, .ref a_image, .int c_hasImage])), (a_now, .inl (E.2.1, 265, .inl c_now)), (a_kept, .inl (E.2.1, 10600, .inl w_1))] H := hP
  replace hD : va_D A [(a_shareX, .inl (E.2.1, 8, .inl c_shareX)), (a_shareY, .inl (E.2.1, 8, .inl c_shareY)), (a_askedRow, .inl (E.2.1, 8, .inl c_askedRow)), (a_, .inr (9, [.int c_thrown, .ref a_tape, .int c_taped, .int c_at, .int c_part, .int c_partFrom, .int c_partNumber, .int c_wrong, .long c_partWord, .int c_readLaw, .int c_readBound, .int c_readGoal, .int c_readSites, .ref a_readPlace, .ref a_script, .ref a_scriptLong, .int c_scripts, .ref a_now, .ref a_refused, .int c_sites, .ref a_shareX, .ref a_shareY, .int c_asked, .int c_outcome, .ref a_askedRow, .int c_took, .ref a_kept, .int w_2, .long c_drawn, .ref a_aside, .int c_racer, .int c_raced, .ref a_spelled, .int c_spelledMany, .ref a_image, .int c_hasImage])), (a_now, .inl (E.2.1, 265, .inl c_now)), (a_kept, .inl (E.2.1, 10600, .inl w_1))] := hD
  refine lv_aload_n hx hb dX8_act_4 rfl (lv_at hl 0 rfl) ?_
  refine lv_iload_n hx hb dX8_act_5 rfl (lv_at hl 1 rfl) ?_
  refine lv_iload_n hx hb dX8_act_6 rfl (lv_at hl 2 rfl) ?_
  refine lv_iload_n hx hb dX8_act_7 rfl (lv_at hl 3 rfl) ?_
  refine lv_iload hx hb dX8_act_8 (lv_at hl 4 rfl) ?_
  replace hF := bd8_s hF
  obtain ⟨r_4, w_5, w_6, w_7, w_8, w_9, w_10, w_11, hc_12, hF⟩ := hF
  obtain ⟨hPc, hDc, hFc⟩ := wcut (wc := (w_X8_doNow E a_ a_tape a_readPlace a_script a_scriptLong a_now a_refused a_shareX a_shareY a_askedRow a_kept a_aside a_spelled a_image c_thrown c_taped c_at c_part c_partFrom c_partNumber c_wrong c_partWord c_readLaw c_readBound c_readGoal c_readSites c_scripts c_sites c_asked c_outcome c_took w_2 c_drawn c_racer c_raced c_spelledMany c_hasImage c_now c_shareX c_shareY c_askedRow)) hP hD hS hA [3, 4, 0, 1, 2] (by decide) rfl
  have hrc := va_recv hK hPc (ci := 9) (q0 := 0) rfl rfl
  refine cE_i (wc := (w_X8_doNow E a_ a_tape a_readPlace a_script a_scriptLong a_now a_refused a_shareX a_shareY a_askedRow a_kept a_aside a_spelled a_image c_thrown c_taped c_at c_part c_partFrom c_partNumber c_wrong c_partWord c_readLaw c_readBound c_readGoal c_readSites c_scripts c_sites c_asked c_outcome c_took w_2 c_drawn c_racer c_raced c_spelledMany c_hasImage c_now c_shareX c_shareY c_askedRow)) (wr := [(a_kept, .inl (E.2.1, 10600, .inl w_1))]) (w1 := (w_X8_doNow E a_ a_tape a_readPlace a_script a_scriptLong a_now a_refused a_shareX a_shareY a_askedRow a_kept a_aside a_spelled a_image c_thrown c_taped c_at c_part c_partFrom c_partNumber c_wrong c_partWord c_readLaw c_readBound c_readGoal c_readSites c_scripts c_sites w_8 w_9 w_11 w_2 c_drawn c_racer c_raced c_spelledMany c_hasImage w_5 w_6 w_7 w_10)) (va_runV (As := [.int p1, .int p2, .int p3, .int p4]) (rest := [])  ⟨hx, hb, hml, hown, hts⟩ (f_X8_doNow l E H.size K (a_ := a_) (a_tape := a_tape) (a_readPlace := a_readPlace) (a_script := a_script) (a_scriptLong := a_scriptLong) (a_now := a_now) (a_refused := a_refused) (a_shareX := a_shareX) (a_shareY := a_shareY) (a_askedRow := a_askedRow) (a_kept := a_kept) (a_aside := a_aside) (a_spelled := a_spelled) (a_image := a_image) (p1 := p1) (p2 := p2) (p3 := p3) (p4 := p4) (c_thrown := c_thrown) (c_taped := c_taped) (c_at := c_at) (c_part := c_part) (c_partFrom := c_partFrom) (c_partNumber := c_partNumber) (c_wrong := c_wrong) (c_partWord := c_partWord) (c_readLaw := c_readLaw) (c_readBound := c_readBound) (c_readGoal := c_readGoal) (c_readSites := c_readSites) (c_scripts := c_scripts) (c_sites := c_sites) (c_asked := c_asked) (c_outcome := c_outcome) (c_took := c_took) (c_acts := w_2) (c_drawn := c_drawn) (c_racer := c_racer) (c_raced := c_raced) (c_spelledMany := c_spelledMany) (c_hasImage := c_hasImage) (c_now := c_now) (c_shareX := c_shareX) (c_shareY := c_shareY) (c_askedRow := c_askedRow) hc_12) (cwV 4 hts g_f_X8_act_f_X8_doNow_337 rfl rfl rfl hd_X8_doNow ⟨Nat.le_of_ble_eq_true rfl, Nat.le_of_ble_eq_true rfl⟩) ⟨pW.blind, hrc, (pW.pre ⟨hK, hN⟩ hPc hDc)⟩ rfl rfl hl.1 rfl (lv_room (Nat.le_of_ble_eq_true rfl)) dX8_act_10 ⟨Nat.le_of_ble_eq_true rfl, Nat.le_of_ble_eq_true rfl⟩) hS hFc hP hD [3, 4, 0, 1, 2] [5] rfl rfl (by decide) (by decide) (fun H locs hP hD hS => ?_)
  replace hP : va_P E.1 vwCl [(a_kept, .inl (E.2.1, 10600, .inl w_1)), (a_, .inr (9, [.int c_thrown, .ref a_tape, .int c_taped, .int c_at, .int c_part, .int c_partFrom, .int c_partNumber, .int c_wrong, .long c_partWord, .int c_readLaw, .int c_readBound, .int c_readGoal, .int c_readSites, .ref a_readPlace, .ref a_script, .ref a_scriptLong, .int c_scripts, .ref a_now, .ref a_refused, .int c_sites, .ref a_shareX, .ref a_shareY, .int w_8, .int w_9, .ref a_askedRow, .int w_11, .ref a_kept, .int w_2, .long c_drawn, .ref a_aside, .int c_racer, .int c_raced, .ref a_spelled, .int c_spelledMany, .ref a_image, .int c_hasImage])), (a_now, .inl (E.2.1, 265, .inl w_5)), (a_shareX, .inl (E.2.1, 8, .inl w_6)), (a_shareY, .inl (E.2.1, 8, .inl w_7)), (a_askedRow, .inl (E.2.1, 8, .inl w_10))] H := hP
  replace hD : va_D A [(a_kept, .inl (E.2.1, 10600, .inl w_1)), (a_, .inr (9, [.int c_thrown, .ref a_tape, .int c_taped, .int c_at, .int c_part, .int c_partFrom, .int c_partNumber, .int c_wrong, .long c_partWord, .int c_readLaw, .int c_readBound, .int c_readGoal, .int c_readSites, .ref a_readPlace, .ref a_script, .ref a_scriptLong, .int c_scripts, .ref a_now, .ref a_refused, .int c_sites, .ref a_shareX, .ref a_shareY, .int w_8, .int w_9, .ref a_askedRow, .int w_11, .ref a_kept, .int w_2, .long c_drawn, .ref a_aside, .int c_racer, .int c_raced, .ref a_spelled, .int c_spelledMany, .ref a_image, .int c_hasImage])), (a_now, .inl (E.2.1, 265, .inl w_5)), (a_shareX, .inl (E.2.1, 8, .inl w_6)), (a_shareY, .inl (E.2.1, 8, .inl w_7)), (a_askedRow, .inl (E.2.1, 8, .inl w_10))] := hD
  refine lv_istore (lv' := [(5, .int r_4), (0, .ref a_), (1, .int p1), (2, .int p2), (3, .int p3), (4, .int p4)]) hx hb dX8_act_13 hl (by decide) rfl (fun ls hl => ?_)
  refine lv_aload_n hx hb dX8_act_15 rfl (lv_at hl 1 rfl) ?_
  refine lv_iload_n hx hb dX8_act_16 rfl (lv_at hl 2 rfl) ?_
  refine lv_iload_n hx hb dX8_act_17 rfl (lv_at hl 2 rfl) ?_
  refine lv_iconst (v := 1) hx hb dX8_act_18 (by decide) ?_
  refine lv_icmp_ne (tgt := 26) hx hb dX8_act_19 (by decide) (fun c_13 => ?_) (fun c_13 => ?_)
  ·
    replace hF := inn c_13 hF
    refine lv_iload_n hx hb dX8_act_26 rfl (lv_at hl 3 rfl) ?_
    replace hF := bd1_s hF
    obtain ⟨w_14, hc_15, hF⟩ := hF
    obtain ⟨hPc, hDc, hFc⟩ := wcut (wc := (w_X8_note E a_ a_tape a_readPlace a_script a_scriptLong a_now a_refused a_shareX a_shareY a_askedRow a_kept a_aside a_spelled a_image c_thrown c_taped c_at c_part c_partFrom c_partNumber c_wrong c_partWord c_readLaw c_readBound c_readGoal c_readSites c_scripts c_sites w_8 w_9 w_11 w_2 c_drawn c_racer c_raced c_spelledMany c_hasImage w_5)) hP hD hS hA [1, 2] (by decide) rfl
    have hrc := va_recv hK hPc (ci := 9) (q0 := 0) rfl rfl
    refine cE_v (wc := (w_X8_note E a_ a_tape a_readPlace a_script a_scriptLong a_now a_refused a_shareX a_shareY a_askedRow a_kept a_aside a_spelled a_image c_thrown c_taped c_at c_part c_partFrom c_partNumber c_wrong c_partWord c_readLaw c_readBound c_readGoal c_readSites c_scripts c_sites w_8 w_9 w_11 w_2 c_drawn c_racer c_raced c_spelledMany c_hasImage w_5)) (wr := [(a_kept, .inl (E.2.1, 10600, .inl w_1)), (a_shareX, .inl (E.2.1, 8, .inl w_6)), (a_shareY, .inl (E.2.1, 8, .inl w_7)), (a_askedRow, .inl (E.2.1, 8, .inl w_10))]) (w1 := (w_X8_note E a_ a_tape a_readPlace a_script a_scriptLong a_now a_refused a_shareX a_shareY a_askedRow a_kept a_aside a_spelled a_image c_thrown c_taped c_at c_part c_partFrom c_partNumber c_wrong c_partWord c_readLaw c_readBound c_readGoal c_readSites c_scripts c_sites w_8 w_9 w_11 w_2 c_drawn c_racer c_raced c_spelledMany c_hasImage w_14)) (va_runV (As := [.int p1, .int p2]) (rest := [])  ⟨hx, hb, hml, hown, hts⟩ (f_X8_note l E H.size K (a_ := a_) (a_tape := a_tape) (a_readPlace := a_readPlace) (a_script := a_script) (a_scriptLong := a_scriptLong) (a_now := a_now) (a_refused := a_refused) (a_shareX := a_shareX) (a_shareY := a_shareY) (a_askedRow := a_askedRow) (a_kept := a_kept) (a_aside := a_aside) (a_spelled := a_spelled) (a_image := a_image) (p1 := p1) (p2 := p2) (c_thrown := c_thrown) (c_taped := c_taped) (c_at := c_at) (c_part := c_part) (c_partFrom := c_partFrom) (c_partNumber := c_partNumber) (c_wrong := c_wrong) (c_partWord := c_partWord) (c_readLaw := c_readLaw) (c_readBound := c_readBound) (c_readGoal := c_readGoal) (c_readSites := c_readSites) (c_scripts := c_scripts) (c_sites := c_sites) (c_asked := w_8) (c_outcome := w_9) (c_took := w_11) (c_acts := w_2) (c_drawn := c_drawn) (c_racer := c_racer) (c_raced := c_raced) (c_spelledMany := c_spelledMany) (c_hasImage := c_hasImage) (c_now := w_5) hc_15) (cwV 2 hts g_f_X8_act_f_X8_note_340 rfl rfl rfl hd_X8_note ⟨Nat.le_of_ble_eq_true rfl, Nat.le_of_ble_eq_true rfl⟩) ⟨pW.blind, hrc, (pW.pre ⟨hK, hN⟩ hPc hDc)⟩ rfl rfl hl.1 rfl (lv_room (Nat.le_of_ble_eq_true rfl)) dX8_act_27 ⟨Nat.le_of_ble_eq_true rfl, Nat.le_of_ble_eq_true rfl⟩) hS hFc hP hD [1, 2] [0, 3, 4, 5] rfl rfl (by decide) (by decide) (fun H locs hP hD hS => ?_)
    replace hP : va_P E.1 vwCl [(a_kept, .inl (E.2.1, 10600, .inl w_1)), (a_shareX, .inl (E.2.1, 8, .inl w_6)), (a_shareY, .inl (E.2.1, 8, .inl w_7)), (a_askedRow, .inl (E.2.1, 8, .inl w_10)), (a_, .inr (9, [.int c_thrown, .ref a_tape, .int c_taped, .int c_at, .int c_part, .int c_partFrom, .int c_partNumber, .int c_wrong, .long c_partWord, .int c_readLaw, .int c_readBound, .int c_readGoal, .int c_readSites, .ref a_readPlace, .ref a_script, .ref a_scriptLong, .int c_scripts, .ref a_now, .ref a_refused, .int c_sites, .ref a_shareX, .ref a_shareY, .int w_8, .int w_9, .ref a_askedRow, .int w_11, .ref a_kept, .int w_2, .long c_drawn, .ref a_aside, .int c_racer, .int c_raced, .ref a_spelled, .int c_spelledMany, .ref a_image, .int c_hasImage])), (a_now, .inl (E.2.1, 265, .inl w_14))] H := hP
    replace hD : va_D A [(a_kept, .inl (E.2.1, 10600, .inl w_1)), (a_shareX, .inl (E.2.1, 8, .inl w_6)), (a_shareY, .inl (E.2.1, 8, .inl w_7)), (a_askedRow, .inl (E.2.1, 8, .inl w_10)), (a_, .inr (9, [.int c_thrown, .ref a_tape, .int c_taped, .int c_at, .int c_part, .int c_partFrom, .int c_partNumber, .int c_wrong, .long c_partWord, .int c_readLaw, .int c_readBound, .int c_readGoal, .int c_readSites, .ref a_readPlace, .ref a_script, .ref a_scriptLong, .int c_scripts, .ref a_now, .ref a_refused, .int c_sites, .ref a_shareX, .ref a_shareY, .int w_8, .int w_9, .ref a_askedRow, .int w_11, .ref a_kept, .int w_2, .long c_drawn, .ref a_aside, .int c_racer, .int c_raced, .ref a_spelled, .int c_spelledMany, .ref a_image, .int c_hasImage])), (a_now, .inl (E.2.1, 265, .inl w_14))] := hD
    refine lv_iload hx hb dX8_act_30 (lv_at hl 0 rfl) ?_
    rw [hQ]
    have h9 := fin9 (P := fun u9 : Int32 × (Nat → Int32) × (Nat → Int32) × (Nat → Int32) × Int32 × Int32 × (Nat → Int32) × Int32 × (Nat → Int32) × Int32 => r_4 = u9.1 ∧ va_P E.1 vwCl (w_X8_act E a_ a_tape a_readPlace a_script a_scriptLong a_now a_refused a_shareX a_shareY a_askedRow a_kept a_aside a_spelled a_image c_thrown c_taped c_at c_part c_partFrom c_partNumber c_wrong c_partWord c_readLaw c_readBound c_readGoal c_readSites c_scripts c_sites u9.2.2.2.2.1 u9.2.2.2.2.2.1 u9.2.2.2.2.2.2.2.1 u9.2.2.2.2.2.2.2.2.2 c_drawn c_racer c_raced c_spelledMany c_hasImage u9.2.1 u9.2.2.1 u9.2.2.2.1 u9.2.2.2.2.2.2.1 u9.2.2.2.2.2.2.2.2.1) H ∧ va_D A (w_X8_act E a_ a_tape a_readPlace a_script a_scriptLong a_now a_refused a_shareX a_shareY a_askedRow a_kept a_aside a_spelled a_image c_thrown c_taped c_at c_part c_partFrom c_partNumber c_wrong c_partWord c_readLaw c_readBound c_readGoal c_readSites c_scripts c_sites u9.2.2.2.2.1 u9.2.2.2.2.2.1 u9.2.2.2.2.2.2.2.1 u9.2.2.2.2.2.2.2.2.2 c_drawn c_racer c_raced c_spelledMany c_hasImage u9.2.1 u9.2.2.1 u9.2.2.2.1 u9.2.2.2.2.2.2.1 u9.2.2.2.2.2.2.2.2.1)) hF ⟨rfl, hP.sub [4, 5, 1, 2, 3, 0] rfl, hD.sub [4, 5, 1, 2, 3, 0] (by decide) rfl⟩
    obtain ⟨e9_0, hP9, hD9⟩ := h9
    exact W.iret (v := r_4) hx hb hr (fun tt ht hW => ⟨⟨_, (), rfl, e9_0, ht ▸ hP9, hD9⟩, hS.F ht⟩) hS.2.2 dX8_act_32
  ·
    replace hF := ip c_13 hF
    refine lv_iconst (v := -1) hx hb dX8_act_22 (by decide) ?_
    refine lv_goto (tgt := 27) hx hb dX8_act_23 (by decide) ?_
    replace hF := bd1_s hF
    obtain ⟨w_16, hc_17, hF⟩ := hF
    obtain ⟨hPc, hDc, hFc⟩ := wcut (wc := (w_X8_note E a_ a_tape a_readPlace a_script a_scriptLong a_now a_refused a_shareX a_shareY a_askedRow a_kept a_aside a_spelled a_image c_thrown c_taped c_at c_part c_partFrom c_partNumber c_wrong c_partWord c_readLaw c_readBound c_readGoal c_readSites c_scripts c_sites w_8 w_9 w_11 w_2 c_drawn c_racer c_raced c_spelledMany c_hasImage w_5)) hP hD hS hA [1, 2] (by decide) rfl
    have hrc := va_recv hK hPc (ci := 9) (q0 := 0) rfl rfl
    refine cE_v (wc := (w_X8_note E a_ a_tape a_readPlace a_script a_scriptLong a_now a_refused a_shareX a_shareY a_askedRow a_kept a_aside a_spelled a_image c_thrown c_taped c_at c_part c_partFrom c_partNumber c_wrong c_partWord c_readLaw c_readBound c_readGoal c_readSites c_scripts c_sites w_8 w_9 w_11 w_2 c_drawn c_racer c_raced c_spelledMany c_hasImage w_5)) (wr := [(a_kept, .inl (E.2.1, 10600, .inl w_1)), (a_shareX, .inl (E.2.1, 8, .inl w_6)), (a_shareY, .inl (E.2.1, 8, .inl w_7)), (a_askedRow, .inl (E.2.1, 8, .inl w_10))]) (w1 := (w_X8_note E a_ a_tape a_readPlace a_script a_scriptLong a_now a_refused a_shareX a_shareY a_askedRow a_kept a_aside a_spelled a_image c_thrown c_taped c_at c_part c_partFrom c_partNumber c_wrong c_partWord c_readLaw c_readBound c_readGoal c_readSites c_scripts c_sites w_8 w_9 w_11 w_2 c_drawn c_racer c_raced c_spelledMany c_hasImage w_16)) (va_runV (As := [.int p1, .int (-1 : Int32)]) (rest := [])  ⟨hx, hb, hml, hown, hts⟩ (f_X8_note l E H.size K (a_ := a_) (a_tape := a_tape) (a_readPlace := a_readPlace) (a_script := a_script) (a_scriptLong := a_scriptLong) (a_now := a_now) (a_refused := a_refused) (a_shareX := a_shareX) (a_shareY := a_shareY) (a_askedRow := a_askedRow) (a_kept := a_kept) (a_aside := a_aside) (a_spelled := a_spelled) (a_image := a_image) (p1 := p1) (p2 := (-1 : Int32)) (c_thrown := c_thrown) (c_taped := c_taped) (c_at := c_at) (c_part := c_part) (c_partFrom := c_partFrom) (c_partNumber := c_partNumber) (c_wrong := c_wrong) (c_partWord := c_partWord) (c_readLaw := c_readLaw) (c_readBound := c_readBound) (c_readGoal := c_readGoal) (c_readSites := c_readSites) (c_scripts := c_scripts) (c_sites := c_sites) (c_asked := w_8) (c_outcome := w_9) (c_took := w_11) (c_acts := w_2) (c_drawn := c_drawn) (c_racer := c_racer) (c_raced := c_raced) (c_spelledMany := c_spelledMany) (c_hasImage := c_hasImage) (c_now := w_5) hc_17) (cwV 2 hts g_f_X8_act_f_X8_note_340 rfl rfl rfl hd_X8_note ⟨Nat.le_of_ble_eq_true rfl, Nat.le_of_ble_eq_true rfl⟩) ⟨pW.blind, hrc, (pW.pre ⟨hK, hN⟩ hPc hDc)⟩ rfl rfl hl.1 rfl (lv_room (Nat.le_of_ble_eq_true rfl)) dX8_act_27 ⟨Nat.le_of_ble_eq_true rfl, Nat.le_of_ble_eq_true rfl⟩) hS hFc hP hD [1, 2] [0, 3, 4, 5] rfl rfl (by decide) (by decide) (fun H locs hP hD hS => ?_)
    replace hP : va_P E.1 vwCl [(a_kept, .inl (E.2.1, 10600, .inl w_1)), (a_shareX, .inl (E.2.1, 8, .inl w_6)), (a_shareY, .inl (E.2.1, 8, .inl w_7)), (a_askedRow, .inl (E.2.1, 8, .inl w_10)), (a_, .inr (9, [.int c_thrown, .ref a_tape, .int c_taped, .int c_at, .int c_part, .int c_partFrom, .int c_partNumber, .int c_wrong, .long c_partWord, .int c_readLaw, .int c_readBound, .int c_readGoal, .int c_readSites, .ref a_readPlace, .ref a_script, .ref a_scriptLong, .int c_scripts, .ref a_now, .ref a_refused, .int c_sites, .ref a_shareX, .ref a_shareY, .int w_8, .int w_9, .ref a_askedRow, .int w_11, .ref a_kept, .int w_2, .long c_drawn, .ref a_aside, .int c_racer, .int c_raced, .ref a_spelled, .int c_spelledMany, .ref a_image, .int c_hasImage])), (a_now, .inl (E.2.1, 265, .inl w_16))] H := hP
    replace hD : va_D A [(a_kept, .inl (E.2.1, 10600, .inl w_1)), (a_shareX, .inl (E.2.1, 8, .inl w_6)), (a_shareY, .inl (E.2.1, 8, .inl w_7)), (a_askedRow, .inl (E.2.1, 8, .inl w_10)), (a_, .inr (9, [.int c_thrown, .ref a_tape, .int c_taped, .int c_at, .int c_part, .int c_partFrom, .int c_partNumber, .int c_wrong, .long c_partWord, .int c_readLaw, .int c_readBound, .int c_readGoal, .int c_readSites, .ref a_readPlace, .ref a_script, .ref a_scriptLong, .int c_scripts, .ref a_now, .ref a_refused, .int c_sites, .ref a_shareX, .ref a_shareY, .int w_8, .int w_9, .ref a_askedRow, .int w_11, .ref a_kept, .int w_2, .long c_drawn, .ref a_aside, .int c_racer, .int c_raced, .ref a_spelled, .int c_spelledMany, .ref a_image, .int c_hasImage])), (a_now, .inl (E.2.1, 265, .inl w_16))] := hD
    refine lv_iload hx hb dX8_act_30 (lv_at hl 0 rfl) ?_
    rw [hQ]
    have h9 := fin9 (P := fun u9 : Int32 × (Nat → Int32) × (Nat → Int32) × (Nat → Int32) × Int32 × Int32 × (Nat → Int32) × Int32 × (Nat → Int32) × Int32 => r_4 = u9.1 ∧ va_P E.1 vwCl (w_X8_act E a_ a_tape a_readPlace a_script a_scriptLong a_now a_refused a_shareX a_shareY a_askedRow a_kept a_aside a_spelled a_image c_thrown c_taped c_at c_part c_partFrom c_partNumber c_wrong c_partWord c_readLaw c_readBound c_readGoal c_readSites c_scripts c_sites u9.2.2.2.2.1 u9.2.2.2.2.2.1 u9.2.2.2.2.2.2.2.1 u9.2.2.2.2.2.2.2.2.2 c_drawn c_racer c_raced c_spelledMany c_hasImage u9.2.1 u9.2.2.1 u9.2.2.2.1 u9.2.2.2.2.2.2.1 u9.2.2.2.2.2.2.2.2.1) H ∧ va_D A (w_X8_act E a_ a_tape a_readPlace a_script a_scriptLong a_now a_refused a_shareX a_shareY a_askedRow a_kept a_aside a_spelled a_image c_thrown c_taped c_at c_part c_partFrom c_partNumber c_wrong c_partWord c_readLaw c_readBound c_readGoal c_readSites c_scripts c_sites u9.2.2.2.2.1 u9.2.2.2.2.2.1 u9.2.2.2.2.2.2.2.1 u9.2.2.2.2.2.2.2.2.2 c_drawn c_racer c_raced c_spelledMany c_hasImage u9.2.1 u9.2.2.1 u9.2.2.2.1 u9.2.2.2.2.2.2.1 u9.2.2.2.2.2.2.2.2.1)) hF ⟨rfl, hP.sub [4, 5, 1, 2, 3, 0] rfl, hD.sub [4, 5, 1, 2, 3, 0] (by decide) rfl⟩
    obtain ⟨e9_0, hP9, hD9⟩ := h9
    exact W.iret (v := r_4) hx hb hr (fun tt ht hW => ⟨⟨_, (), rfl, e9_0, ht ▸ hP9, hD9⟩, hS.F ht⟩) hS.2.2 dX8_act_32

def F_X8_actOf (p0 : Int32) : Option (Int32) :=
  if p0 = (0 : Int32) then some (0 : Int32) else if p0 = (1 : Int32) then some (4 : Int32) else if p0 = (2 : Int32) then some (2 : Int32) else if p0 = (3 : Int32) then some (3 : Int32) else if p0 = (4 : Int32) then some (1 : Int32) else if p0 = (5 : Int32) then some (5 : Int32) else if p0 = (6 : Int32) then some (6 : Int32) else some (5 : Int32)

def v_f_X8_actOf : List Cond := List.cons (.code yX8_actOf cX8_actOf 1 (some .int)) (HAppend.hAppend (α := List Cond) (β := List Cond) (γ := List Cond) [] [])
theorem gw_f_X8_actOf : v_f_X8_actOf.all goodWord = true := by decide +kernel
theorem hd_X8_actOf : yX8_actOf.cls = RX8 ∧ yX8_actOf.cls ≠ "java/lang/invoke/MethodHandle" ∧ yX8_actOf.cls ≠ "java/lang/invoke/VarHandle" ∧ (parseMethodDescriptor yX8_actOf.desc).map (fun d => d.parameters.length) = some 1 := by decide +kernel
set_option maxHeartbeats 4000000 in
set_option maxRecDepth 100000 in
theorem f_X8_actOf (l : Launch) (E : EE) {p0 : Int32} {rr : Int32} (hF : F_X8_actOf p0 = some rr) : Met l yX8_actOf v_f_X8_actOf (({ frames := 0, cells := 0, slots := 0, locals := 0 } : Room)) (va_Pc [.int p0] (pP E [])) (vp_Si (fun q : Int32 => q = rr)) 0 0 (fun _ => False) := by
  refine Met.ofW (cc := cX8_actOf) (maxL := 1) (ret := (some .int)) (by decide) rfl ?_
  intro p e s m args below meth c s₁ B hml hv
  obtain ⟨rfl, ⟨hK, hN⟩, hP⟩ := hv
  have hx := B.exec
  have hb := B.bytes
  have hr := B.returns
  have hts := atoms_spec (ws := v_f_X8_actOf) B.pre
  have hown : s.vm.findClass RX8 = some m.cls := own_of hd_X8_actOf.1 (findClass_of_methodNamed B.named)
  have hlocks : meth.locks = false := B.notSynchronized
  replace hP : va_P E.1 vwCl [] s.heap := hP
  have hl := lv_entry ([.int p0]) (n := 1) (Nat.le_of_ble_eq_true rfl)
  rw [lg_entry_eq]
  generalize (lg_sl ([.int p0]) ++ List.replicate (1 - (lg_sl ([.int p0])).length) Slot.unset).toArray = ls at hl ⊢
  have hl : lv_has ls 1 [(0, .int p0)] := hl
  obtain ⟨Q, hQ⟩ : ∃ Q : State → Prop, Q = MQ below (vp_Si (fun q : Int32 => q = rr)) #[Value.int p0] s 0 0 (fun _ => False) := ⟨_, rfl⟩
  rw [← hQ]
  change W p l e ({ frames := 0, cells := 0, slots := 0, locals := 0 } : Room) s m #[Value.int p0] below meth c s.heap [] 0 0 Q (F0 m 0 ls [])
  unfold F_X8_actOf at hF
  refine lv_iload_n hx hb dX8_actOf_0 rfl (lv_at hl 0 rfl) ?_
  rcases Classical.em (p0 = (0 : Int32)) with c_1_0 | c_1_0
  ·
    replace hF := ip c_1_0 hF
    refine lv_tableIn (off := 43) (tgt := 44) hx hb dX8_actOf_1 (by rw [c_1_0]; decide) (by rw [c_1_0]; decide) (by rw [c_1_0]; decide) (by decide) ?_
    refine lv_iconst (v := 0) hx hb dX8_actOf_44 (by decide) ?_
    rw [hQ]
    obtain e9_0 := inj1 hF
    exact W.iret (v := (0 : Int32)) hx hb hr (fun tt ht hW => ⟨_, rfl, e9_0, ht⟩) (fun _ h => by cases h) dX8_actOf_45
  replace hF := inn c_1_0 hF
  rcases Classical.em (p0 = (1 : Int32)) with c_1_1 | c_1_1
  ·
    replace hF := ip c_1_1 hF
    refine lv_tableIn (off := 45) (tgt := 46) hx hb dX8_actOf_1 (by rw [c_1_1]; decide) (by rw [c_1_1]; decide) (by rw [c_1_1]; decide) (by decide) ?_
    refine lv_iconst (v := 4) hx hb dX8_actOf_46 (by decide) ?_
    rw [hQ]
    obtain e9_0 := inj1 hF
    exact W.iret (v := (4 : Int32)) hx hb hr (fun tt ht hW => ⟨_, rfl, e9_0, ht⟩) (fun _ h => by cases h) dX8_actOf_47
  replace hF := inn c_1_1 hF
  rcases Classical.em (p0 = (2 : Int32)) with c_1_2 | c_1_2
  ·
    replace hF := ip c_1_2 hF
    refine lv_tableIn (off := 47) (tgt := 48) hx hb dX8_actOf_1 (by rw [c_1_2]; decide) (by rw [c_1_2]; decide) (by rw [c_1_2]; decide) (by decide) ?_
    refine lv_iconst (v := 2) hx hb dX8_actOf_48 (by decide) ?_
    rw [hQ]
    obtain e9_0 := inj1 hF
    exact W.iret (v := (2 : Int32)) hx hb hr (fun tt ht hW => ⟨_, rfl, e9_0, ht⟩) (fun _ h => by cases h) dX8_actOf_49
  replace hF := inn c_1_2 hF
  rcases Classical.em (p0 = (3 : Int32)) with c_1_3 | c_1_3
  ·
    replace hF := ip c_1_3 hF
    refine lv_tableIn (off := 49) (tgt := 50) hx hb dX8_actOf_1 (by rw [c_1_3]; decide) (by rw [c_1_3]; decide) (by rw [c_1_3]; decide) (by decide) ?_
    refine lv_iconst (v := 3) hx hb dX8_actOf_50 (by decide) ?_
    rw [hQ]
    obtain e9_0 := inj1 hF
    exact W.iret (v := (3 : Int32)) hx hb hr (fun tt ht hW => ⟨_, rfl, e9_0, ht⟩) (fun _ h => by cases h) dX8_actOf_51
  replace hF := inn c_1_3 hF
  rcases Classical.em (p0 = (4 : Int32)) with c_1_4 | c_1_4
  ·
    replace hF := ip c_1_4 hF
    refine lv_tableIn (off := 51) (tgt := 52) hx hb dX8_actOf_1 (by rw [c_1_4]; decide) (by rw [c_1_4]; decide) (by rw [c_1_4]; decide) (by decide) ?_
    refine lv_iconst (v := 1) hx hb dX8_actOf_52 (by decide) ?_
    rw [hQ]
    obtain e9_0 := inj1 hF
    exact W.iret (v := (1 : Int32)) hx hb hr (fun tt ht hW => ⟨_, rfl, e9_0, ht⟩) (fun _ h => by cases h) dX8_actOf_53
  replace hF := inn c_1_4 hF
  rcases Classical.em (p0 = (5 : Int32)) with c_1_5 | c_1_5
  ·
    replace hF := ip c_1_5 hF
    refine lv_tableIn (off := 56) (tgt := 57) hx hb dX8_actOf_1 (by rw [c_1_5]; decide) (by rw [c_1_5]; decide) (by rw [c_1_5]; decide) (by decide) ?_
    refine lv_iconst (v := 5) hx hb dX8_actOf_57 (by decide) ?_
    rw [hQ]
    obtain e9_0 := inj1 hF
    exact W.iret (v := (5 : Int32)) hx hb hr (fun tt ht hW => ⟨_, rfl, e9_0, ht⟩) (fun _ h => by cases h) dX8_actOf_58
  replace hF := inn c_1_5 hF
  rcases Classical.em (p0 = (6 : Int32)) with c_1_6 | c_1_6
  ·
    replace hF := ip c_1_6 hF
    refine lv_tableIn (off := 53) (tgt := 54) hx hb dX8_actOf_1 (by rw [c_1_6]; decide) (by rw [c_1_6]; decide) (by rw [c_1_6]; decide) (by decide) ?_
    refine lv_bipush (v := 6) hx hb dX8_actOf_54 (by decide) ?_
    rw [hQ]
    obtain e9_0 := inj1 hF
    exact W.iret (v := (6 : Int32)) hx hb hr (fun tt ht hW => ⟨_, rfl, e9_0, ht⟩) (fun _ h => by cases h) dX8_actOf_56
  replace hF := inn c_1_6 hF
  refine lv_tableOut (tgt := 57) hx hb dX8_actOf_1 (by have t0 : (0 : Int32).toInt = 0 := (by decide); have t1 : (1 : Int32).toInt = 1 := (by decide); have t2 : (2 : Int32).toInt = 2 := (by decide); have t3 : (3 : Int32).toInt = 3 := (by decide); have t4 : (4 : Int32).toInt = 4 := (by decide); have t5 : (5 : Int32).toInt = 5 := (by decide); have t6 : (6 : Int32).toInt = 6 := (by decide); simp only [← Int32.toInt_inj, t0, t1, t2, t3, t4, t5, t6] at c_1_0 c_1_1 c_1_2 c_1_3 c_1_4 c_1_5 c_1_6; omega) (by decide) ?_
  refine lv_iconst (v := 5) hx hb dX8_actOf_57 (by decide) ?_
  rw [hQ]
  obtain e9_0 := inj1 hF
  exact W.iret (v := (5 : Int32)) hx hb hr (fun tt ht hW => ⟨_, rfl, e9_0, ht⟩) (fun _ h => by cases h) dX8_actOf_58

def F_X8_in (p0 : Int64) (p1 : Int64) (p2 : Int64) : Option (Int32) :=
  if lg_cmp p0 p1 < (0 : Int32) then some (0 : Int32) else if (0 : Int32) < lg_cmp p0 p2 then some (0 : Int32) else some (1 : Int32)

def v_f_X8_in : List Cond := List.cons (.code yX8_in cX8_in 6 (some .boolean)) (HAppend.hAppend (α := List Cond) (β := List Cond) (γ := List Cond) [] [])
theorem gw_f_X8_in : v_f_X8_in.all goodWord = true := by decide +kernel
theorem hd_X8_in : yX8_in.cls = RX8 ∧ yX8_in.cls ≠ "java/lang/invoke/MethodHandle" ∧ yX8_in.cls ≠ "java/lang/invoke/VarHandle" ∧ (parseMethodDescriptor yX8_in.desc).map (fun d => d.parameters.length) = some 3 := by decide +kernel
set_option maxHeartbeats 4000000 in
set_option maxRecDepth 100000 in
theorem f_X8_in (l : Launch) (E : EE) {p0 : Int64} {p1 : Int64} {p2 : Int64} {rr : Int32} (hF : F_X8_in p0 p1 p2 = some rr) : Met l yX8_in v_f_X8_in (({ frames := 0, cells := 0, slots := 0, locals := 0 } : Room)) (va_Pc [.long p0, .long p1, .long p2] (pP E [])) (vp_Si (fun q : Int32 => q = rr ∧ (q = 0 ∨ q = 1))) 0 0 (fun _ => False) := by
  refine Met.ofW (cc := cX8_in) (maxL := 6) (ret := (some .boolean)) (by decide) rfl ?_
  intro p e s m args below meth c s₁ B hml hv
  obtain ⟨rfl, ⟨hK, hN⟩, hP⟩ := hv
  have hx := B.exec
  have hb := B.bytes
  have hr := B.returns
  have hts := atoms_spec (ws := v_f_X8_in) B.pre
  have hown : s.vm.findClass RX8 = some m.cls := own_of hd_X8_in.1 (findClass_of_methodNamed B.named)
  have hlocks : meth.locks = false := B.notSynchronized
  replace hP : va_P E.1 vwCl [] s.heap := hP
  have hl := lv_entry ([.long p0, .long p1, .long p2]) (n := 6) (Nat.le_of_ble_eq_true rfl)
  rw [lg_entry_eq]
  generalize (lg_sl ([.long p0, .long p1, .long p2]) ++ List.replicate (6 - (lg_sl ([.long p0, .long p1, .long p2])).length) Slot.unset).toArray = ls at hl ⊢
  have hl : lv_has ls 6 [(0, .long p0), (2, .long p1), (4, .long p2)] := hl
  obtain ⟨Q, hQ⟩ : ∃ Q : State → Prop, Q = MQ below (vp_Si (fun q : Int32 => q = rr ∧ (q = 0 ∨ q = 1))) #[Value.long p0, Value.long p1, Value.long p2] s 0 0 (fun _ => False) := ⟨_, rfl⟩
  rw [← hQ]
  change W p l e ({ frames := 0, cells := 0, slots := 0, locals := 0 } : Room) s m #[Value.long p0, Value.long p1, Value.long p2] below meth c s.heap [] 0 0 Q (F0 m 0 ls [])
  unfold F_X8_in at hF
  refine lv_lload_n hx hb dX8_in_0 rfl (lv_at hl 0 rfl) ?_
  refine lv_lload_n hx hb dX8_in_1 rfl (lv_at hl 1 rfl) ?_
  refine W.lcmp hx hb dX8_in_2 ?_
  refine lv_if_lt (tgt := 17) hx hb dX8_in_3 (by decide) (fun c_1 => ?_) (fun c_1 => ?_)
  ·
    replace hF := ip c_1 hF
    refine lv_iconst (v := 0) hx hb dX8_in_17 (by decide) ?_
    rw [hQ]
    obtain e9_0 := inj1 hF
    exact W.zret (v := (0 : Int32)) hx hb hr rfl (fun tt ht hW => ⟨_, rfl, ⟨e9_0, Or.inl rfl⟩, ht⟩) (fun _ h => by cases h) dX8_in_18
  ·
    replace hF := inn c_1 hF
    refine lv_lload_n hx hb dX8_in_6 rfl (lv_at hl 0 rfl) ?_
    refine lv_lload hx hb dX8_in_7 (lv_at hl 2 rfl) ?_
    refine W.lcmp hx hb dX8_in_9 ?_
    refine lv_if_gt (tgt := 17) hx hb dX8_in_10 (by decide) (fun c_2 => ?_) (fun c_2 => ?_)
    ·
      replace hF := ip c_2 hF
      refine lv_iconst (v := 0) hx hb dX8_in_17 (by decide) ?_
      rw [hQ]
      obtain e9_0 := inj1 hF
      exact W.zret (v := (0 : Int32)) hx hb hr rfl (fun tt ht hW => ⟨_, rfl, ⟨e9_0, Or.inl rfl⟩, ht⟩) (fun _ h => by cases h) dX8_in_18
    ·
      replace hF := inn c_2 hF
      refine lv_iconst (v := 1) hx hb dX8_in_13 (by decide) ?_
      refine lv_goto (tgt := 18) hx hb dX8_in_14 (by decide) ?_
      rw [hQ]
      obtain e9_0 := inj1 hF
      exact W.zret (v := (1 : Int32)) hx hb hr rfl (fun tt ht hW => ⟨_, rfl, ⟨e9_0, Or.inr rfl⟩, ht⟩) (fun _ h => by cases h) dX8_in_18

def F_X8_isSite (p1 : Int32) (c_sites : Int32) : Option (Int32) :=
  bd1 (F_X8_in p1.toInt64 (0 : Int64) ((c_sites - (1 : Int32)).toInt64)) (fun r_1 => some r_1)
abbrev w_X8_isSite (E : EE) (a_ a_tape a_readPlace a_script a_scriptLong a_now a_refused a_shareX a_shareY a_askedRow a_kept a_aside a_spelled a_image : Nat) (c_thrown : Int32) (c_taped : Int32) (c_at : Int32) (c_part : Int32) (c_partFrom : Int32) (c_partNumber : Int32) (c_wrong : Int32) (c_partWord : Int64) (c_readLaw : Int32) (c_readBound : Int32) (c_readGoal : Int32) (c_readSites : Int32) (c_scripts : Int32) (c_sites : Int32) (c_asked : Int32) (c_outcome : Int32) (c_took : Int32) (c_acts : Int32) (c_drawn : Int64) (c_racer : Int32) (c_raced : Int32) (c_spelledMany : Int32) (c_hasImage : Int32) : va_W := [(a_, .inr (9, [.int c_thrown, .ref a_tape, .int c_taped, .int c_at, .int c_part, .int c_partFrom, .int c_partNumber, .int c_wrong, .long c_partWord, .int c_readLaw, .int c_readBound, .int c_readGoal, .int c_readSites, .ref a_readPlace, .ref a_script, .ref a_scriptLong, .int c_scripts, .ref a_now, .ref a_refused, .int c_sites, .ref a_shareX, .ref a_shareY, .int c_asked, .int c_outcome, .ref a_askedRow, .int c_took, .ref a_kept, .int c_acts, .long c_drawn, .ref a_aside, .int c_racer, .int c_raced, .ref a_spelled, .int c_spelledMany, .ref a_image, .int c_hasImage]))]
def v_f_X8_isSite : List Cond := List.cons (.code yX8_isSite cX8_isSite 2 (some .boolean)) (HAppend.hAppend (α := List Cond) (β := List Cond) (γ := List Cond) [.fieldLink RX8 196 "HushWatchModel" "sites" "I", .methodLink RX8 60 yX8_in, .static yX8_in, .initialized RX8] (HAppend.hAppend (α := List Cond) (β := List Cond) (γ := List Cond) wsX80 (HAppend.hAppend (α := List Cond) (β := List Cond) (γ := List Cond) v_f_X8_in [])))
theorem gw_f_X8_isSite : v_f_X8_isSite.all goodWord = true := by decide +kernel
theorem i_f_X8_isSite_X8 : ∀ w ∈ wsX80, w ∈ v_f_X8_isSite := fun _ h => List.mem_cons_of_mem _ (List.mem_append_right _ (List.mem_append_left _ h))
theorem g_f_X8_isSite_f_X8_in_60 : GoodIn v_f_X8_isSite (va_wsS RX8 60 yX8_in v_f_X8_in) := goodIn_app (goodIn_of _ (by decide +kernel)) (goodIn_sub (fun _ h => List.mem_cons_of_mem _ (List.mem_append_right _ (List.mem_append_right _ (List.mem_append_left _ h)))) gw_f_X8_in)
theorem hd_X8_isSite : yX8_isSite.cls = RX8 ∧ yX8_isSite.cls ≠ "java/lang/invoke/MethodHandle" ∧ yX8_isSite.cls ≠ "java/lang/invoke/VarHandle" ∧ (parseMethodDescriptor yX8_isSite.desc).map (fun d => d.parameters.length) = some 1 := by decide +kernel
set_option maxHeartbeats 4000000 in
set_option maxRecDepth 100000 in
theorem f_X8_isSite (l : Launch) (E : EE) {a_ a_tape a_readPlace a_script a_scriptLong a_now a_refused a_shareX a_shareY a_askedRow a_kept a_aside a_spelled a_image : Nat} {p1 : Int32} {c_thrown : Int32} {c_taped : Int32} {c_at : Int32} {c_part : Int32} {c_partFrom : Int32} {c_partNumber : Int32} {c_wrong : Int32} {c_partWord : Int64} {c_readLaw : Int32} {c_readBound : Int32} {c_readGoal : Int32} {c_readSites : Int32} {c_scripts : Int32} {c_sites : Int32} {c_asked : Int32} {c_outcome : Int32} {c_took : Int32} {c_acts : Int32} {c_drawn : Int64} {c_racer : Int32} {c_raced : Int32} {c_spelledMany : Int32} {c_hasImage : Int32} {rr : Int32} (hF : F_X8_isSite p1 c_sites = some rr) : Met l yX8_isSite v_f_X8_isSite (({ frames := 1, cells := 0, slots := 0, locals := 25 } : Room)) (va_Pc [.ref a_, .int p1] (pP E (w_X8_isSite E a_ a_tape a_readPlace a_script a_scriptLong a_now a_refused a_shareX a_shareY a_askedRow a_kept a_aside a_spelled a_image c_thrown c_taped c_at c_part c_partFrom c_partNumber c_wrong c_partWord c_readLaw c_readBound c_readGoal c_readSites c_scripts c_sites c_asked c_outcome c_took c_acts c_drawn c_racer c_raced c_spelledMany c_hasImage))) (vp_Si (fun q : Int32 => q = rr ∧ (q = 0 ∨ q = 1))) 0 0 (fun _ => False) := by
  refine Met.ofW (cc := cX8_isSite) (maxL := 2) (ret := (some .boolean)) (by decide) rfl ?_
  intro p e s m args below meth c s₁ B hml hv
  obtain ⟨rfl, ⟨hK, hN⟩, hP⟩ := hv
  have hx := B.exec
  have hb := B.bytes
  have hr := B.returns
  have hts := atoms_spec (ws := v_f_X8_isSite) B.pre
  have hown : s.vm.findClass RX8 = some m.cls := own_of hd_X8_isSite.1 (findClass_of_methodNamed B.named)
  have hlocks : meth.locks = false := B.notSynchronized
  replace hP : va_P E.1 vwCl [(a_, .inr (9, [.int c_thrown, .ref a_tape, .int c_taped, .int c_at, .int c_part, .int c_partFrom, .int c_partNumber, .int c_wrong, .long c_partWord, .int c_readLaw, .int c_readBound, .int c_readGoal, .int c_readSites, .ref a_readPlace, .ref a_script, .ref a_scriptLong, .int c_scripts, .ref a_now, .ref a_refused, .int c_sites, .ref a_shareX, .ref a_shareY, .int c_asked, .int c_outcome, .ref a_askedRow, .int c_took, .ref a_kept, .int c_acts, .long c_drawn, .ref a_aside, .int c_racer, .int c_raced, .ref a_spelled, .int c_spelledMany, .ref a_image, .int c_hasImage]))] s.heap := hP
  have hl := lv_entry ([.ref a_, .int p1]) (n := 2) (Nat.le_of_ble_eq_true rfl)
  rw [lg_entry_eq]
  generalize (lg_sl ([.ref a_, .int p1]) ++ List.replicate (2 - (lg_sl ([.ref a_, .int p1])).length) Slot.unset).toArray = ls at hl ⊢
  have hl : lv_has ls 2 [(0, .ref a_), (1, .int p1)] := hl
  obtain ⟨Q, hQ⟩ : ∃ Q : State → Prop, Q = MQ below (vp_Si (fun q : Int32 => q = rr ∧ (q = 0 ∨ q = 1))) #[Value.ref a_, Value.int p1] s 0 0 (fun _ => False) := ⟨_, rfl⟩
  rw [← hQ]
  change W p l e ({ frames := 1, cells := 0, slots := 0, locals := 25 } : Room) s m #[Value.ref a_, Value.int p1] below meth c s.heap [] 0 0 Q (F0 m 0 ls [])
  unfold F_X8_isSite at hF
  refine lv_iload_n hx hb dX8_isSite_0 rfl (lv_at hl 1 rfl) ?_
  refine lv_i2l (v := p1.toInt64) hx hb dX8_isSite_1 rfl ?_
  refine lv_lconst (v := 0) hx hb dX8_isSite_2 (by decide) ?_
  refine lv_aload_n hx hb dX8_isSite_3 rfl (lv_at hl 0 rfl) ?_
  refine gt_X8_19 (v := .int c_sites) hx hb hts i_f_X8_isSite_X8 hown hK hP 0 rfl (hts (.fieldLink RX8 196 "HushWatchModel" "sites" "I") (List.mem_of_getElem? (i := 1) rfl)) rfl dX8_isSite_4 ?_
  refine lv_iconst (v := 1) hx hb dX8_isSite_7 (by decide) ?_
  refine lv_isub hx hb dX8_isSite_8 ?_
  refine lv_i2l (v := (c_sites - (1 : Int32)).toInt64) hx hb dX8_isSite_9 rfl ?_
  replace hF := bd1_s hF
  obtain ⟨r_1, hc_2, hF⟩ := hF
  have hPc : va_P E.1 vwCl [] s.heap := fun k q h => by simp at h
  refine pE_z (va_runS (As := [.long p1.toInt64, .long (0 : Int64), .long ((c_sites - (1 : Int32)).toInt64)]) (rest := [])  ⟨hx, hb, hml, hown, hts⟩ (f_X8_in l E (p0 := p1.toInt64) (p1 := (0 : Int64)) (p2 := (c_sites - (1 : Int32)).toInt64) hc_2) (va_cwS 3 hts g_f_X8_isSite_f_X8_in_60 rfl rfl rfl hd_X8_in.2 ⟨Nat.le_of_ble_eq_true rfl, Nat.le_of_ble_eq_true rfl⟩) ⟨pP.blind, (pP.pre ⟨hK, hN⟩ hPc)⟩ rfl rfl hl.1 rfl (lv_room (Nat.le_of_ble_eq_true rfl)) dX8_isSite_10 ⟨Nat.le_of_ble_eq_true rfl, Nat.le_of_ble_eq_true rfl⟩) (fun hb_3 => ?_)
  rw [hQ]
  obtain e9_0 := inj1 hF
  exact W.zret (v := r_1) hx hb hr (nar_bool hb_3) (fun tt ht hW => ⟨_, rfl, ⟨e9_0, hb_3⟩, ht⟩) (fun _ h => by cases h) dX8_isSite_13

def J_X8_whyMove_90 (p1 : Int32) (p2 : Int32) (p3 : Int32) (c_now : Nat → Int32) (k0 : Int32) : Option (Int32) :=
  if k0 = (0 : Int32) then some (1 : Int32) else if p2 = (0 : Int32) then if p3 = (0 : Int32) then some (2 : Int32) else bd1 (F_X8_isFrozen p1 c_now) (fun r_16 => if r_16 = (0 : Int32) then some (-1 : Int32) else some (2 : Int32)) else bd1 (F_X8_isFrozen p1 c_now) (fun r_11 => if r_11 = (0 : Int32) then some (-1 : Int32) else some (2 : Int32))
def J_X8_whyMove_89 (p1 : Int32) (p2 : Int32) (p3 : Int32) (c_now : Nat → Int32) : Option (Int32) :=
  J_X8_whyMove_90 p1 p2 p3 c_now (0 : Int32)
def F_X8_whyMove (p1 : Int32) (p2 : Int32) (p3 : Int32) (c_now : Nat → Int32) (c_sites : Int32) : Option (Int32) :=
  bd1 (F_X8_isSite p1 c_sites) (fun r_1 => if r_1 = (0 : Int32) then some (0 : Int32) else bd1 (F_X8_in p2.toInt64 (-9999 : Int64) (9999 : Int64)) (fun r_5 => if r_5 = (0 : Int32) then J_X8_whyMove_89 p1 p2 p3 c_now else bd1 (F_X8_in p3.toInt64 (-9999 : Int64) (9999 : Int64)) (fun r_20 => if r_20 = (0 : Int32) then J_X8_whyMove_89 p1 p2 p3 c_now else ixF ((0 : Int32) + p1) 265 (bd1 (F_X8_in (((c_now ((0 : Int32) + p1).toNatClampNeg) + p2).toInt64) (-99999 : Int64) (99999 : Int64)) (fun r_25 => if r_25 = (0 : Int32) then J_X8_whyMove_89 p1 p2 p3 c_now else ixF ((8 : Int32) + p1) 265 (bd1 (F_X8_in (((c_now ((8 : Int32) + p1).toNatClampNeg) + p3).toInt64) (-99999 : Int64) (99999 : Int64)) (fun r_30 => if r_30 = (0 : Int32) then J_X8_whyMove_89 p1 p2 p3 c_now else J_X8_whyMove_90 p1 p2 p3 c_now (1 : Int32))))))))
abbrev w_X8_whyMove (E : EE) (a_ a_tape a_readPlace a_script a_scriptLong a_now a_refused a_shareX a_shareY a_askedRow a_kept a_aside a_spelled a_image : Nat) (c_thrown : Int32) (c_taped : Int32) (c_at : Int32) (c_part : Int32) (c_partFrom : Int32) (c_partNumber : Int32) (c_wrong : Int32) (c_partWord : Int64) (c_readLaw : Int32) (c_readBound : Int32) (c_readGoal : Int32) (c_readSites : Int32) (c_scripts : Int32) (c_sites : Int32) (c_asked : Int32) (c_outcome : Int32) (c_took : Int32) (c_acts : Int32) (c_drawn : Int64) (c_racer : Int32) (c_raced : Int32) (c_spelledMany : Int32) (c_hasImage : Int32) (c_now : Nat → Int32) : va_W := [(a_, .inr (9, [.int c_thrown, .ref a_tape, .int c_taped, .int c_at, .int c_part, .int c_partFrom, .int c_partNumber, .int c_wrong, .long c_partWord, .int c_readLaw, .int c_readBound, .int c_readGoal, .int c_readSites, .ref a_readPlace, .ref a_script, .ref a_scriptLong, .int c_scripts, .ref a_now, .ref a_refused, .int c_sites, .ref a_shareX, .ref a_shareY, .int c_asked, .int c_outcome, .ref a_askedRow, .int c_took, .ref a_kept, .int c_acts, .long c_drawn, .ref a_aside, .int c_racer, .int c_raced, .ref a_spelled, .int c_spelledMany, .ref a_image, .int c_hasImage])), (a_now, .inl (E.2.1, 265, .inl c_now))]
def v_f_X8_whyMove : List Cond := List.cons (.code yX8_whyMove cX8_whyMove 5 (some .int)) (HAppend.hAppend (α := List Cond) (β := List Cond) (γ := List Cond) [.constantLong RX8 281 (-9999), .constantLong RX8 283 (9999), .fieldLink RX8 22 "HushWatchModel" "now" "[I", .constantLong RX8 285 (-99999), .constantLong RX8 287 (99999), .methodLink RX8 278 yX8_isSite, .instanceMethod yX8_isSite, .selects RX8 yX8_isSite yX8_isSite, .initialized RX8, .methodLink RX8 60 yX8_in, .static yX8_in, .methodLink RX8 257 yX8_isFrozen, .instanceMethod yX8_isFrozen, .selects RX8 yX8_isFrozen yX8_isFrozen] (HAppend.hAppend (α := List Cond) (β := List Cond) (γ := List Cond) v_f_X8_isSite (HAppend.hAppend (α := List Cond) (β := List Cond) (γ := List Cond) v_f_X8_in (HAppend.hAppend (α := List Cond) (β := List Cond) (γ := List Cond) v_f_X8_isFrozen (HAppend.hAppend (α := List Cond) (β := List Cond) (γ := List Cond) wsX80 [])))))
theorem gw_f_X8_whyMove : v_f_X8_whyMove.all goodWord = true := by decide +kernel
theorem i_f_X8_whyMove_X8 : ∀ w ∈ wsX80, w ∈ v_f_X8_whyMove := fun _ h => List.mem_cons_of_mem _ (List.mem_append_right _ (List.mem_append_right _ (List.mem_append_right _ (List.mem_append_right _ (List.mem_append_left _ h)))))
theorem g_f_X8_whyMove_f_X8_isSite_278 : GoodIn v_f_X8_whyMove (wsV RX8 278 RX8 yX8_isSite v_f_X8_isSite) := goodIn_app (goodIn_of _ (by decide +kernel)) (goodIn_sub (fun _ h => List.mem_cons_of_mem _ (List.mem_append_right _ (List.mem_append_left _ h))) gw_f_X8_isSite)
theorem g_f_X8_whyMove_f_X8_in_60 : GoodIn v_f_X8_whyMove (va_wsS RX8 60 yX8_in v_f_X8_in) := goodIn_app (goodIn_of _ (by decide +kernel)) (goodIn_sub (fun _ h => List.mem_cons_of_mem _ (List.mem_append_right _ (List.mem_append_right _ (List.mem_append_left _ h)))) gw_f_X8_in)
theorem g_f_X8_whyMove_f_X8_isFrozen_257 : GoodIn v_f_X8_whyMove (wsV RX8 257 RX8 yX8_isFrozen v_f_X8_isFrozen) := goodIn_app (goodIn_of _ (by decide +kernel)) (goodIn_sub (fun _ h => List.mem_cons_of_mem _ (List.mem_append_right _ (List.mem_append_right _ (List.mem_append_right _ (List.mem_append_left _ h))))) gw_f_X8_isFrozen)
theorem hd_X8_whyMove : yX8_whyMove.cls = RX8 ∧ yX8_whyMove.cls ≠ "java/lang/invoke/MethodHandle" ∧ yX8_whyMove.cls ≠ "java/lang/invoke/VarHandle" ∧ (parseMethodDescriptor yX8_whyMove.desc).map (fun d => d.parameters.length) = some 3 := by decide +kernel
set_option maxHeartbeats 4000000 in
set_option maxRecDepth 100000 in
theorem j_X8_whyMove_90 {p : Program} (l : Launch) {e : Env} {s : State} {m : MethodId} {below : List Frame} {meth : Method} {c : Code} {Q : State → Prop} (E : EE) {a_ a_tape a_readPlace a_script a_scriptLong a_now a_refused a_shareX a_shareY a_askedRow a_kept a_aside a_spelled a_image : Nat} {p1 : Int32} {p2 : Int32} {p3 : Int32} {c_thrown : Int32} {c_taped : Int32} {c_at : Int32} {c_part : Int32} {c_partFrom : Int32} {c_partNumber : Int32} {c_wrong : Int32} {c_partWord : Int64} {c_readLaw : Int32} {c_readBound : Int32} {c_readGoal : Int32} {c_readSites : Int32} {c_scripts : Int32} {c_sites : Int32} {c_asked : Int32} {c_outcome : Int32} {c_took : Int32} {c_acts : Int32} {c_drawn : Int64} {c_racer : Int32} {c_raced : Int32} {c_spelledMany : Int32} {c_hasImage : Int32} {c_now : Nat → Int32} {k0 : Int32} (hx : p.tables.exec = Jvm.exec) (hb : c.code = cX8_whyMove) (hml : c.maxLocals = 5) (hown : s.vm.findClass RX8 = some m.cls) (hts : ∀ w ∈ v_f_X8_whyMove, w.before #[Value.ref a_, Value.int p1, Value.int p2, Value.int p3] s = true) (hK : va_K E.1 vwCl (TY E) s) (hN : NX s) {rr : Int32} (hr : meth.sig.returnType = (some .int)) (hlocks : meth.locks = false) (hQ : Q = MQ below (vp_Si (fun q : Int32 => q = rr)) #[Value.ref a_, Value.int p1, Value.int p2, Value.int p3] s 0 0 (fun _ => False)) (hF : J_X8_whyMove_90 p1 p2 p3 c_now k0 = some rr) (hP : va_P E.1 vwCl (w_X8_whyMove E a_ a_tape a_readPlace a_script a_scriptLong a_now a_refused a_shareX a_shareY a_askedRow a_kept a_aside a_spelled a_image c_thrown c_taped c_at c_part c_partFrom c_partNumber c_wrong c_partWord c_readLaw c_readBound c_readGoal c_readSites c_scripts c_sites c_asked c_outcome c_took c_acts c_drawn c_racer c_raced c_spelledMany c_hasImage c_now) s.heap) : ∀ (ls : Array Slot), lv_has ls 5 [(0, .ref a_), (1, .int p1), (2, .int p2), (3, .int p3)] → W p l e ({ frames := 2, cells := 0, slots := 0, locals := 46 } : Room) s m #[Value.ref a_, Value.int p1, Value.int p2, Value.int p3] below meth c s.heap [] 0 0 Q (F0 m 90 ls [.int k0]) := by
  unfold J_X8_whyMove_90 at hF
  replace hP : va_P E.1 vwCl [(a_, .inr (9, [.int c_thrown, .ref a_tape, .int c_taped, .int c_at, .int c_part, .int c_partFrom, .int c_partNumber, .int c_wrong, .long c_partWord, .int c_readLaw, .int c_readBound, .int c_readGoal, .int c_readSites, .ref a_readPlace, .ref a_script, .ref a_scriptLong, .int c_scripts, .ref a_now, .ref a_refused, .int c_sites, .ref a_shareX, .ref a_shareY, .int c_asked, .int c_outcome, .ref a_askedRow, .int c_took, .ref a_kept, .int c_acts, .long c_drawn, .ref a_aside, .int c_racer, .int c_raced, .ref a_spelled, .int c_spelledMany, .ref a_image, .int c_hasImage])), (a_now, .inl (E.2.1, 265, .inl c_now))] s.heap := hP
  intro ls hl
  refine lv_istore (lv' := [(4, .int k0), (0, .ref a_), (1, .int p1), (2, .int p2), (3, .int p3)]) hx hb dX8_whyMove_90 hl (by decide) rfl (fun ls hl => ?_)
  refine lv_iload hx hb dX8_whyMove_92 (lv_at hl 0 rfl) ?_
  refine lv_if_ne (tgt := 101) hx hb dX8_whyMove_94 (by decide) (fun c_9 => ?_) (fun c_9 => ?_)
  ·
    replace hF := inn c_9 hF
    refine lv_iload_n hx hb dX8_whyMove_101 rfl (lv_at hl 3 rfl) ?_
    refine lv_if_ne (tgt := 109) hx hb dX8_whyMove_102 (by decide) (fun c_10 => ?_) (fun c_10 => ?_)
    ·
      replace hF := inn c_10 hF
      refine lv_aload_n hx hb dX8_whyMove_109 rfl (lv_at hl 1 rfl) ?_
      refine lv_iload_n hx hb dX8_whyMove_110 rfl (lv_at hl 2 rfl) ?_
      replace hF := bd1_s hF
      obtain ⟨r_11, hc_12, hF⟩ := hF
      have hPc : va_P E.1 vwCl (w_X8_isFrozen E a_ a_tape a_readPlace a_script a_scriptLong a_now a_refused a_shareX a_shareY a_askedRow a_kept a_aside a_spelled a_image c_thrown c_taped c_at c_part c_partFrom c_partNumber c_wrong c_partWord c_readLaw c_readBound c_readGoal c_readSites c_scripts c_sites c_asked c_outcome c_took c_acts c_drawn c_racer c_raced c_spelledMany c_hasImage c_now) s.heap := hP.sub (ws' := [(a_, .inr (9, [.int c_thrown, .ref a_tape, .int c_taped, .int c_at, .int c_part, .int c_partFrom, .int c_partNumber, .int c_wrong, .long c_partWord, .int c_readLaw, .int c_readBound, .int c_readGoal, .int c_readSites, .ref a_readPlace, .ref a_script, .ref a_scriptLong, .int c_scripts, .ref a_now, .ref a_refused, .int c_sites, .ref a_shareX, .ref a_shareY, .int c_asked, .int c_outcome, .ref a_askedRow, .int c_took, .ref a_kept, .int c_acts, .long c_drawn, .ref a_aside, .int c_racer, .int c_raced, .ref a_spelled, .int c_spelledMany, .ref a_image, .int c_hasImage])), (a_now, .inl (E.2.1, 265, .inl c_now))]) [0, 1] rfl
      have hrc := va_recv hK hPc (ci := 9) (q0 := 0) rfl rfl
      refine pE_z (va_runV (As := [.int p1]) (rest := [])  ⟨hx, hb, hml, hown, hts⟩ (f_X8_isFrozen l E (a_ := a_) (a_tape := a_tape) (a_readPlace := a_readPlace) (a_script := a_script) (a_scriptLong := a_scriptLong) (a_now := a_now) (a_refused := a_refused) (a_shareX := a_shareX) (a_shareY := a_shareY) (a_askedRow := a_askedRow) (a_kept := a_kept) (a_aside := a_aside) (a_spelled := a_spelled) (a_image := a_image) (p1 := p1) (c_thrown := c_thrown) (c_taped := c_taped) (c_at := c_at) (c_part := c_part) (c_partFrom := c_partFrom) (c_partNumber := c_partNumber) (c_wrong := c_wrong) (c_partWord := c_partWord) (c_readLaw := c_readLaw) (c_readBound := c_readBound) (c_readGoal := c_readGoal) (c_readSites := c_readSites) (c_scripts := c_scripts) (c_sites := c_sites) (c_asked := c_asked) (c_outcome := c_outcome) (c_took := c_took) (c_acts := c_acts) (c_drawn := c_drawn) (c_racer := c_racer) (c_raced := c_raced) (c_spelledMany := c_spelledMany) (c_hasImage := c_hasImage) (c_now := c_now) hc_12) (cwV 1 hts g_f_X8_whyMove_f_X8_isFrozen_257 rfl rfl rfl hd_X8_isFrozen ⟨Nat.le_of_ble_eq_true rfl, Nat.le_of_ble_eq_true rfl⟩) ⟨pP.blind, hrc, (pP.pre ⟨hK, hN⟩ hPc)⟩ rfl rfl hl.1 rfl (lv_room (Nat.le_of_ble_eq_true rfl)) dX8_whyMove_111 ⟨Nat.le_of_ble_eq_true rfl, Nat.le_of_ble_eq_true rfl⟩) (fun hb_13 => ?_)
      refine lv_if_eq (tgt := 121) hx hb dX8_whyMove_114 (by decide) (fun c_14 => ?_) (fun c_14 => ?_)
      ·
        replace hF := ip c_14 hF
        refine lv_iconst (v := -1) hx hb dX8_whyMove_121 (by decide) ?_
        rw [hQ]
        obtain e9_0 := inj1 hF
        exact W.iret (v := (-1 : Int32)) hx hb hr (fun tt ht hW => ⟨_, rfl, e9_0, ht⟩) (fun _ h => by cases h) dX8_whyMove_122
      ·
        replace hF := inn c_14 hF
        refine lv_iconst (v := 2) hx hb dX8_whyMove_117 (by decide) ?_
        refine lv_goto (tgt := 122) hx hb dX8_whyMove_118 (by decide) ?_
        rw [hQ]
        obtain e9_0 := inj1 hF
        exact W.iret (v := (2 : Int32)) hx hb hr (fun tt ht hW => ⟨_, rfl, e9_0, ht⟩) (fun _ h => by cases h) dX8_whyMove_122
    ·
      replace hF := ip c_10 hF
      refine lv_iload_n hx hb dX8_whyMove_105 rfl (lv_at hl 4 rfl) ?_
      refine lv_if_eq (tgt := 117) hx hb dX8_whyMove_106 (by decide) (fun c_15 => ?_) (fun c_15 => ?_)
      ·
        replace hF := ip c_15 hF
        refine lv_iconst (v := 2) hx hb dX8_whyMove_117 (by decide) ?_
        refine lv_goto (tgt := 122) hx hb dX8_whyMove_118 (by decide) ?_
        rw [hQ]
        obtain e9_0 := inj1 hF
        exact W.iret (v := (2 : Int32)) hx hb hr (fun tt ht hW => ⟨_, rfl, e9_0, ht⟩) (fun _ h => by cases h) dX8_whyMove_122
      ·
        replace hF := inn c_15 hF
        refine lv_aload_n hx hb dX8_whyMove_109 rfl (lv_at hl 1 rfl) ?_
        refine lv_iload_n hx hb dX8_whyMove_110 rfl (lv_at hl 2 rfl) ?_
        replace hF := bd1_s hF
        obtain ⟨r_16, hc_17, hF⟩ := hF
        have hPc : va_P E.1 vwCl (w_X8_isFrozen E a_ a_tape a_readPlace a_script a_scriptLong a_now a_refused a_shareX a_shareY a_askedRow a_kept a_aside a_spelled a_image c_thrown c_taped c_at c_part c_partFrom c_partNumber c_wrong c_partWord c_readLaw c_readBound c_readGoal c_readSites c_scripts c_sites c_asked c_outcome c_took c_acts c_drawn c_racer c_raced c_spelledMany c_hasImage c_now) s.heap := hP.sub (ws' := [(a_, .inr (9, [.int c_thrown, .ref a_tape, .int c_taped, .int c_at, .int c_part, .int c_partFrom, .int c_partNumber, .int c_wrong, .long c_partWord, .int c_readLaw, .int c_readBound, .int c_readGoal, .int c_readSites, .ref a_readPlace, .ref a_script, .ref a_scriptLong, .int c_scripts, .ref a_now, .ref a_refused, .int c_sites, .ref a_shareX, .ref a_shareY, .int c_asked, .int c_outcome, .ref a_askedRow, .int c_took, .ref a_kept, .int c_acts, .long c_drawn, .ref a_aside, .int c_racer, .int c_raced, .ref a_spelled, .int c_spelledMany, .ref a_image, .int c_hasImage])), (a_now, .inl (E.2.1, 265, .inl c_now))]) [0, 1] rfl
        have hrc := va_recv hK hPc (ci := 9) (q0 := 0) rfl rfl
        refine pE_z (va_runV (As := [.int p1]) (rest := [])  ⟨hx, hb, hml, hown, hts⟩ (f_X8_isFrozen l E (a_ := a_) (a_tape := a_tape) (a_readPlace := a_readPlace) (a_script := a_script) (a_scriptLong := a_scriptLong) (a_now := a_now) (a_refused := a_refused) (a_shareX := a_shareX) (a_shareY := a_shareY) (a_askedRow := a_askedRow) (a_kept := a_kept) (a_aside := a_aside) (a_spelled := a_spelled) (a_image := a_image) (p1 := p1) (c_thrown := c_thrown) (c_taped := c_taped) (c_at := c_at) (c_part := c_part) (c_partFrom := c_partFrom) (c_partNumber := c_partNumber) (c_wrong := c_wrong) (c_partWord := c_partWord) (c_readLaw := c_readLaw) (c_readBound := c_readBound) (c_readGoal := c_readGoal) (c_readSites := c_readSites) (c_scripts := c_scripts) (c_sites := c_sites) (c_asked := c_asked) (c_outcome := c_outcome) (c_took := c_took) (c_acts := c_acts) (c_drawn := c_drawn) (c_racer := c_racer) (c_raced := c_raced) (c_spelledMany := c_spelledMany) (c_hasImage := c_hasImage) (c_now := c_now) hc_17) (cwV 1 hts g_f_X8_whyMove_f_X8_isFrozen_257 rfl rfl rfl hd_X8_isFrozen ⟨Nat.le_of_ble_eq_true rfl, Nat.le_of_ble_eq_true rfl⟩) ⟨pP.blind, hrc, (pP.pre ⟨hK, hN⟩ hPc)⟩ rfl rfl hl.1 rfl (lv_room (Nat.le_of_ble_eq_true rfl)) dX8_whyMove_111 ⟨Nat.le_of_ble_eq_true rfl, Nat.le_of_ble_eq_true rfl⟩) (fun hb_18 => ?_)
        refine lv_if_eq (tgt := 121) hx hb dX8_whyMove_114 (by decide) (fun c_19 => ?_) (fun c_19 => ?_)
        ·
          replace hF := ip c_19 hF
          refine lv_iconst (v := -1) hx hb dX8_whyMove_121 (by decide) ?_
          rw [hQ]
          obtain e9_0 := inj1 hF
          exact W.iret (v := (-1 : Int32)) hx hb hr (fun tt ht hW => ⟨_, rfl, e9_0, ht⟩) (fun _ h => by cases h) dX8_whyMove_122
        ·
          replace hF := inn c_19 hF
          refine lv_iconst (v := 2) hx hb dX8_whyMove_117 (by decide) ?_
          refine lv_goto (tgt := 122) hx hb dX8_whyMove_118 (by decide) ?_
          rw [hQ]
          obtain e9_0 := inj1 hF
          exact W.iret (v := (2 : Int32)) hx hb hr (fun tt ht hW => ⟨_, rfl, e9_0, ht⟩) (fun _ h => by cases h) dX8_whyMove_122
  ·
    replace hF := ip c_9 hF
    refine lv_iconst (v := 1) hx hb dX8_whyMove_97 (by decide) ?_
    refine lv_goto (tgt := 122) hx hb dX8_whyMove_98 (by decide) ?_
    rw [hQ]
    obtain e9_0 := inj1 hF
    exact W.iret (v := (1 : Int32)) hx hb hr (fun tt ht hW => ⟨_, rfl, e9_0, ht⟩) (fun _ h => by cases h) dX8_whyMove_122

set_option maxHeartbeats 4000000 in
set_option maxRecDepth 100000 in
theorem j_X8_whyMove_89 {p : Program} (l : Launch) {e : Env} {s : State} {m : MethodId} {below : List Frame} {meth : Method} {c : Code} {Q : State → Prop} (E : EE) {a_ a_tape a_readPlace a_script a_scriptLong a_now a_refused a_shareX a_shareY a_askedRow a_kept a_aside a_spelled a_image : Nat} {p1 : Int32} {p2 : Int32} {p3 : Int32} {c_thrown : Int32} {c_taped : Int32} {c_at : Int32} {c_part : Int32} {c_partFrom : Int32} {c_partNumber : Int32} {c_wrong : Int32} {c_partWord : Int64} {c_readLaw : Int32} {c_readBound : Int32} {c_readGoal : Int32} {c_readSites : Int32} {c_scripts : Int32} {c_sites : Int32} {c_asked : Int32} {c_outcome : Int32} {c_took : Int32} {c_acts : Int32} {c_drawn : Int64} {c_racer : Int32} {c_raced : Int32} {c_spelledMany : Int32} {c_hasImage : Int32} {c_now : Nat → Int32} (hx : p.tables.exec = Jvm.exec) (hb : c.code = cX8_whyMove) (hml : c.maxLocals = 5) (hown : s.vm.findClass RX8 = some m.cls) (hts : ∀ w ∈ v_f_X8_whyMove, w.before #[Value.ref a_, Value.int p1, Value.int p2, Value.int p3] s = true) (hK : va_K E.1 vwCl (TY E) s) (hN : NX s) {rr : Int32} (hr : meth.sig.returnType = (some .int)) (hlocks : meth.locks = false) (hQ : Q = MQ below (vp_Si (fun q : Int32 => q = rr)) #[Value.ref a_, Value.int p1, Value.int p2, Value.int p3] s 0 0 (fun _ => False)) (hF : J_X8_whyMove_89 p1 p2 p3 c_now = some rr) (hP : va_P E.1 vwCl (w_X8_whyMove E a_ a_tape a_readPlace a_script a_scriptLong a_now a_refused a_shareX a_shareY a_askedRow a_kept a_aside a_spelled a_image c_thrown c_taped c_at c_part c_partFrom c_partNumber c_wrong c_partWord c_readLaw c_readBound c_readGoal c_readSites c_scripts c_sites c_asked c_outcome c_took c_acts c_drawn c_racer c_raced c_spelledMany c_hasImage c_now) s.heap) : ∀ (ls : Array Slot), lv_has ls 5 [(0, .ref a_), (1, .int p1), (2, .int p2), (3, .int p3)] → W p l e ({ frames := 2, cells := 0, slots := 0, locals := 46 } : Room) s m #[Value.ref a_, Value.int p1, Value.int p2, Value.int p3] below meth c s.heap [] 0 0 Q (F0 m 89 ls []) := by
  unfold J_X8_whyMove_89 at hF
  replace hP : va_P E.1 vwCl [(a_, .inr (9, [.int c_thrown, .ref a_tape, .int c_taped, .int c_at, .int c_part, .int c_partFrom, .int c_partNumber, .int c_wrong, .long c_partWord, .int c_readLaw, .int c_readBound, .int c_readGoal, .int c_readSites, .ref a_readPlace, .ref a_script, .ref a_scriptLong, .int c_scripts, .ref a_now, .ref a_refused, .int c_sites, .ref a_shareX, .ref a_shareY, .int c_asked, .int c_outcome, .ref a_askedRow, .int c_took, .ref a_kept, .int c_acts, .long c_drawn, .ref a_aside, .int c_racer, .int c_raced, .ref a_spelled, .int c_spelledMany, .ref a_image, .int c_hasImage])), (a_now, .inl (E.2.1, 265, .inl c_now))] s.heap := hP
  intro ls hl
  refine lv_iconst (v := 0) hx hb dX8_whyMove_89 (by decide) ?_
  exact j_X8_whyMove_90 l E (p1 := p1) (p2 := p2) (p3 := p3) (c_thrown := c_thrown) (c_taped := c_taped) (c_at := c_at) (c_part := c_part) (c_partFrom := c_partFrom) (c_partNumber := c_partNumber) (c_wrong := c_wrong) (c_partWord := c_partWord) (c_readLaw := c_readLaw) (c_readBound := c_readBound) (c_readGoal := c_readGoal) (c_readSites := c_readSites) (c_scripts := c_scripts) (c_sites := c_sites) (c_asked := c_asked) (c_outcome := c_outcome) (c_took := c_took) (c_acts := c_acts) (c_drawn := c_drawn) (c_racer := c_racer) (c_raced := c_raced) (c_spelledMany := c_spelledMany) (c_hasImage := c_hasImage) (c_now := c_now) (k0 := (0 : Int32)) hx hb hml hown hts hK hN hr hlocks hQ hF hP ls (lv_sub hl [0, 1, 2, 3] rfl)

set_option maxHeartbeats 4000000 in
set_option maxRecDepth 100000 in
theorem f_X8_whyMove (l : Launch) (E : EE) {a_ a_tape a_readPlace a_script a_scriptLong a_now a_refused a_shareX a_shareY a_askedRow a_kept a_aside a_spelled a_image : Nat} {p1 : Int32} {p2 : Int32} {p3 : Int32} {c_thrown : Int32} {c_taped : Int32} {c_at : Int32} {c_part : Int32} {c_partFrom : Int32} {c_partNumber : Int32} {c_wrong : Int32} {c_partWord : Int64} {c_readLaw : Int32} {c_readBound : Int32} {c_readGoal : Int32} {c_readSites : Int32} {c_scripts : Int32} {c_sites : Int32} {c_asked : Int32} {c_outcome : Int32} {c_took : Int32} {c_acts : Int32} {c_drawn : Int64} {c_racer : Int32} {c_raced : Int32} {c_spelledMany : Int32} {c_hasImage : Int32} {c_now : Nat → Int32} {rr : Int32} (hF : F_X8_whyMove p1 p2 p3 c_now c_sites = some rr) : Met l yX8_whyMove v_f_X8_whyMove (({ frames := 2, cells := 0, slots := 0, locals := 46 } : Room)) (va_Pc [.ref a_, .int p1, .int p2, .int p3] (pP E (w_X8_whyMove E a_ a_tape a_readPlace a_script a_scriptLong a_now a_refused a_shareX a_shareY a_askedRow a_kept a_aside a_spelled a_image c_thrown c_taped c_at c_part c_partFrom c_partNumber c_wrong c_partWord c_readLaw c_readBound c_readGoal c_readSites c_scripts c_sites c_asked c_outcome c_took c_acts c_drawn c_racer c_raced c_spelledMany c_hasImage c_now))) (vp_Si (fun q : Int32 => q = rr)) 0 0 (fun _ => False) := by
  refine Met.ofW (cc := cX8_whyMove) (maxL := 5) (ret := (some .int)) (by decide) rfl ?_
  intro p e s m args below meth c s₁ B hml hv
  obtain ⟨rfl, ⟨hK, hN⟩, hP⟩ := hv
  have hx := B.exec
  have hb := B.bytes
  have hr := B.returns
  have hts := atoms_spec (ws := v_f_X8_whyMove) B.pre
  have hown : s.vm.findClass RX8 = some m.cls := own_of hd_X8_whyMove.1 (findClass_of_methodNamed B.named)
  have hlocks : meth.locks = false := B.notSynchronized
  replace hP : va_P E.1 vwCl [(a_, .inr (9, [.int c_thrown, .ref a_tape, .int c_taped, .int c_at, .int c_part, .int c_partFrom, .int c_partNumber, .int c_wrong, .long c_partWord, .int c_readLaw, .int c_readBound, .int c_readGoal, .int c_readSites, .ref a_readPlace, .ref a_script, .ref a_scriptLong, .int c_scripts, .ref a_now, .ref a_refused, .int c_sites, .ref a_shareX, .ref a_shareY, .int c_asked, .int c_outcome, .ref a_askedRow, .int c_took, .ref a_kept, .int c_acts, .long c_drawn, .ref a_aside, .int c_racer, .int c_raced, .ref a_spelled, .int c_spelledMany, .ref a_image, .int c_hasImage])), (a_now, .inl (E.2.1, 265, .inl c_now))] s.heap := hP
  have hl := lv_entry ([.ref a_, .int p1, .int p2, .int p3]) (n := 5) (Nat.le_of_ble_eq_true rfl)
  rw [lg_entry_eq]
  generalize (lg_sl ([.ref a_, .int p1, .int p2, .int p3]) ++ List.replicate (5 - (lg_sl ([.ref a_, .int p1, .int p2, .int p3])).length) Slot.unset).toArray = ls at hl ⊢
  have hl : lv_has ls 5 [(0, .ref a_), (1, .int p1), (2, .int p2), (3, .int p3)] := hl
  obtain ⟨Q, hQ⟩ : ∃ Q : State → Prop, Q = MQ below (vp_Si (fun q : Int32 => q = rr)) #[Value.ref a_, Value.int p1, Value.int p2, Value.int p3] s 0 0 (fun _ => False) := ⟨_, rfl⟩
  rw [← hQ]
  change W p l e ({ frames := 2, cells := 0, slots := 0, locals := 46 } : Room) s m #[Value.ref a_, Value.int p1, Value.int p2, Value.int p3] below meth c s.heap [] 0 0 Q (F0 m 0 ls [])
  unfold F_X8_whyMove at hF
  refine lv_aload_n hx hb dX8_whyMove_0 rfl (lv_at hl 0 rfl) ?_
  refine lv_iload_n hx hb dX8_whyMove_1 rfl (lv_at hl 1 rfl) ?_
  replace hF := bd1_s hF
  obtain ⟨r_1, hc_2, hF⟩ := hF
  have hPc : va_P E.1 vwCl (w_X8_isSite E a_ a_tape a_readPlace a_script a_scriptLong a_now a_refused a_shareX a_shareY a_askedRow a_kept a_aside a_spelled a_image c_thrown c_taped c_at c_part c_partFrom c_partNumber c_wrong c_partWord c_readLaw c_readBound c_readGoal c_readSites c_scripts c_sites c_asked c_outcome c_took c_acts c_drawn c_racer c_raced c_spelledMany c_hasImage) s.heap := hP.sub (ws' := [(a_, .inr (9, [.int c_thrown, .ref a_tape, .int c_taped, .int c_at, .int c_part, .int c_partFrom, .int c_partNumber, .int c_wrong, .long c_partWord, .int c_readLaw, .int c_readBound, .int c_readGoal, .int c_readSites, .ref a_readPlace, .ref a_script, .ref a_scriptLong, .int c_scripts, .ref a_now, .ref a_refused, .int c_sites, .ref a_shareX, .ref a_shareY, .int c_asked, .int c_outcome, .ref a_askedRow, .int c_took, .ref a_kept, .int c_acts, .long c_drawn, .ref a_aside, .int c_racer, .int c_raced, .ref a_spelled, .int c_spelledMany, .ref a_image, .int c_hasImage]))]) [0] rfl
  have hrc := va_recv hK hPc (ci := 9) (q0 := 0) rfl rfl
  refine pE_z (va_runV (As := [.int p1]) (rest := [])  ⟨hx, hb, hml, hown, hts⟩ (f_X8_isSite l E (a_ := a_) (a_tape := a_tape) (a_readPlace := a_readPlace) (a_script := a_script) (a_scriptLong := a_scriptLong) (a_now := a_now) (a_refused := a_refused) (a_shareX := a_shareX) (a_shareY := a_shareY) (a_askedRow := a_askedRow) (a_kept := a_kept) (a_aside := a_aside) (a_spelled := a_spelled) (a_image := a_image) (p1 := p1) (c_thrown := c_thrown) (c_taped := c_taped) (c_at := c_at) (c_part := c_part) (c_partFrom := c_partFrom) (c_partNumber := c_partNumber) (c_wrong := c_wrong) (c_partWord := c_partWord) (c_readLaw := c_readLaw) (c_readBound := c_readBound) (c_readGoal := c_readGoal) (c_readSites := c_readSites) (c_scripts := c_scripts) (c_sites := c_sites) (c_asked := c_asked) (c_outcome := c_outcome) (c_took := c_took) (c_acts := c_acts) (c_drawn := c_drawn) (c_racer := c_racer) (c_raced := c_raced) (c_spelledMany := c_spelledMany) (c_hasImage := c_hasImage) hc_2) (cwV 1 hts g_f_X8_whyMove_f_X8_isSite_278 rfl rfl rfl hd_X8_isSite ⟨Nat.le_of_ble_eq_true rfl, Nat.le_of_ble_eq_true rfl⟩) ⟨pP.blind, hrc, (pP.pre ⟨hK, hN⟩ hPc)⟩ rfl rfl hl.1 rfl (lv_room (Nat.le_of_ble_eq_true rfl)) dX8_whyMove_2 ⟨Nat.le_of_ble_eq_true rfl, Nat.le_of_ble_eq_true rfl⟩) (fun hb_3 => ?_)
  refine lv_if_ne (tgt := 10) hx hb dX8_whyMove_5 (by decide) (fun c_4 => ?_) (fun c_4 => ?_)
  ·
    replace hF := inn c_4 hF
    refine lv_iload_n hx hb dX8_whyMove_10 rfl (lv_at hl 2 rfl) ?_
    refine lv_i2l (v := p2.toInt64) hx hb dX8_whyMove_11 rfl ?_
    refine lv_ldc2 (v := -9999) hx hb hown (hts (.constantLong RX8 281 (-9999)) (List.mem_of_getElem? (i := 1) rfl)) dX8_whyMove_12 ?_
    refine lv_ldc2 (v := 9999) hx hb hown (hts (.constantLong RX8 283 (9999)) (List.mem_of_getElem? (i := 2) rfl)) dX8_whyMove_15 ?_
    replace hF := bd1_s hF
    obtain ⟨r_5, hc_6, hF⟩ := hF
    have hPc : va_P E.1 vwCl [] s.heap := fun k q h => by simp at h
    refine pE_z (va_runS (As := [.long p2.toInt64, .long (-9999 : Int64), .long (9999 : Int64)]) (rest := [])  ⟨hx, hb, hml, hown, hts⟩ (f_X8_in l E (p0 := p2.toInt64) (p1 := (-9999 : Int64)) (p2 := (9999 : Int64)) hc_6) (va_cwS 3 hts g_f_X8_whyMove_f_X8_in_60 rfl rfl rfl hd_X8_in.2 ⟨Nat.le_of_ble_eq_true rfl, Nat.le_of_ble_eq_true rfl⟩) ⟨pP.blind, (pP.pre ⟨hK, hN⟩ hPc)⟩ rfl rfl hl.1 rfl (lv_room (Nat.le_of_ble_eq_true rfl)) dX8_whyMove_18 ⟨Nat.le_of_ble_eq_true rfl, Nat.le_of_ble_eq_true rfl⟩) (fun hb_7 => ?_)
    refine lv_if_eq (tgt := 89) hx hb dX8_whyMove_21 (by decide) (fun c_8 => ?_) (fun c_8 => ?_)
    ·
      replace hF := ip c_8 hF
      exact j_X8_whyMove_89 l E (p1 := p1) (p2 := p2) (p3 := p3) (c_thrown := c_thrown) (c_taped := c_taped) (c_at := c_at) (c_part := c_part) (c_partFrom := c_partFrom) (c_partNumber := c_partNumber) (c_wrong := c_wrong) (c_partWord := c_partWord) (c_readLaw := c_readLaw) (c_readBound := c_readBound) (c_readGoal := c_readGoal) (c_readSites := c_readSites) (c_scripts := c_scripts) (c_sites := c_sites) (c_asked := c_asked) (c_outcome := c_outcome) (c_took := c_took) (c_acts := c_acts) (c_drawn := c_drawn) (c_racer := c_racer) (c_raced := c_raced) (c_spelledMany := c_spelledMany) (c_hasImage := c_hasImage) (c_now := c_now) hx hb hml hown hts hK hN hr hlocks hQ hF hP ls (lv_sub hl [0, 1, 2, 3] rfl)
    ·
      replace hF := inn c_8 hF
      refine lv_iload_n hx hb dX8_whyMove_24 rfl (lv_at hl 3 rfl) ?_
      refine lv_i2l (v := p3.toInt64) hx hb dX8_whyMove_25 rfl ?_
      refine lv_ldc2 (v := -9999) hx hb hown (hts (.constantLong RX8 281 (-9999)) (List.mem_of_getElem? (i := 1) rfl)) dX8_whyMove_26 ?_
      refine lv_ldc2 (v := 9999) hx hb hown (hts (.constantLong RX8 283 (9999)) (List.mem_of_getElem? (i := 2) rfl)) dX8_whyMove_29 ?_
      replace hF := bd1_s hF
      obtain ⟨r_20, hc_21, hF⟩ := hF
      have hPc : va_P E.1 vwCl [] s.heap := fun k q h => by simp at h
      refine pE_z (va_runS (As := [.long p3.toInt64, .long (-9999 : Int64), .long (9999 : Int64)]) (rest := [])  ⟨hx, hb, hml, hown, hts⟩ (f_X8_in l E (p0 := p3.toInt64) (p1 := (-9999 : Int64)) (p2 := (9999 : Int64)) hc_21) (va_cwS 3 hts g_f_X8_whyMove_f_X8_in_60 rfl rfl rfl hd_X8_in.2 ⟨Nat.le_of_ble_eq_true rfl, Nat.le_of_ble_eq_true rfl⟩) ⟨pP.blind, (pP.pre ⟨hK, hN⟩ hPc)⟩ rfl rfl hl.1 rfl (lv_room (Nat.le_of_ble_eq_true rfl)) dX8_whyMove_32 ⟨Nat.le_of_ble_eq_true rfl, Nat.le_of_ble_eq_true rfl⟩) (fun hb_22 => ?_)
      refine lv_if_eq (tgt := 89) hx hb dX8_whyMove_35 (by decide) (fun c_23 => ?_) (fun c_23 => ?_)
      ·
        replace hF := ip c_23 hF
        exact j_X8_whyMove_89 l E (p1 := p1) (p2 := p2) (p3 := p3) (c_thrown := c_thrown) (c_taped := c_taped) (c_at := c_at) (c_part := c_part) (c_partFrom := c_partFrom) (c_partNumber := c_partNumber) (c_wrong := c_wrong) (c_partWord := c_partWord) (c_readLaw := c_readLaw) (c_readBound := c_readBound) (c_readGoal := c_readGoal) (c_readSites := c_readSites) (c_scripts := c_scripts) (c_sites := c_sites) (c_asked := c_asked) (c_outcome := c_outcome) (c_took := c_took) (c_acts := c_acts) (c_drawn := c_drawn) (c_racer := c_racer) (c_raced := c_raced) (c_spelledMany := c_spelledMany) (c_hasImage := c_hasImage) (c_now := c_now) hx hb hml hown hts hK hN hr hlocks hQ hF hP ls (lv_sub hl [0, 1, 2, 3] rfl)
      ·
        replace hF := inn c_23 hF
        refine lv_aload_n hx hb dX8_whyMove_38 rfl (lv_at hl 0 rfl) ?_
        refine gt_X8_17 (v := .ref a_now) hx hb hts i_f_X8_whyMove_X8 hown hK hP 0 rfl (hts (.fieldLink RX8 22 "HushWatchModel" "now" "[I") (List.mem_of_getElem? (i := 3) rfl)) rfl dX8_whyMove_39 ?_
        refine lv_iconst (v := 0) hx hb dX8_whyMove_42 (by decide) ?_
        refine lv_iload_n hx hb dX8_whyMove_43 rfl (lv_at hl 1 rfl) ?_
        refine lv_iadd hx hb dX8_whyMove_44 ?_
        replace hF := ix_s hF
        obtain ⟨hi_24, hF⟩ := hF
        refine va_iald hx hb hK hP 1 0 rfl rfl hi_24 dX8_whyMove_45 ?_
        refine lv_iload_n hx hb dX8_whyMove_46 rfl (lv_at hl 2 rfl) ?_
        refine lv_iadd hx hb dX8_whyMove_47 ?_
        refine lv_i2l (v := ((c_now ((0 : Int32) + p1).toNatClampNeg) + p2).toInt64) hx hb dX8_whyMove_48 rfl ?_
        refine lv_ldc2 (v := -99999) hx hb hown (hts (.constantLong RX8 285 (-99999)) (List.mem_of_getElem? (i := 4) rfl)) dX8_whyMove_49 ?_
        refine lv_ldc2 (v := 99999) hx hb hown (hts (.constantLong RX8 287 (99999)) (List.mem_of_getElem? (i := 5) rfl)) dX8_whyMove_52 ?_
        replace hF := bd1_s hF
        obtain ⟨r_25, hc_26, hF⟩ := hF
        have hPc : va_P E.1 vwCl [] s.heap := fun k q h => by simp at h
        refine pE_z (va_runS (As := [.long (((c_now ((0 : Int32) + p1).toNatClampNeg) + p2).toInt64), .long (-99999 : Int64), .long (99999 : Int64)]) (rest := [])  ⟨hx, hb, hml, hown, hts⟩ (f_X8_in l E (p0 := ((c_now ((0 : Int32) + p1).toNatClampNeg) + p2).toInt64) (p1 := (-99999 : Int64)) (p2 := (99999 : Int64)) hc_26) (va_cwS 3 hts g_f_X8_whyMove_f_X8_in_60 rfl rfl rfl hd_X8_in.2 ⟨Nat.le_of_ble_eq_true rfl, Nat.le_of_ble_eq_true rfl⟩) ⟨pP.blind, (pP.pre ⟨hK, hN⟩ hPc)⟩ rfl rfl hl.1 rfl (lv_room (Nat.le_of_ble_eq_true rfl)) dX8_whyMove_55 ⟨Nat.le_of_ble_eq_true rfl, Nat.le_of_ble_eq_true rfl⟩) (fun hb_27 => ?_)
        refine lv_if_eq (tgt := 89) hx hb dX8_whyMove_58 (by decide) (fun c_28 => ?_) (fun c_28 => ?_)
        ·
          replace hF := ip c_28 hF
          exact j_X8_whyMove_89 l E (p1 := p1) (p2 := p2) (p3 := p3) (c_thrown := c_thrown) (c_taped := c_taped) (c_at := c_at) (c_part := c_part) (c_partFrom := c_partFrom) (c_partNumber := c_partNumber) (c_wrong := c_wrong) (c_partWord := c_partWord) (c_readLaw := c_readLaw) (c_readBound := c_readBound) (c_readGoal := c_readGoal) (c_readSites := c_readSites) (c_scripts := c_scripts) (c_sites := c_sites) (c_asked := c_asked) (c_outcome := c_outcome) (c_took := c_took) (c_acts := c_acts) (c_drawn := c_drawn) (c_racer := c_racer) (c_raced := c_raced) (c_spelledMany := c_spelledMany) (c_hasImage := c_hasImage) (c_now := c_now) hx hb hml hown hts hK hN hr hlocks hQ hF hP ls (lv_sub hl [0, 1, 2, 3] rfl)
        ·
          replace hF := inn c_28 hF
          refine lv_aload_n hx hb dX8_whyMove_61 rfl (lv_at hl 0 rfl) ?_
          refine gt_X8_17 (v := .ref a_now) hx hb hts i_f_X8_whyMove_X8 hown hK hP 0 rfl (hts (.fieldLink RX8 22 "HushWatchModel" "now" "[I") (List.mem_of_getElem? (i := 3) rfl)) rfl dX8_whyMove_62 ?_
          refine lv_bipush (v := 8) hx hb dX8_whyMove_65 (by decide) ?_
          refine lv_iload_n hx hb dX8_whyMove_67 rfl (lv_at hl 1 rfl) ?_
          refine lv_iadd hx hb dX8_whyMove_68 ?_
          replace hF := ix_s hF
          obtain ⟨hi_29, hF⟩ := hF
          refine va_iald hx hb hK hP 1 0 rfl rfl hi_29 dX8_whyMove_69 ?_
          refine lv_iload_n hx hb dX8_whyMove_70 rfl (lv_at hl 3 rfl) ?_
          refine lv_iadd hx hb dX8_whyMove_71 ?_
          refine lv_i2l (v := ((c_now ((8 : Int32) + p1).toNatClampNeg) + p3).toInt64) hx hb dX8_whyMove_72 rfl ?_
          refine lv_ldc2 (v := -99999) hx hb hown (hts (.constantLong RX8 285 (-99999)) (List.mem_of_getElem? (i := 4) rfl)) dX8_whyMove_73 ?_
          refine lv_ldc2 (v := 99999) hx hb hown (hts (.constantLong RX8 287 (99999)) (List.mem_of_getElem? (i := 5) rfl)) dX8_whyMove_76 ?_
          replace hF := bd1_s hF
          obtain ⟨r_30, hc_31, hF⟩ := hF
          have hPc : va_P E.1 vwCl [] s.heap := fun k q h => by simp at h
          refine pE_z (va_runS (As := [.long (((c_now ((8 : Int32) + p1).toNatClampNeg) + p3).toInt64), .long (-99999 : Int64), .long (99999 : Int64)]) (rest := [])  ⟨hx, hb, hml, hown, hts⟩ (f_X8_in l E (p0 := ((c_now ((8 : Int32) + p1).toNatClampNeg) + p3).toInt64) (p1 := (-99999 : Int64)) (p2 := (99999 : Int64)) hc_31) (va_cwS 3 hts g_f_X8_whyMove_f_X8_in_60 rfl rfl rfl hd_X8_in.2 ⟨Nat.le_of_ble_eq_true rfl, Nat.le_of_ble_eq_true rfl⟩) ⟨pP.blind, (pP.pre ⟨hK, hN⟩ hPc)⟩ rfl rfl hl.1 rfl (lv_room (Nat.le_of_ble_eq_true rfl)) dX8_whyMove_79 ⟨Nat.le_of_ble_eq_true rfl, Nat.le_of_ble_eq_true rfl⟩) (fun hb_32 => ?_)
          refine lv_if_eq (tgt := 89) hx hb dX8_whyMove_82 (by decide) (fun c_33 => ?_) (fun c_33 => ?_)
          ·
            replace hF := ip c_33 hF
            exact j_X8_whyMove_89 l E (p1 := p1) (p2 := p2) (p3 := p3) (c_thrown := c_thrown) (c_taped := c_taped) (c_at := c_at) (c_part := c_part) (c_partFrom := c_partFrom) (c_partNumber := c_partNumber) (c_wrong := c_wrong) (c_partWord := c_partWord) (c_readLaw := c_readLaw) (c_readBound := c_readBound) (c_readGoal := c_readGoal) (c_readSites := c_readSites) (c_scripts := c_scripts) (c_sites := c_sites) (c_asked := c_asked) (c_outcome := c_outcome) (c_took := c_took) (c_acts := c_acts) (c_drawn := c_drawn) (c_racer := c_racer) (c_raced := c_raced) (c_spelledMany := c_spelledMany) (c_hasImage := c_hasImage) (c_now := c_now) hx hb hml hown hts hK hN hr hlocks hQ hF hP ls (lv_sub hl [0, 1, 2, 3] rfl)
          ·
            replace hF := inn c_33 hF
            refine lv_iconst (v := 1) hx hb dX8_whyMove_85 (by decide) ?_
            refine lv_goto (tgt := 90) hx hb dX8_whyMove_86 (by decide) ?_
            exact j_X8_whyMove_90 l E (p1 := p1) (p2 := p2) (p3 := p3) (c_thrown := c_thrown) (c_taped := c_taped) (c_at := c_at) (c_part := c_part) (c_partFrom := c_partFrom) (c_partNumber := c_partNumber) (c_wrong := c_wrong) (c_partWord := c_partWord) (c_readLaw := c_readLaw) (c_readBound := c_readBound) (c_readGoal := c_readGoal) (c_readSites := c_readSites) (c_scripts := c_scripts) (c_sites := c_sites) (c_asked := c_asked) (c_outcome := c_outcome) (c_took := c_took) (c_acts := c_acts) (c_drawn := c_drawn) (c_racer := c_racer) (c_raced := c_raced) (c_spelledMany := c_spelledMany) (c_hasImage := c_hasImage) (c_now := c_now) (k0 := (1 : Int32)) hx hb hml hown hts hK hN hr hlocks hQ hF hP ls (lv_sub hl [0, 1, 2, 3] rfl)
  ·
    replace hF := ip c_4 hF
    refine lv_iconst (v := 0) hx hb dX8_whyMove_8 (by decide) ?_
    rw [hQ]
    obtain e9_0 := inj1 hF
    exact W.iret (v := (0 : Int32)) hx hb hr (fun tt ht hW => ⟨_, rfl, e9_0, ht⟩) (fun _ h => by cases h) dX8_whyMove_9
