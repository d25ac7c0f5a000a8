def dl_X7_count_40_pub02_0 : List (Nat × Instr × Nat) := [(0, .aload_n 0, 1), (1, .getfield 35, 3), (4, .invokevirtual 110, 3), (7, .ifCond .ne 5, 3), (12, .iload_n 1, 1), (13, .tableswitch 116 0 5 #[39, 50, 68, 79, 90, 106], 39), (52, .aload_n 0, 1), (53, .getfield 35, 3), (56, .getfield 114, 3), (59, .bipush 8, 2), (61, .iaload, 1), (62, .ireturn, 1), (63, .aload_n 0, 1), (64, .getfield 35, 3), (67, .aload_n 0, 1), (68, .getfield 35, 3), (71, .getfield 114, 3), (74, .bipush 8, 2), (76, .iaload, 1), (77, .invokevirtual 167, 3), (80, .ireturn, 1), (81, .aload_n 0, 1), (82, .getfield 35, 3), (85, .getfield 114, 3), (88, .bipush 9, 2), (90, .iaload, 1), (91, .ireturn, 1), (92, .aload_n 0, 1), (93, .getfield 35, 3), (96, .getfield 114, 3), (99, .bipush 10, 2), (101, .iaload, 1), (102, .ireturn, 1), (103, .aload_n 0, 1), (104, .getfield 35, 3), (107, .invokevirtual 170, 3), (110, .ifCond .eq 7, 3), (117, .iconst 0, 1), (118, .ireturn, 1), (113, .iconst 1, 1), (114, .goto 4, 3), (119, .aload_n 0, 1), (120, .getfield 35, 3), (123, .bipush 6, 2), (125, .invokevirtual 160, 3), (128, .ireturn, 1), (129, .iconst (-1), 1), (130, .ireturn, 1), (10, .iconst (-1), 1), (11, .ireturn, 1)]
set_option maxRecDepth 100000 in
theorem dall_X7_count_40_pub02_0 : dchk cX7_count dl_X7_count_40_pub02_0 = true := by decide +kernel
theorem dX7_count_0 : decode cX7_count 0 = .ok (.aload_n 0, 1) := dchk_at dall_X7_count_40_pub02_0 (k := 0) rfl
theorem dX7_count_1 : decode cX7_count 1 = .ok (.getfield 35, 3) := dchk_at dall_X7_count_40_pub02_0 (k := 1) rfl
theorem dX7_count_4 : decode cX7_count 4 = .ok (.invokevirtual 110, 3) := dchk_at dall_X7_count_40_pub02_0 (k := 2) rfl
theorem dX7_count_7 : decode cX7_count 7 = .ok (.ifCond .ne 5, 3) := dchk_at dall_X7_count_40_pub02_0 (k := 3) rfl
theorem dX7_count_12 : decode cX7_count 12 = .ok (.iload_n 1, 1) := dchk_at dall_X7_count_40_pub02_0 (k := 4) rfl
theorem dX7_count_13 : decode cX7_count 13 = .ok (.tableswitch 116 0 5 #[39, 50, 68, 79, 90, 106], 39) := dchk_at dall_X7_count_40_pub02_0 (k := 5) rfl
theorem dX7_count_52 : decode cX7_count 52 = .ok (.aload_n 0, 1) := dchk_at dall_X7_count_40_pub02_0 (k := 6) rfl
theorem dX7_count_53 : decode cX7_count 53 = .ok (.getfield 35, 3) := dchk_at dall_X7_count_40_pub02_0 (k := 7) rfl
theorem dX7_count_56 : decode cX7_count 56 = .ok (.getfield 114, 3) := dchk_at dall_X7_count_40_pub02_0 (k := 8) rfl
theorem dX7_count_59 : decode cX7_count 59 = .ok (.bipush 8, 2) := dchk_at dall_X7_count_40_pub02_0 (k := 9) rfl
theorem dX7_count_61 : decode cX7_count 61 = .ok (.iaload, 1) := dchk_at dall_X7_count_40_pub02_0 (k := 10) rfl
theorem dX7_count_62 : decode cX7_count 62 = .ok (.ireturn, 1) := dchk_at dall_X7_count_40_pub02_0 (k := 11) rfl
theorem dX7_count_63 : decode cX7_count 63 = .ok (.aload_n 0, 1) := dchk_at dall_X7_count_40_pub02_0 (k := 12) rfl
theorem dX7_count_64 : decode cX7_count 64 = .ok (.getfield 35, 3) := dchk_at dall_X7_count_40_pub02_0 (k := 13) rfl
theorem dX7_count_67 : decode cX7_count 67 = .ok (.aload_n 0, 1) := dchk_at dall_X7_count_40_pub02_0 (k := 14) rfl
theorem dX7_count_68 : decode cX7_count 68 = .ok (.getfield 35, 3) := dchk_at dall_X7_count_40_pub02_0 (k := 15) rfl
theorem dX7_count_71 : decode cX7_count 71 = .ok (.getfield 114, 3) := dchk_at dall_X7_count_40_pub02_0 (k := 16) rfl
theorem dX7_count_74 : decode cX7_count 74 = .ok (.bipush 8, 2) := dchk_at dall_X7_count_40_pub02_0 (k := 17) rfl
theorem dX7_count_76 : decode cX7_count 76 = .ok (.iaload, 1) := dchk_at dall_X7_count_40_pub02_0 (k := 18) rfl
theorem dX7_count_77 : decode cX7_count 77 = .ok (.invokevirtual 167, 3) := dchk_at dall_X7_count_40_pub02_0 (k := 19) rfl
theorem dX7_count_80 : decode cX7_count 80 = .ok (.ireturn, 1) := dchk_at dall_X7_count_40_pub02_0 (k := 20) rfl
theorem dX7_count_81 : decode cX7_count 81 = .ok (.aload_n 0, 1) := dchk_at dall_X7_count_40_pub02_0 (k := 21) rfl
theorem dX7_count_82 : decode cX7_count 82 = .ok (.getfield 35, 3) := dchk_at dall_X7_count_40_pub02_0 (k := 22) rfl
theorem dX7_count_85 : decode cX7_count 85 = .ok (.getfield 114, 3) := dchk_at dall_X7_count_40_pub02_0 (k := 23) rfl
theorem dX7_count_88 : decode cX7_count 88 = .ok (.bipush 9, 2) := dchk_at dall_X7_count_40_pub02_0 (k := 24) rfl
theorem dX7_count_90 : decode cX7_count 90 = .ok (.iaload, 1) := dchk_at dall_X7_count_40_pub02_0 (k := 25) rfl
theorem dX7_count_91 : decode cX7_count 91 = .ok (.ireturn, 1) := dchk_at dall_X7_count_40_pub02_0 (k := 26) rfl
theorem dX7_count_92 : decode cX7_count 92 = .ok (.aload_n 0, 1) := dchk_at dall_X7_count_40_pub02_0 (k := 27) rfl
theorem dX7_count_93 : decode cX7_count 93 = .ok (.getfield 35, 3) := dchk_at dall_X7_count_40_pub02_0 (k := 28) rfl
theorem dX7_count_96 : decode cX7_count 96 = .ok (.getfield 114, 3) := dchk_at dall_X7_count_40_pub02_0 (k := 29) rfl
theorem dX7_count_99 : decode cX7_count 99 = .ok (.bipush 10, 2) := dchk_at dall_X7_count_40_pub02_0 (k := 30) rfl
theorem dX7_count_101 : decode cX7_count 101 = .ok (.iaload, 1) := dchk_at dall_X7_count_40_pub02_0 (k := 31) rfl
theorem dX7_count_102 : decode cX7_count 102 = .ok (.ireturn, 1) := dchk_at dall_X7_count_40_pub02_0 (k := 32) rfl
theorem dX7_count_103 : decode cX7_count 103 = .ok (.aload_n 0, 1) := dchk_at dall_X7_count_40_pub02_0 (k := 33) rfl
theorem dX7_count_104 : decode cX7_count 104 = .ok (.getfield 35, 3) := dchk_at dall_X7_count_40_pub02_0 (k := 34) rfl
theorem dX7_count_107 : decode cX7_count 107 = .ok (.invokevirtual 170, 3) := dchk_at dall_X7_count_40_pub02_0 (k := 35) rfl
theorem dX7_count_110 : decode cX7_count 110 = .ok (.ifCond .eq 7, 3) := dchk_at dall_X7_count_40_pub02_0 (k := 36) rfl
theorem dX7_count_117 : decode cX7_count 117 = .ok (.iconst 0, 1) := dchk_at dall_X7_count_40_pub02_0 (k := 37) rfl
theorem dX7_count_118 : decode cX7_count 118 = .ok (.ireturn, 1) := dchk_at dall_X7_count_40_pub02_0 (k := 38) rfl
theorem dX7_count_113 : decode cX7_count 113 = .ok (.iconst 1, 1) := dchk_at dall_X7_count_40_pub02_0 (k := 39) rfl
theorem dX7_count_114 : decode cX7_count 114 = .ok (.goto 4, 3) := dchk_at dall_X7_count_40_pub02_0 (k := 40) rfl
theorem dX7_count_119 : decode cX7_count 119 = .ok (.aload_n 0, 1) := dchk_at dall_X7_count_40_pub02_0 (k := 41) rfl
theorem dX7_count_120 : decode cX7_count 120 = .ok (.getfield 35, 3) := dchk_at dall_X7_count_40_pub02_0 (k := 42) rfl
theorem dX7_count_123 : decode cX7_count 123 = .ok (.bipush 6, 2) := dchk_at dall_X7_count_40_pub02_0 (k := 43) rfl
theorem dX7_count_125 : decode cX7_count 125 = .ok (.invokevirtual 160, 3) := dchk_at dall_X7_count_40_pub02_0 (k := 44) rfl
theorem dX7_count_128 : decode cX7_count 128 = .ok (.ireturn, 1) := dchk_at dall_X7_count_40_pub02_0 (k := 45) rfl
theorem dX7_count_129 : decode cX7_count 129 = .ok (.iconst (-1), 1) := dchk_at dall_X7_count_40_pub02_0 (k := 46) rfl
theorem dX7_count_130 : decode cX7_count 130 = .ok (.ireturn, 1) := dchk_at dall_X7_count_40_pub02_0 (k := 47) rfl
theorem dX7_count_10 : decode cX7_count 10 = .ok (.iconst (-1), 1) := dchk_at dall_X7_count_40_pub02_0 (k := 48) rfl
theorem dX7_count_11 : decode cX7_count 11 = .ok (.ireturn, 1) := dchk_at dall_X7_count_40_pub02_0 (k := 49) rfl
def dl_X7_end_40_pub02_0 : List (Nat × Instr × Nat) := [(0, .aload_n 0, 1), (1, .getfield 10, 3), (4, .iload_n 1, 1), (5, .invokevirtual 89, 3), (8, .ireturn, 1)]
set_option maxRecDepth 100000 in
theorem dall_X7_end_40_pub02_0 : dchk cX7_end dl_X7_end_40_pub02_0 = true := by decide +kernel
theorem dX7_end_0 : decode cX7_end 0 = .ok (.aload_n 0, 1) := dchk_at dall_X7_end_40_pub02_0 (k := 0) rfl
theorem dX7_end_1 : decode cX7_end 1 = .ok (.getfield 10, 3) := dchk_at dall_X7_end_40_pub02_0 (k := 1) rfl
theorem dX7_end_4 : decode cX7_end 4 = .ok (.iload_n 1, 1) := dchk_at dall_X7_end_40_pub02_0 (k := 2) rfl
theorem dX7_end_5 : decode cX7_end 5 = .ok (.invokevirtual 89, 3) := dchk_at dall_X7_end_40_pub02_0 (k := 3) rfl
theorem dX7_end_8 : decode cX7_end 8 = .ok (.ireturn, 1) := dchk_at dall_X7_end_40_pub02_0 (k := 4) rfl
def dl_X7_fair_40_pub02_0 : List (Nat × Instr × Nat) := [(25, .iload_n 3, 1), (26, .aload_n 0, 1), (27, .getfield 35, 3), (30, .invokevirtual 117, 3), (33, .if_icmp .ge 78, 3), (36, .iload_n 1, 1), (37, .ifCond .ne 35, 3), (72, .aload_n 0, 1), (73, .getfield 35, 3), (76, .iload_n 3, 1), (77, .invokevirtual 262, 3), (80, .aload_n 0, 1), (81, .getfield 35, 3), (84, .iload_n 2, 1), (85, .invokevirtual 262, 3), (88, .if_icmp .le 7, 3), (95, .iconst 0, 1), (96, .istore 4, 2), (98, .iload 4, 2), (100, .ifCond .eq 5, 3), (105, .iinc 3 1, 3), (108, .goto (-83), 3), (91, .iconst 1, 1), (92, .goto 4, 3), (103, .iload_n 3, 1), (104, .istore_n 2, 1), (40, .aload_n 0, 1), (41, .getfield 35, 3), (44, .iload_n 3, 1), (45, .iconst 0, 1), (46, .iconst 0, 1), (47, .invokevirtual 254, 3), (50, .aload_n 0, 1), (51, .getfield 35, 3), (54, .iload_n 2, 1), (55, .iconst 0, 1), (56, .iconst 0, 1), (57, .invokevirtual 254, 3), (60, .lcmp, 1), (61, .ifCond .le 7, 3), (68, .iconst 0, 1), (69, .goto 27, 3), (64, .iconst 1, 1), (65, .goto 31, 3), (0, .aload_n 0, 1), (1, .getfield 35, 3), (4, .invokevirtual 110, 3), (7, .ifCond .eq 12, 3), (19, .iconst (-1), 1), (20, .ireturn, 1)]
set_option maxRecDepth 100000 in
theorem dall_X7_fair_40_pub02_0 : dchk cX7_fair dl_X7_fair_40_pub02_0 = true := by decide +kernel
theorem dX7_fair_25 : decode cX7_fair 25 = .ok (.iload_n 3, 1) := dchk_at dall_X7_fair_40_pub02_0 (k := 0) rfl
theorem dX7_fair_26 : decode cX7_fair 26 = .ok (.aload_n 0, 1) := dchk_at dall_X7_fair_40_pub02_0 (k := 1) rfl
theorem dX7_fair_27 : decode cX7_fair 27 = .ok (.getfield 35, 3) := dchk_at dall_X7_fair_40_pub02_0 (k := 2) rfl
theorem dX7_fair_30 : decode cX7_fair 30 = .ok (.invokevirtual 117, 3) := dchk_at dall_X7_fair_40_pub02_0 (k := 3) rfl
theorem dX7_fair_33 : decode cX7_fair 33 = .ok (.if_icmp .ge 78, 3) := dchk_at dall_X7_fair_40_pub02_0 (k := 4) rfl
theorem dX7_fair_36 : decode cX7_fair 36 = .ok (.iload_n 1, 1) := dchk_at dall_X7_fair_40_pub02_0 (k := 5) rfl
theorem dX7_fair_37 : decode cX7_fair 37 = .ok (.ifCond .ne 35, 3) := dchk_at dall_X7_fair_40_pub02_0 (k := 6) rfl
theorem dX7_fair_72 : decode cX7_fair 72 = .ok (.aload_n 0, 1) := dchk_at dall_X7_fair_40_pub02_0 (k := 7) rfl
theorem dX7_fair_73 : decode cX7_fair 73 = .ok (.getfield 35, 3) := dchk_at dall_X7_fair_40_pub02_0 (k := 8) rfl
theorem dX7_fair_76 : decode cX7_fair 76 = .ok (.iload_n 3, 1) := dchk_at dall_X7_fair_40_pub02_0 (k := 9) rfl
theorem dX7_fair_77 : decode cX7_fair 77 = .ok (.invokevirtual 262, 3) := dchk_at dall_X7_fair_40_pub02_0 (k := 10) rfl
theorem dX7_fair_80 : decode cX7_fair 80 = .ok (.aload_n 0, 1) := dchk_at dall_X7_fair_40_pub02_0 (k := 11) rfl
theorem dX7_fair_81 : decode cX7_fair 81 = .ok (.getfield 35, 3) := dchk_at dall_X7_fair_40_pub02_0 (k := 12) rfl
theorem dX7_fair_84 : decode cX7_fair 84 = .ok (.iload_n 2, 1) := dchk_at dall_X7_fair_40_pub02_0 (k := 13) rfl
theorem dX7_fair_85 : decode cX7_fair 85 = .ok (.invokevirtual 262, 3) := dchk_at dall_X7_fair_40_pub02_0 (k := 14) rfl
theorem dX7_fair_88 : decode cX7_fair 88 = .ok (.if_icmp .le 7, 3) := dchk_at dall_X7_fair_40_pub02_0 (k := 15) rfl
theorem dX7_fair_95 : decode cX7_fair 95 = .ok (.iconst 0, 1) := dchk_at dall_X7_fair_40_pub02_0 (k := 16) rfl
theorem dX7_fair_96 : decode cX7_fair 96 = .ok (.istore 4, 2) := dchk_at dall_X7_fair_40_pub02_0 (k := 17) rfl
theorem dX7_fair_98 : decode cX7_fair 98 = .ok (.iload 4, 2) := dchk_at dall_X7_fair_40_pub02_0 (k := 18) rfl
theorem dX7_fair_100 : decode cX7_fair 100 = .ok (.ifCond .eq 5, 3) := dchk_at dall_X7_fair_40_pub02_0 (k := 19) rfl
theorem dX7_fair_105 : decode cX7_fair 105 = .ok (.iinc 3 1, 3) := dchk_at dall_X7_fair_40_pub02_0 (k := 20) rfl
theorem dX7_fair_108 : decode cX7_fair 108 = .ok (.goto (-83), 3) := dchk_at dall_X7_fair_40_pub02_0 (k := 21) rfl
theorem dX7_fair_91 : decode cX7_fair 91 = .ok (.iconst 1, 1) := dchk_at dall_X7_fair_40_pub02_0 (k := 22) rfl
theorem dX7_fair_92 : decode cX7_fair 92 = .ok (.goto 4, 3) := dchk_at dall_X7_fair_40_pub02_0 (k := 23) rfl
theorem dX7_fair_103 : decode cX7_fair 103 = .ok (.iload_n 3, 1) := dchk_at dall_X7_fair_40_pub02_0 (k := 24) rfl
theorem dX7_fair_104 : decode cX7_fair 104 = .ok (.istore_n 2, 1) := dchk_at dall_X7_fair_40_pub02_0 (k := 25) rfl
theorem dX7_fair_40 : decode cX7_fair 40 = .ok (.aload_n 0, 1) := dchk_at dall_X7_fair_40_pub02_0 (k := 26) rfl
theorem dX7_fair_41 : decode cX7_fair 41 = .ok (.getfield 35, 3) := dchk_at dall_X7_fair_40_pub02_0 (k := 27) rfl
theorem dX7_fair_44 : decode cX7_fair 44 = .ok (.iload_n 3, 1) := dchk_at dall_X7_fair_40_pub02_0 (k := 28) rfl
theorem dX7_fair_45 : decode cX7_fair 45 = .ok (.iconst 0, 1) := dchk_at dall_X7_fair_40_pub02_0 (k := 29) rfl
theorem dX7_fair_46 : decode cX7_fair 46 = .ok (.iconst 0, 1) := dchk_at dall_X7_fair_40_pub02_0 (k := 30) rfl
theorem dX7_fair_47 : decode cX7_fair 47 = .ok (.invokevirtual 254, 3) := dchk_at dall_X7_fair_40_pub02_0 (k := 31) rfl
theorem dX7_fair_50 : decode cX7_fair 50 = .ok (.aload_n 0, 1) := dchk_at dall_X7_fair_40_pub02_0 (k := 32) rfl
theorem dX7_fair_51 : decode cX7_fair 51 = .ok (.getfield 35, 3) := dchk_at dall_X7_fair_40_pub02_0 (k := 33) rfl
theorem dX7_fair_54 : decode cX7_fair 54 = .ok (.iload_n 2, 1) := dchk_at dall_X7_fair_40_pub02_0 (k := 34) rfl
theorem dX7_fair_55 : decode cX7_fair 55 = .ok (.iconst 0, 1) := dchk_at dall_X7_fair_40_pub02_0 (k := 35) rfl
theorem dX7_fair_56 : decode cX7_fair 56 = .ok (.iconst 0, 1) := dchk_at dall_X7_fair_40_pub02_0 (k := 36) rfl
theorem dX7_fair_57 : decode cX7_fair 57 = .ok (.invokevirtual 254, 3) := dchk_at dall_X7_fair_40_pub02_0 (k := 37) rfl
theorem dX7_fair_60 : decode cX7_fair 60 = .ok (.lcmp, 1) := dchk_at dall_X7_fair_40_pub02_0 (k := 38) rfl
theorem dX7_fair_61 : decode cX7_fair 61 = .ok (.ifCond .le 7, 3) := dchk_at dall_X7_fair_40_pub02_0 (k := 39) rfl
theorem dX7_fair_68 : decode cX7_fair 68 = .ok (.iconst 0, 1) := dchk_at dall_X7_fair_40_pub02_0 (k := 40) rfl
theorem dX7_fair_69 : decode cX7_fair 69 = .ok (.goto 27, 3) := dchk_at dall_X7_fair_40_pub02_0 (k := 41) rfl
theorem dX7_fair_64 : decode cX7_fair 64 = .ok (.iconst 1, 1) := dchk_at dall_X7_fair_40_pub02_0 (k := 42) rfl
theorem dX7_fair_65 : decode cX7_fair 65 = .ok (.goto 31, 3) := dchk_at dall_X7_fair_40_pub02_0 (k := 43) rfl
theorem dX7_fair_0 : decode cX7_fair 0 = .ok (.aload_n 0, 1) := dchk_at dall_X7_fair_40_pub02_0 (k := 44) rfl
theorem dX7_fair_1 : decode cX7_fair 1 = .ok (.getfield 35, 3) := dchk_at dall_X7_fair_40_pub02_0 (k := 45) rfl
theorem dX7_fair_4 : decode cX7_fair 4 = .ok (.invokevirtual 110, 3) := dchk_at dall_X7_fair_40_pub02_0 (k := 46) rfl
theorem dX7_fair_7 : decode cX7_fair 7 = .ok (.ifCond .eq 12, 3) := dchk_at dall_X7_fair_40_pub02_0 (k := 47) rfl
theorem dX7_fair_19 : decode cX7_fair 19 = .ok (.iconst (-1), 1) := dchk_at dall_X7_fair_40_pub02_0 (k := 48) rfl
theorem dX7_fair_20 : decode cX7_fair 20 = .ok (.ireturn, 1) := dchk_at dall_X7_fair_40_pub02_0 (k := 49) rfl
def dl_X7_fair_40_pub02_1 : List (Nat × Instr × Nat) := [(10, .iload_n 1, 1), (11, .ifCond .lt 8, 3), (14, .iload_n 1, 1), (15, .iconst 1, 1), (16, .if_icmp .le 5, 3), (21, .iconst 0, 1), (22, .istore_n 2, 1), (23, .iconst 1, 1), (24, .istore_n 3, 1), (111, .iload_n 2, 1), (112, .ireturn, 1)]
set_option maxRecDepth 100000 in
theorem dall_X7_fair_40_pub02_1 : dchk cX7_fair dl_X7_fair_40_pub02_1 = true := by decide +kernel
theorem dX7_fair_10 : decode cX7_fair 10 = .ok (.iload_n 1, 1) := dchk_at dall_X7_fair_40_pub02_1 (k := 0) rfl
theorem dX7_fair_11 : decode cX7_fair 11 = .ok (.ifCond .lt 8, 3) := dchk_at dall_X7_fair_40_pub02_1 (k := 1) rfl
theorem dX7_fair_14 : decode cX7_fair 14 = .ok (.iload_n 1, 1) := dchk_at dall_X7_fair_40_pub02_1 (k := 2) rfl
theorem dX7_fair_15 : decode cX7_fair 15 = .ok (.iconst 1, 1) := dchk_at dall_X7_fair_40_pub02_1 (k := 3) rfl
theorem dX7_fair_16 : decode cX7_fair 16 = .ok (.if_icmp .le 5, 3) := dchk_at dall_X7_fair_40_pub02_1 (k := 4) rfl
theorem dX7_fair_21 : decode cX7_fair 21 = .ok (.iconst 0, 1) := dchk_at dall_X7_fair_40_pub02_1 (k := 5) rfl
theorem dX7_fair_22 : decode cX7_fair 22 = .ok (.istore_n 2, 1) := dchk_at dall_X7_fair_40_pub02_1 (k := 6) rfl
theorem dX7_fair_23 : decode cX7_fair 23 = .ok (.iconst 1, 1) := dchk_at dall_X7_fair_40_pub02_1 (k := 7) rfl
theorem dX7_fair_24 : decode cX7_fair 24 = .ok (.istore_n 3, 1) := dchk_at dall_X7_fair_40_pub02_1 (k := 8) rfl
theorem dX7_fair_111 : decode cX7_fair 111 = .ok (.iload_n 2, 1) := dchk_at dall_X7_fair_40_pub02_1 (k := 9) rfl
theorem dX7_fair_112 : decode cX7_fair 112 = .ok (.ireturn, 1) := dchk_at dall_X7_fair_40_pub02_1 (k := 10) rfl
def dl_X7_fault_40_pub02_0 : List (Nat × Instr × Nat) := [(0, .iload_n 1, 1), (1, .ifCond .ne 11, 3), (12, .iload_n 1, 1), (13, .iconst 1, 1), (14, .if_icmp .ne 13, 3), (27, .bipush (-2), 2), (29, .ireturn, 1), (17, .aload_n 0, 1), (18, .getfield 21, 3), (21, .invokevirtual 97, 3), (24, .goto 5, 3), (4, .aload_n 0, 1), (5, .getfield 21, 3), (8, .invokevirtual 93, 3), (11, .ireturn, 1)]
set_option maxRecDepth 100000 in
theorem dall_X7_fault_40_pub02_0 : dchk cX7_fault dl_X7_fault_40_pub02_0 = true := by decide +kernel
theorem dX7_fault_0 : decode cX7_fault 0 = .ok (.iload_n 1, 1) := dchk_at dall_X7_fault_40_pub02_0 (k := 0) rfl
theorem dX7_fault_1 : decode cX7_fault 1 = .ok (.ifCond .ne 11, 3) := dchk_at dall_X7_fault_40_pub02_0 (k := 1) rfl
theorem dX7_fault_12 : decode cX7_fault 12 = .ok (.iload_n 1, 1) := dchk_at dall_X7_fault_40_pub02_0 (k := 2) rfl
theorem dX7_fault_13 : decode cX7_fault 13 = .ok (.iconst 1, 1) := dchk_at dall_X7_fault_40_pub02_0 (k := 3) rfl
theorem dX7_fault_14 : decode cX7_fault 14 = .ok (.if_icmp .ne 13, 3) := dchk_at dall_X7_fault_40_pub02_0 (k := 4) rfl
theorem dX7_fault_27 : decode cX7_fault 27 = .ok (.bipush (-2), 2) := dchk_at dall_X7_fault_40_pub02_0 (k := 5) rfl
theorem dX7_fault_29 : decode cX7_fault 29 = .ok (.ireturn, 1) := dchk_at dall_X7_fault_40_pub02_0 (k := 6) rfl
theorem dX7_fault_17 : decode cX7_fault 17 = .ok (.aload_n 0, 1) := dchk_at dall_X7_fault_40_pub02_0 (k := 7) rfl
theorem dX7_fault_18 : decode cX7_fault 18 = .ok (.getfield 21, 3) := dchk_at dall_X7_fault_40_pub02_0 (k := 8) rfl
theorem dX7_fault_21 : decode cX7_fault 21 = .ok (.invokevirtual 97, 3) := dchk_at dall_X7_fault_40_pub02_0 (k := 9) rfl
theorem dX7_fault_24 : decode cX7_fault 24 = .ok (.goto 5, 3) := dchk_at dall_X7_fault_40_pub02_0 (k := 10) rfl
theorem dX7_fault_4 : decode cX7_fault 4 = .ok (.aload_n 0, 1) := dchk_at dall_X7_fault_40_pub02_0 (k := 11) rfl
theorem dX7_fault_5 : decode cX7_fault 5 = .ok (.getfield 21, 3) := dchk_at dall_X7_fault_40_pub02_0 (k := 12) rfl
theorem dX7_fault_8 : decode cX7_fault 8 = .ok (.invokevirtual 93, 3) := dchk_at dall_X7_fault_40_pub02_0 (k := 13) rfl
theorem dX7_fault_11 : decode cX7_fault 11 = .ok (.ireturn, 1) := dchk_at dall_X7_fault_40_pub02_0 (k := 14) rfl
def dl_X7_feed_40_pub02_0 : List (Nat × Instr × Nat) := [(0, .iload_n 1, 1), (1, .invokestatic 77, 3), (4, .iload_n 2, 1), (5, .invokestatic 77, 3), (8, .iadd, 1), (9, .iload_n 3, 1), (10, .invokestatic 77, 3), (13, .iadd, 1), (14, .iload 4, 2), (16, .invokestatic 77, 3), (19, .iadd, 1), (20, .iload 5, 2), (22, .invokestatic 77, 3), (25, .iadd, 1), (26, .istore 6, 2), (28, .aload_n 0, 1), (29, .getfield 10, 3), (32, .getfield 81, 3), (35, .iload 6, 2), (37, .iadd, 1), (38, .sipush 320, 3), (41, .if_icmp .le 5, 3), (46, .aload_n 0, 1), (47, .getfield 10, 3), (50, .iload_n 1, 1), (51, .invokevirtual 85, 3), (54, .aload_n 0, 1), (55, .getfield 10, 3), (58, .iload_n 2, 1), (59, .invokevirtual 85, 3), (62, .aload_n 0, 1), (63, .getfield 10, 3), (66, .iload_n 3, 1), (67, .invokevirtual 85, 3), (70, .aload_n 0, 1), (71, .getfield 10, 3), (74, .iload 4, 2), (76, .invokevirtual 85, 3), (79, .aload_n 0, 1), (80, .getfield 10, 3), (83, .iload 5, 2), (85, .invokevirtual 85, 3), (88, .aload_n 0, 1), (89, .getfield 10, 3), (92, .getfield 81, 3), (95, .ireturn, 1), (44, .iconst (-1), 1), (45, .ireturn, 1)]
set_option maxRecDepth 100000 in
theorem dall_X7_feed_40_pub02_0 : dchk cX7_feed dl_X7_feed_40_pub02_0 = true := by decide +kernel
theorem dX7_feed_0 : decode cX7_feed 0 = .ok (.iload_n 1, 1) := dchk_at dall_X7_feed_40_pub02_0 (k := 0) rfl
theorem dX7_feed_1 : decode cX7_feed 1 = .ok (.invokestatic 77, 3) := dchk_at dall_X7_feed_40_pub02_0 (k := 1) rfl
theorem dX7_feed_4 : decode cX7_feed 4 = .ok (.iload_n 2, 1) := dchk_at dall_X7_feed_40_pub02_0 (k := 2) rfl
theorem dX7_feed_5 : decode cX7_feed 5 = .ok (.invokestatic 77, 3) := dchk_at dall_X7_feed_40_pub02_0 (k := 3) rfl
theorem dX7_feed_8 : decode cX7_feed 8 = .ok (.iadd, 1) := dchk_at dall_X7_feed_40_pub02_0 (k := 4) rfl
theorem dX7_feed_9 : decode cX7_feed 9 = .ok (.iload_n 3, 1) := dchk_at dall_X7_feed_40_pub02_0 (k := 5) rfl
theorem dX7_feed_10 : decode cX7_feed 10 = .ok (.invokestatic 77, 3) := dchk_at dall_X7_feed_40_pub02_0 (k := 6) rfl
theorem dX7_feed_13 : decode cX7_feed 13 = .ok (.iadd, 1) := dchk_at dall_X7_feed_40_pub02_0 (k := 7) rfl
theorem dX7_feed_14 : decode cX7_feed 14 = .ok (.iload 4, 2) := dchk_at dall_X7_feed_40_pub02_0 (k := 8) rfl
theorem dX7_feed_16 : decode cX7_feed 16 = .ok (.invokestatic 77, 3) := dchk_at dall_X7_feed_40_pub02_0 (k := 9) rfl
theorem dX7_feed_19 : decode cX7_feed 19 = .ok (.iadd, 1) := dchk_at dall_X7_feed_40_pub02_0 (k := 10) rfl
theorem dX7_feed_20 : decode cX7_feed 20 = .ok (.iload 5, 2) := dchk_at dall_X7_feed_40_pub02_0 (k := 11) rfl
theorem dX7_feed_22 : decode cX7_feed 22 = .ok (.invokestatic 77, 3) := dchk_at dall_X7_feed_40_pub02_0 (k := 12) rfl
theorem dX7_feed_25 : decode cX7_feed 25 = .ok (.iadd, 1) := dchk_at dall_X7_feed_40_pub02_0 (k := 13) rfl
theorem dX7_feed_26 : decode cX7_feed 26 = .ok (.istore 6, 2) := dchk_at dall_X7_feed_40_pub02_0 (k := 14) rfl
theorem dX7_feed_28 : decode cX7_feed 28 = .ok (.aload_n 0, 1) := dchk_at dall_X7_feed_40_pub02_0 (k := 15) rfl
theorem dX7_feed_29 : decode cX7_feed 29 = .ok (.getfield 10, 3) := dchk_at dall_X7_feed_40_pub02_0 (k := 16) rfl
theorem dX7_feed_32 : decode cX7_feed 32 = .ok (.getfield 81, 3) := dchk_at dall_X7_feed_40_pub02_0 (k := 17) rfl
theorem dX7_feed_35 : decode cX7_feed 35 = .ok (.iload 6, 2) := dchk_at dall_X7_feed_40_pub02_0 (k := 18) rfl
theorem dX7_feed_37 : decode cX7_feed 37 = .ok (.iadd, 1) := dchk_at dall_X7_feed_40_pub02_0 (k := 19) rfl
theorem dX7_feed_38 : decode cX7_feed 38 = .ok (.sipush 320, 3) := dchk_at dall_X7_feed_40_pub02_0 (k := 20) rfl
theorem dX7_feed_41 : decode cX7_feed 41 = .ok (.if_icmp .le 5, 3) := dchk_at dall_X7_feed_40_pub02_0 (k := 21) rfl
theorem dX7_feed_46 : decode cX7_feed 46 = .ok (.aload_n 0, 1) := dchk_at dall_X7_feed_40_pub02_0 (k := 22) rfl
theorem dX7_feed_47 : decode cX7_feed 47 = .ok (.getfield 10, 3) := dchk_at dall_X7_feed_40_pub02_0 (k := 23) rfl
theorem dX7_feed_50 : decode cX7_feed 50 = .ok (.iload_n 1, 1) := dchk_at dall_X7_feed_40_pub02_0 (k := 24) rfl
theorem dX7_feed_51 : decode cX7_feed 51 = .ok (.invokevirtual 85, 3) := dchk_at dall_X7_feed_40_pub02_0 (k := 25) rfl
theorem dX7_feed_54 : decode cX7_feed 54 = .ok (.aload_n 0, 1) := dchk_at dall_X7_feed_40_pub02_0 (k := 26) rfl
theorem dX7_feed_55 : decode cX7_feed 55 = .ok (.getfield 10, 3) := dchk_at dall_X7_feed_40_pub02_0 (k := 27) rfl
theorem dX7_feed_58 : decode cX7_feed 58 = .ok (.iload_n 2, 1) := dchk_at dall_X7_feed_40_pub02_0 (k := 28) rfl
theorem dX7_feed_59 : decode cX7_feed 59 = .ok (.invokevirtual 85, 3) := dchk_at dall_X7_feed_40_pub02_0 (k := 29) rfl
theorem dX7_feed_62 : decode cX7_feed 62 = .ok (.aload_n 0, 1) := dchk_at dall_X7_feed_40_pub02_0 (k := 30) rfl
theorem dX7_feed_63 : decode cX7_feed 63 = .ok (.getfield 10, 3) := dchk_at dall_X7_feed_40_pub02_0 (k := 31) rfl
theorem dX7_feed_66 : decode cX7_feed 66 = .ok (.iload_n 3, 1) := dchk_at dall_X7_feed_40_pub02_0 (k := 32) rfl
theorem dX7_feed_67 : decode cX7_feed 67 = .ok (.invokevirtual 85, 3) := dchk_at dall_X7_feed_40_pub02_0 (k := 33) rfl
theorem dX7_feed_70 : decode cX7_feed 70 = .ok (.aload_n 0, 1) := dchk_at dall_X7_feed_40_pub02_0 (k := 34) rfl
theorem dX7_feed_71 : decode cX7_feed 71 = .ok (.getfield 10, 3) := dchk_at dall_X7_feed_40_pub02_0 (k := 35) rfl
theorem dX7_feed_74 : decode cX7_feed 74 = .ok (.iload 4, 2) := dchk_at dall_X7_feed_40_pub02_0 (k := 36) rfl
theorem dX7_feed_76 : decode cX7_feed 76 = .ok (.invokevirtual 85, 3) := dchk_at dall_X7_feed_40_pub02_0 (k := 37) rfl
theorem dX7_feed_79 : decode cX7_feed 79 = .ok (.aload_n 0, 1) := dchk_at dall_X7_feed_40_pub02_0 (k := 38) rfl
theorem dX7_feed_80 : decode cX7_feed 80 = .ok (.getfield 10, 3) := dchk_at dall_X7_feed_40_pub02_0 (k := 39) rfl
theorem dX7_feed_83 : decode cX7_feed 83 = .ok (.iload 5, 2) := dchk_at dall_X7_feed_40_pub02_0 (k := 40) rfl
theorem dX7_feed_85 : decode cX7_feed 85 = .ok (.invokevirtual 85, 3) := dchk_at dall_X7_feed_40_pub02_0 (k := 41) rfl
theorem dX7_feed_88 : decode cX7_feed 88 = .ok (.aload_n 0, 1) := dchk_at dall_X7_feed_40_pub02_0 (k := 42) rfl
theorem dX7_feed_89 : decode cX7_feed 89 = .ok (.getfield 10, 3) := dchk_at dall_X7_feed_40_pub02_0 (k := 43) rfl
theorem dX7_feed_92 : decode cX7_feed 92 = .ok (.getfield 81, 3) := dchk_at dall_X7_feed_40_pub02_0 (k := 44) rfl
theorem dX7_feed_95 : decode cX7_feed 95 = .ok (.ireturn, 1) := dchk_at dall_X7_feed_40_pub02_0 (k := 45) rfl
theorem dX7_feed_44 : decode cX7_feed 44 = .ok (.iconst (-1), 1) := dchk_at dall_X7_feed_40_pub02_0 (k := 46) rfl
theorem dX7_feed_45 : decode cX7_feed 45 = .ok (.ireturn, 1) := dchk_at dall_X7_feed_40_pub02_0 (k := 47) rfl
def dl_X7_freeze_40_pub02_0 : List (Nat × Instr × Nat) := [(0, .aload_n 0, 1), (1, .bipush 6, 2), (3, .iload_n 1, 1), (4, .iconst 0, 1), (5, .iconst 0, 1), (6, .iconst 1, 1), (7, .invokevirtual 163, 3), (10, .ifCond .ge 5, 3), (15, .aload_n 0, 1), (16, .getfield 35, 3), (19, .iload_n 1, 1), (20, .invokevirtual 143, 3), (23, .ifCond .eq 7, 3), (30, .iconst 0, 1), (31, .ireturn, 1), (26, .iconst 1, 1), (27, .goto 4, 3), (13, .iconst (-1), 1), (14, .ireturn, 1)]
set_option maxRecDepth 100000 in
theorem dall_X7_freeze_40_pub02_0 : dchk cX7_freeze dl_X7_freeze_40_pub02_0 = true := by decide +kernel
theorem dX7_freeze_0 : decode cX7_freeze 0 = .ok (.aload_n 0, 1) := dchk_at dall_X7_freeze_40_pub02_0 (k := 0) rfl
theorem dX7_freeze_1 : decode cX7_freeze 1 = .ok (.bipush 6, 2) := dchk_at dall_X7_freeze_40_pub02_0 (k := 1) rfl
theorem dX7_freeze_3 : decode cX7_freeze 3 = .ok (.iload_n 1, 1) := dchk_at dall_X7_freeze_40_pub02_0 (k := 2) rfl
theorem dX7_freeze_4 : decode cX7_freeze 4 = .ok (.iconst 0, 1) := dchk_at dall_X7_freeze_40_pub02_0 (k := 3) rfl
theorem dX7_freeze_5 : decode cX7_freeze 5 = .ok (.iconst 0, 1) := dchk_at dall_X7_freeze_40_pub02_0 (k := 4) rfl
theorem dX7_freeze_6 : decode cX7_freeze 6 = .ok (.iconst 1, 1) := dchk_at dall_X7_freeze_40_pub02_0 (k := 5) rfl
theorem dX7_freeze_7 : decode cX7_freeze 7 = .ok (.invokevirtual 163, 3) := dchk_at dall_X7_freeze_40_pub02_0 (k := 6) rfl
theorem dX7_freeze_10 : decode cX7_freeze 10 = .ok (.ifCond .ge 5, 3) := dchk_at dall_X7_freeze_40_pub02_0 (k := 7) rfl
theorem dX7_freeze_15 : decode cX7_freeze 15 = .ok (.aload_n 0, 1) := dchk_at dall_X7_freeze_40_pub02_0 (k := 8) rfl
theorem dX7_freeze_16 : decode cX7_freeze 16 = .ok (.getfield 35, 3) := dchk_at dall_X7_freeze_40_pub02_0 (k := 9) rfl
theorem dX7_freeze_19 : decode cX7_freeze 19 = .ok (.iload_n 1, 1) := dchk_at dall_X7_freeze_40_pub02_0 (k := 10) rfl
theorem dX7_freeze_20 : decode cX7_freeze 20 = .ok (.invokevirtual 143, 3) := dchk_at dall_X7_freeze_40_pub02_0 (k := 11) rfl
theorem dX7_freeze_23 : decode cX7_freeze 23 = .ok (.ifCond .eq 7, 3) := dchk_at dall_X7_freeze_40_pub02_0 (k := 12) rfl
theorem dX7_freeze_30 : decode cX7_freeze 30 = .ok (.iconst 0, 1) := dchk_at dall_X7_freeze_40_pub02_0 (k := 13) rfl
theorem dX7_freeze_31 : decode cX7_freeze 31 = .ok (.ireturn, 1) := dchk_at dall_X7_freeze_40_pub02_0 (k := 14) rfl
theorem dX7_freeze_26 : decode cX7_freeze 26 = .ok (.iconst 1, 1) := dchk_at dall_X7_freeze_40_pub02_0 (k := 15) rfl
theorem dX7_freeze_27 : decode cX7_freeze 27 = .ok (.goto 4, 3) := dchk_at dall_X7_freeze_40_pub02_0 (k := 16) rfl
theorem dX7_freeze_13 : decode cX7_freeze 13 = .ok (.iconst (-1), 1) := dchk_at dall_X7_freeze_40_pub02_0 (k := 17) rfl
theorem dX7_freeze_14 : decode cX7_freeze 14 = .ok (.ireturn, 1) := dchk_at dall_X7_freeze_40_pub02_0 (k := 18) rfl
def F_X7_count (K : Nat) (p1 : Int32) (c_now_row : Nat → Int32) : Option (Int32) :=
  bd1 (F_X5_stands c_now_row) (fun r_1 => if r_1 = (0 : Int32) then some (-1 : Int32) else if p1 = (0 : Int32) then some (c_now_row 8) else if p1 = (1 : Int32) then bd1 (F_X5_stepFrom (c_now_row 8) c_now_row) (fun r_6 => some r_6) else if p1 = (2 : Int32) then some (c_now_row 9) else if p1 = (3 : Int32) then some (c_now_row 10) else if p1 = (4 : Int32) then bd1 (F_X5_isReached c_now_row) (fun r_8 => if r_8 = (0 : Int32) then some (0 : Int32) else some (1 : Int32)) else if p1 = (5 : Int32) then bd1 (F_X5_total K (6 : Int32) c_now_row) (fun r_12 => some r_12) else some (-1 : Int32))
abbrev w_X7_count (E : EE) (a_ a_tape a_reader a_scripts a_now a_trial a_kept a_book a_keptBook a_history a_draws a_refused a_now_row a_now_partners a_now_share a_now_leftOver : Nat) (c_hasImage : Int32) (c_now_askedCount : Int32) (c_now_outcome : Int32) (c_now_row : Nat → Int32) : va_W := [(a_, .inr (8, [.ref a_tape, .ref a_reader, .ref a_scripts, .ref a_now, .ref a_trial, .ref a_kept, .ref a_book, .ref a_keptBook, .ref a_history, .ref a_draws, .ref a_refused, .int c_hasImage])), (a_now, .inr (6, [.ref a_now_row, .ref a_now_partners, .int c_now_askedCount, .int c_now_outcome, .ref a_now_share, .ref a_now_leftOver])), (a_now_row, .inl (E.2.1, 81, .inl c_now_row))]
def v_f_X7_count : List Cond := List.cons (.code yX7_count cX7_count 2 (some .int)) (HAppend.hAppend (α := List Cond) (β := List Cond) (γ := List Cond) [.fieldLink RX7 35 "HushWatch" "now" "LHushWatch$State;", .methodLink RX7 110 yX5_stands, .instanceMethod yX5_stands, .selects RX5 yX5_stands yX5_stands, .initialized RX5, .methodLink RX7 167 yX5_stepFrom, .instanceMethod yX5_stepFrom, .selects RX5 yX5_stepFrom yX5_stepFrom, .methodLink RX7 170 yX5_isReached, .instanceMethod yX5_isReached, .selects RX5 yX5_isReached yX5_isReached, .methodLink RX7 160 yX5_total, .instanceMethod yX5_total, .selects RX5 yX5_total yX5_total] (HAppend.hAppend (α := List Cond) (β := List Cond) (γ := List Cond) wsX70 (HAppend.hAppend (α := List Cond) (β := List Cond) (γ := List Cond) v_f_X5_stands (HAppend.hAppend (α := List Cond) (β := List Cond) (γ := List Cond) wsX50 (HAppend.hAppend (α := List Cond) (β := List Cond) (γ := List Cond) v_f_X5_stepFrom (HAppend.hAppend (α := List Cond) (β := List Cond) (γ := List Cond) v_f_X5_isReached (HAppend.hAppend (α := List Cond) (β := List Cond) (γ := List Cond) v_f_X5_total [])))))))
theorem gw_f_X7_count : v_f_X7_count.all goodWord = true := by decide +kernel
theorem i_f_X7_count_X7 : ∀ w ∈ wsX70, w ∈ v_f_X7_count := fun _ h => List.mem_cons_of_mem _ (List.mem_append_right _ (List.mem_append_left _ h))
theorem i_f_X7_count_X5 : ∀ w ∈ wsX50, w ∈ v_f_X7_count := fun _ h => List.mem_cons_of_mem _ (List.mem_append_right _ (List.mem_append_right _ (List.mem_append_right _ (List.mem_append_left _ h))))
theorem g_f_X7_count_f_X5_stands_110 : GoodIn v_f_X7_count (wsV RX7 110 RX5 yX5_stands v_f_X5_stands) := goodIn_app (goodIn_of _ (by decide +kernel)) (goodIn_sub (fun _ h => List.mem_cons_of_mem _ (List.mem_append_right _ (List.mem_append_right _ (List.mem_append_left _ h)))) gw_f_X5_stands)
theorem g_f_X7_count_f_X5_stepFrom_167 : GoodIn v_f_X7_count (wsV RX7 167 RX5 yX5_stepFrom v_f_X5_stepFrom) := goodIn_app (goodIn_of _ (by decide +kernel)) (goodIn_sub (fun _ h => List.mem_cons_of_mem _ (List.mem_append_right _ (List.mem_append_right _ (List.mem_append_right _ (List.mem_append_right _ (List.mem_append_left _ h)))))) gw_f_X5_stepFrom)
theorem g_f_X7_count_f_X5_isReached_170 : GoodIn v_f_X7_count (wsV RX7 170 RX5 yX5_isReached v_f_X5_isReached) := goodIn_app (goodIn_of _ (by decide +kernel)) (goodIn_sub (fun _ h => List.mem_cons_of_mem _ (List.mem_append_right _ (List.mem_append_right _ (List.mem_append_right _ (List.mem_append_right _ (List.mem_append_right _ (List.mem_append_left _ h))))))) gw_f_X5_isReached)
theorem g_f_X7_count_f_X5_total_160 : GoodIn v_f_X7_count (wsV RX7 160 RX5 yX5_total v_f_X5_total) := goodIn_app (goodIn_of _ (by decide +kernel)) (goodIn_sub (fun _ h => List.mem_cons_of_mem _ (List.mem_append_right _ (List.mem_append_right _ (List.mem_append_right _ (List.mem_append_right _ (List.mem_append_right _ (List.mem_append_right _ (List.mem_append_left _ h)))))))) gw_f_X5_total)
theorem hd_X7_count : yX7_count.cls = RX7 ∧ yX7_count.cls ≠ "java/lang/invoke/MethodHandle" ∧ yX7_count.cls ≠ "java/lang/invoke/VarHandle" ∧ (parseMethodDescriptor yX7_count.desc).map (fun d => d.parameters.length) = some 1 := by decide +kernel
set_option maxHeartbeats 4000000 in
set_option maxRecDepth 100000 in
theorem f_X7_count (l : Launch) (E : EE) (K : Nat) {a_ a_tape a_reader a_scripts a_now a_trial a_kept a_book a_keptBook a_history a_draws a_refused a_now_row a_now_partners a_now_share a_now_leftOver : Nat} {p1 : Int32} {c_hasImage : Int32} {c_now_askedCount : Int32} {c_now_outcome : Int32} {c_now_row : Nat → Int32} {rr : Int32} (hF : F_X7_count K p1 c_now_row = some rr) : Met l yX7_count v_f_X7_count (({ frames := 2, cells := 0, slots := 0, locals := 45 } : Room)) (va_Pc [.ref a_, .int p1] (pP E (w_X7_count E a_ a_tape a_reader a_scripts a_now a_trial a_kept a_book a_keptBook a_history a_draws a_refused a_now_row a_now_partners a_now_share a_now_leftOver c_hasImage c_now_askedCount c_now_outcome c_now_row))) (vp_Si (fun q : Int32 => q = rr)) 0 0 (fun _ => False) := by
  refine Met.ofW (cc := cX7_count) (maxL := 2) (ret := (some .int)) (by decide) rfl ?_
  intro p e s m args below meth c s₁ B hml hv
  obtain ⟨rfl, ⟨hK, hN⟩, hP⟩ := hv
  have hx := B.exec
  have hb := B.bytes
  have hr := B.returns
  have hts := atoms_spec (ws := v_f_X7_count) B.pre
  have hown : s.vm.findClass RX7 = some m.cls := own_of hd_X7_count.1 (findClass_of_methodNamed B.named)
  have hlocks : meth.locks = false := B.notSynchronized
  replace hP : va_P E.1 vwCl [(a_, .inr (8, [.ref a_tape, .ref a_reader, .ref a_scripts, .ref a_now, .ref a_trial, .ref a_kept, .ref a_book, .ref a_keptBook, .ref a_history, .ref a_draws, .ref a_refused, .int c_hasImage])), (a_now, .inr (6, [.ref a_now_row, .ref a_now_partners, .int c_now_askedCount, .int c_now_outcome, .ref a_now_share, .ref a_now_leftOver])), (a_now_row, .inl (E.2.1, 81, .inl c_now_row))] s.heap := hP
  have hl := lv_entry ([.ref a_, .int p1]) (n := 2) (Nat.le_of_ble_eq_true rfl)
  rw [lg_entry_eq]
  generalize (lg_sl ([.ref a_, .int p1]) ++ List.replicate (2 - (lg_sl ([.ref a_, .int p1])).length) Slot.unset).toArray = ls at hl ⊢
  have hl : lv_has ls 2 [(0, .ref a_), (1, .int p1)] := hl
  obtain ⟨Q, hQ⟩ : ∃ Q : State → Prop, Q = MQ below (vp_Si (fun q : Int32 => q = rr)) #[Value.ref a_, Value.int p1] s 0 0 (fun _ => False) := ⟨_, rfl⟩
  rw [← hQ]
  change W p l e ({ frames := 2, cells := 0, slots := 0, locals := 45 } : Room) s m #[Value.ref a_, Value.int p1] below meth c s.heap [] 0 0 Q (F0 m 0 ls [])
  unfold F_X7_count at hF
  refine lv_aload_n hx hb dX7_count_0 rfl (lv_at hl 0 rfl) ?_
  refine gt_X7_3 (v := .ref a_now) hx hb hts i_f_X7_count_X7 hown hK hP 0 rfl (hts (.fieldLink RX7 35 "HushWatch" "now" "LHushWatch$State;") (List.mem_of_getElem? (i := 1) rfl)) rfl dX7_count_1 ?_
  replace hF := bd1_s hF
  obtain ⟨r_1, hc_2, hF⟩ := hF
  have hPc : va_P E.1 vwCl (w_X5_stands E a_now a_now_row a_now_partners a_now_share a_now_leftOver c_now_askedCount c_now_outcome c_now_row) s.heap := hP.sub (ws' := [(a_now, .inr (6, [.ref a_now_row, .ref a_now_partners, .int c_now_askedCount, .int c_now_outcome, .ref a_now_share, .ref a_now_leftOver])), (a_now_row, .inl (E.2.1, 81, .inl c_now_row))]) [1, 2] rfl
  have hrc := va_recv hK hPc (ci := 6) (q0 := 0) rfl rfl
  refine pE_z (va_runV (As := []) (rest := [])  ⟨hx, hb, hml, hown, hts⟩ (f_X5_stands l E (a_ := a_now) (a_row := a_now_row) (a_partners := a_now_partners) (a_share := a_now_share) (a_leftOver := a_now_leftOver) (c_askedCount := c_now_askedCount) (c_outcome := c_now_outcome) (c_row := c_now_row) hc_2) (cwV 0 hts g_f_X7_count_f_X5_stands_110 rfl rfl rfl hd_X5_stands ⟨Nat.le_of_ble_eq_true rfl, Nat.le_of_ble_eq_true rfl⟩) ⟨pP.blind, hrc, (pP.pre ⟨hK, hN⟩ hPc)⟩ rfl rfl hl.1 rfl (lv_room (Nat.le_of_ble_eq_true rfl)) dX7_count_4 ⟨Nat.le_of_ble_eq_true rfl, Nat.le_of_ble_eq_true rfl⟩) (fun hb_3 => ?_)
  refine lv_if_ne (tgt := 12) hx hb dX7_count_7 (by decide) (fun c_4 => ?_) (fun c_4 => ?_)
  ·
    replace hF := inn c_4 hF
    refine lv_iload_n hx hb dX7_count_12 rfl (lv_at hl 1 rfl) ?_
    rcases Classical.em (p1 = (0 : Int32)) with c_5_0 | c_5_0
    ·
      replace hF := ip c_5_0 hF
      refine lv_tableIn (off := 39) (tgt := 52) hx hb dX7_count_13 (by rw [c_5_0]; decide) (by rw [c_5_0]; decide) (by rw [c_5_0]; decide) (by decide) ?_
      refine lv_aload_n hx hb dX7_count_52 rfl (lv_at hl 0 rfl) ?_
      refine gt_X7_3 (v := .ref a_now) hx hb hts i_f_X7_count_X7 hown hK hP 0 rfl (hts (.fieldLink RX7 35 "HushWatch" "now" "LHushWatch$State;") (List.mem_of_getElem? (i := 1) rfl)) rfl dX7_count_53 ?_
      refine va_getN (D := E.1) (ci := 6) (v := .ref a_now_row) (C := RX5) (T := TX5) (N := 6) hx hb hts i_f_X7_count_X5 hown hK hP 1 rfl rfl 0 (by decide) (nx hN 12 rfl) (fun _ h9 => h9) rfl dX7_count_56 ?_
      refine lv_bipush (v := 8) hx hb dX7_count_59 (by decide) ?_
      refine va_iald hx hb hK hP 2 0 rfl rfl (vin rfl) dX7_count_61 ?_
      refine W.eq (g2 := F0 m 62 ls [.int (c_now_row 8)]) rfl ?_
      rw [hQ]
      obtain e9_0 := inj1 hF
      exact W.iret (v := c_now_row 8) hx hb hr (fun tt ht hW => ⟨_, rfl, e9_0, ht⟩) (fun _ h => by cases h) dX7_count_62
    replace hF := inn c_5_0 hF
    rcases Classical.em (p1 = (1 : Int32)) with c_5_1 | c_5_1
    ·
      replace hF := ip c_5_1 hF
      refine lv_tableIn (off := 50) (tgt := 63) hx hb dX7_count_13 (by rw [c_5_1]; decide) (by rw [c_5_1]; decide) (by rw [c_5_1]; decide) (by decide) ?_
      refine lv_aload_n hx hb dX7_count_63 rfl (lv_at hl 0 rfl) ?_
      refine gt_X7_3 (v := .ref a_now) hx hb hts i_f_X7_count_X7 hown hK hP 0 rfl (hts (.fieldLink RX7 35 "HushWatch" "now" "LHushWatch$State;") (List.mem_of_getElem? (i := 1) rfl)) rfl dX7_count_64 ?_
      refine lv_aload_n hx hb dX7_count_67 rfl (lv_at hl 0 rfl) ?_
      refine gt_X7_3 (v := .ref a_now) hx hb hts i_f_X7_count_X7 hown hK hP 0 rfl (hts (.fieldLink RX7 35 "HushWatch" "now" "LHushWatch$State;") (List.mem_of_getElem? (i := 1) rfl)) rfl dX7_count_68 ?_
      refine va_getN (D := E.1) (ci := 6) (v := .ref a_now_row) (C := RX5) (T := TX5) (N := 6) hx hb hts i_f_X7_count_X5 hown hK hP 1 rfl rfl 0 (by decide) (nx hN 12 rfl) (fun _ h9 => h9) rfl dX7_count_71 ?_
      refine lv_bipush (v := 8) hx hb dX7_count_74 (by decide) ?_
      refine va_iald hx hb hK hP 2 0 rfl rfl (vin rfl) dX7_count_76 ?_
      refine W.eq (g2 := F0 m 77 ls [.int (c_now_row 8), .ref a_now]) rfl ?_
      replace hF := bd1_s hF
      obtain ⟨r_6, hc_7, hF⟩ := hF
      have hPc : va_P E.1 vwCl (w_X5_stepFrom E a_now a_now_row a_now_partners a_now_share a_now_leftOver c_now_askedCount c_now_outcome c_now_row) s.heap := hP.sub (ws' := [(a_now, .inr (6, [.ref a_now_row, .ref a_now_partners, .int c_now_askedCount, .int c_now_outcome, .ref a_now_share, .ref a_now_leftOver])), (a_now_row, .inl (E.2.1, 81, .inl c_now_row))]) [1, 2] rfl
      have hrc := va_recv hK hPc (ci := 6) (q0 := 0) rfl rfl
      refine pE_i (va_runV (As := [.int (c_now_row 8)]) (rest := [])  ⟨hx, hb, hml, hown, hts⟩ (f_X5_stepFrom l E (a_ := a_now) (a_row := a_now_row) (a_partners := a_now_partners) (a_share := a_now_share) (a_leftOver := a_now_leftOver) (p1 := c_now_row 8) (c_askedCount := c_now_askedCount) (c_outcome := c_now_outcome) (c_row := c_now_row) hc_7) (cwV 1 hts g_f_X7_count_f_X5_stepFrom_167 rfl rfl rfl hd_X5_stepFrom ⟨Nat.le_of_ble_eq_true rfl, Nat.le_of_ble_eq_true rfl⟩) ⟨pP.blind, hrc, (pP.pre ⟨hK, hN⟩ hPc)⟩ rfl rfl hl.1 rfl (lv_room (Nat.le_of_ble_eq_true rfl)) dX7_count_77 ⟨Nat.le_of_ble_eq_true rfl, Nat.le_of_ble_eq_true rfl⟩) ?_
      rw [hQ]
      obtain e9_0 := inj1 hF
      exact W.iret (v := r_6) hx hb hr (fun tt ht hW => ⟨_, rfl, e9_0, ht⟩) (fun _ h => by cases h) dX7_count_80
    replace hF := inn c_5_1 hF
    rcases Classical.em (p1 = (2 : Int32)) with c_5_2 | c_5_2
    ·
      replace hF := ip c_5_2 hF
      refine lv_tableIn (off := 68) (tgt := 81) hx hb dX7_count_13 (by rw [c_5_2]; decide) (by rw [c_5_2]; decide) (by rw [c_5_2]; decide) (by decide) ?_
      refine lv_aload_n hx hb dX7_count_81 rfl (lv_at hl 0 rfl) ?_
      refine gt_X7_3 (v := .ref a_now) hx hb hts i_f_X7_count_X7 hown hK hP 0 rfl (hts (.fieldLink RX7 35 "HushWatch" "now" "LHushWatch$State;") (List.mem_of_getElem? (i := 1) rfl)) rfl dX7_count_82 ?_
      refine va_getN (D := E.1) (ci := 6) (v := .ref a_now_row) (C := RX5) (T := TX5) (N := 6) hx hb hts i_f_X7_count_X5 hown hK hP 1 rfl rfl 0 (by decide) (nx hN 12 rfl) (fun _ h9 => h9) rfl dX7_count_85 ?_
      refine lv_bipush (v := 9) hx hb dX7_count_88 (by decide) ?_
      refine va_iald hx hb hK hP 2 0 rfl rfl (vin rfl) dX7_count_90 ?_
      refine W.eq (g2 := F0 m 91 ls [.int (c_now_row 9)]) rfl ?_
      rw [hQ]
      obtain e9_0 := inj1 hF
      exact W.iret (v := c_now_row 9) hx hb hr (fun tt ht hW => ⟨_, rfl, e9_0, ht⟩) (fun _ h => by cases h) dX7_count_91
    replace hF := inn c_5_2 hF
    rcases Classical.em (p1 = (3 : Int32)) with c_5_3 | c_5_3
    ·
      replace hF := ip c_5_3 hF
      refine lv_tableIn (off := 79) (tgt := 92) hx hb dX7_count_13 (by rw [c_5_3]; decide) (by rw [c_5_3]; decide) (by rw [c_5_3]; decide) (by decide) ?_
      refine lv_aload_n hx hb dX7_count_92 rfl (lv_at hl 0 rfl) ?_
      refine gt_X7_3 (v := .ref a_now) hx hb hts i_f_X7_count_X7 hown hK hP 0 rfl (hts (.fieldLink RX7 35 "HushWatch" "now" "LHushWatch$State;") (List.mem_of_getElem? (i := 1) rfl)) rfl dX7_count_93 ?_
      refine va_getN (D := E.1) (ci := 6) (v := .ref a_now_row) (C := RX5) (T := TX5) (N := 6) hx hb hts i_f_X7_count_X5 hown hK hP 1 rfl rfl 0 (by decide) (nx hN 12 rfl) (fun _ h9 => h9) rfl dX7_count_96 ?_
      refine lv_bipush (v := 10) hx hb dX7_count_99 (by decide) ?_
      refine va_iald hx hb hK hP 2 0 rfl rfl (vin rfl) dX7_count_101 ?_
      refine W.eq (g2 := F0 m 102 ls [.int (c_now_row 10)]) rfl ?_
      rw [hQ]
      obtain e9_0 := inj1 hF
      exact W.iret (v := c_now_row 10) hx hb hr (fun tt ht hW => ⟨_, rfl, e9_0, ht⟩) (fun _ h => by cases h) dX7_count_102
    replace hF := inn c_5_3 hF
    rcases Classical.em (p1 = (4 : Int32)) with c_5_4 | c_5_4
    ·
      replace hF := ip c_5_4 hF
      refine lv_tableIn (off := 90) (tgt := 103) hx hb dX7_count_13 (by rw [c_5_4]; decide) (by rw [c_5_4]; decide) (by rw [c_5_4]; decide) (by decide) ?_
      refine lv_aload_n hx hb dX7_count_103 rfl (lv_at hl 0 rfl) ?_
      refine gt_X7_3 (v := .ref a_now) hx hb hts i_f_X7_count_X7 hown hK hP 0 rfl (hts (.fieldLink RX7 35 "HushWatch" "now" "LHushWatch$State;") (List.mem_of_getElem? (i := 1) rfl)) rfl dX7_count_104 ?_
      replace hF := bd1_s hF
      obtain ⟨r_8, hc_9, hF⟩ := hF
      have hPc : va_P E.1 vwCl (w_X5_isReached E a_now a_now_row a_now_partners a_now_share a_now_leftOver c_now_askedCount c_now_outcome c_now_row) s.heap := hP.sub (ws' := [(a_now, .inr (6, [.ref a_now_row, .ref a_now_partners, .int c_now_askedCount, .int c_now_outcome, .ref a_now_share, .ref a_now_leftOver])), (a_now_row, .inl (E.2.1, 81, .inl c_now_row))]) [1, 2] rfl
      have hrc := va_recv hK hPc (ci := 6) (q0 := 0) rfl rfl
      refine pE_z (va_runV (As := []) (rest := [])  ⟨hx, hb, hml, hown, hts⟩ (f_X5_isReached l E (a_ := a_now) (a_row := a_now_row) (a_partners := a_now_partners) (a_share := a_now_share) (a_leftOver := a_now_leftOver) (c_askedCount := c_now_askedCount) (c_outcome := c_now_outcome) (c_row := c_now_row) hc_9) (cwV 0 hts g_f_X7_count_f_X5_isReached_170 rfl rfl rfl hd_X5_isReached ⟨Nat.le_of_ble_eq_true rfl, Nat.le_of_ble_eq_true rfl⟩) ⟨pP.blind, hrc, (pP.pre ⟨hK, hN⟩ hPc)⟩ rfl rfl hl.1 rfl (lv_room (Nat.le_of_ble_eq_true rfl)) dX7_count_107 ⟨Nat.le_of_ble_eq_true rfl, Nat.le_of_ble_eq_true rfl⟩) (fun hb_10 => ?_)
      refine lv_if_eq (tgt := 117) hx hb dX7_count_110 (by decide) (fun c_11 => ?_) (fun c_11 => ?_)
      ·
        replace hF := ip c_11 hF
        refine lv_iconst (v := 0) hx hb dX7_count_117 (by decide) ?_
        rw [hQ]
        obtain e9_0 := inj1 hF
        exact W.iret (v := (0 : Int32)) hx hb hr (fun tt ht hW => ⟨_, rfl, e9_0, ht⟩) (fun _ h => by cases h) dX7_count_118
      ·
        replace hF := inn c_11 hF
        refine lv_iconst (v := 1) hx hb dX7_count_113 (by decide) ?_
        refine lv_goto (tgt := 118) hx hb dX7_count_114 (by decide) ?_
        rw [hQ]
        obtain e9_0 := inj1 hF
        exact W.iret (v := (1 : Int32)) hx hb hr (fun tt ht hW => ⟨_, rfl, e9_0, ht⟩) (fun _ h => by cases h) dX7_count_118
    replace hF := inn c_5_4 hF
    rcases Classical.em (p1 = (5 : Int32)) with c_5_5 | c_5_5
    ·
      replace hF := ip c_5_5 hF
      refine lv_tableIn (off := 106) (tgt := 119) hx hb dX7_count_13 (by rw [c_5_5]; decide) (by rw [c_5_5]; decide) (by rw [c_5_5]; decide) (by decide) ?_
      refine lv_aload_n hx hb dX7_count_119 rfl (lv_at hl 0 rfl) ?_
      refine gt_X7_3 (v := .ref a_now) hx hb hts i_f_X7_count_X7 hown hK hP 0 rfl (hts (.fieldLink RX7 35 "HushWatch" "now" "LHushWatch$State;") (List.mem_of_getElem? (i := 1) rfl)) rfl dX7_count_120 ?_
      refine lv_bipush (v := 6) hx hb dX7_count_123 (by decide) ?_
      replace hF := bd1_s hF
      obtain ⟨r_12, hc_13, hF⟩ := hF
      have hPc : va_P E.1 vwCl (w_X5_total E a_now a_now_row a_now_partners a_now_share a_now_leftOver c_now_askedCount c_now_outcome c_now_row) s.heap := hP.sub (ws' := [(a_now, .inr (6, [.ref a_now_row, .ref a_now_partners, .int c_now_askedCount, .int c_now_outcome, .ref a_now_share, .ref a_now_leftOver])), (a_now_row, .inl (E.2.1, 81, .inl c_now_row))]) [1, 2] rfl
      have hrc := va_recv hK hPc (ci := 6) (q0 := 0) rfl rfl
      refine pE_i (va_runV (As := [.int (6 : Int32)]) (rest := [])  ⟨hx, hb, hml, hown, hts⟩ (f_X5_total l E K (a_ := a_now) (a_row := a_now_row) (a_partners := a_now_partners) (a_share := a_now_share) (a_leftOver := a_now_leftOver) (p1 := (6 : Int32)) (c_askedCount := c_now_askedCount) (c_outcome := c_now_outcome) (c_row := c_now_row) hc_13) (cwV 1 hts g_f_X7_count_f_X5_total_160 rfl rfl rfl hd_X5_total ⟨Nat.le_of_ble_eq_true rfl, Nat.le_of_ble_eq_true rfl⟩) ⟨pP.blind, hrc, (pP.pre ⟨hK, hN⟩ hPc)⟩ rfl rfl hl.1 rfl (lv_room (Nat.le_of_ble_eq_true rfl)) dX7_count_125 ⟨Nat.le_of_ble_eq_true rfl, Nat.le_of_ble_eq_true rfl⟩) ?_
      rw [hQ]
      obtain e9_0 := inj1 hF
      exact W.iret (v := r_12) hx hb hr (fun tt ht hW => ⟨_, rfl, e9_0, ht⟩) (fun _ h => by cases h) dX7_count_128
    replace hF := inn c_5_5 hF
    refine lv_tableOut (tgt := 129) hx hb dX7_count_13 (by have t0 : (0 : Int32).toInt = 0 := (by decide); have t1 : (1 : Int32).toInt = 1 := (by decide); have t2 : (2 : Int32).toInt = 2 := (by decide); have t3 : (3 : Int32).toInt = 3 := (by decide); have t4 : (4 : Int32).toInt = 4 := (by decide); have t5 : (5 : Int32).toInt = 5 := (by decide); simp only [← Int32.toInt_inj, t0, t1, t2, t3, t4, t5] at c_5_0 c_5_1 c_5_2 c_5_3 c_5_4 c_5_5; omega) (by decide) ?_
    refine lv_iconst (v := -1) hx hb dX7_count_129 (by decide) ?_
    rw [hQ]
    obtain e9_0 := inj1 hF
    exact W.iret (v := (-1 : Int32)) hx hb hr (fun tt ht hW => ⟨_, rfl, e9_0, ht⟩) (fun _ h => by cases h) dX7_count_130
  ·
    replace hF := ip c_4 hF
    refine lv_iconst (v := -1) hx hb dX7_count_10 (by decide) ?_
    rw [hQ]
    obtain e9_0 := inj1 hF
    exact W.iret (v := (-1 : Int32)) hx hb hr (fun tt ht hW => ⟨_, rfl, e9_0, ht⟩) (fun _ h => by cases h) dX7_count_11

def F_X7_end (p1 : Int32) (c_tape_length : Int32) : Option (Int32 × Int32) :=
  bd2 (F_X6_cutTo p1 c_tape_length) (fun r_1 w_2 => some (r_1, w_2))
abbrev w_X7_end (E : EE) (a_ a_tape a_reader a_scripts a_now a_trial a_kept a_book a_keptBook a_history a_draws a_refused a_tape_bytes : Nat) (c_hasImage : Int32) (c_tape_length : Int32) : va_W := [(a_, .inr (8, [.ref a_tape, .ref a_reader, .ref a_scripts, .ref a_now, .ref a_trial, .ref a_kept, .ref a_book, .ref a_keptBook, .ref a_history, .ref a_draws, .ref a_refused, .int c_hasImage])), (a_tape, .inr (7, [.ref a_tape_bytes, .int c_tape_length]))]
def v_f_X7_end : List Cond := List.cons (.code yX7_end cX7_end 2 (some .boolean)) (HAppend.hAppend (α := List Cond) (β := List Cond) (γ := List Cond) [.fieldLink RX7 10 "HushWatch" "tape" "LHushWatch$Tape;", .methodLink RX7 89 yX6_cutTo, .instanceMethod yX6_cutTo, .selects RX6 yX6_cutTo yX6_cutTo, .initialized RX6] (HAppend.hAppend (α := List Cond) (β := List Cond) (γ := List Cond) wsX70 (HAppend.hAppend (α := List Cond) (β := List Cond) (γ := List Cond) v_f_X6_cutTo [])))
theorem gw_f_X7_end : v_f_X7_end.all goodWord = true := by decide +kernel
theorem i_f_X7_end_X7 : ∀ w ∈ wsX70, w ∈ v_f_X7_end := fun _ h => List.mem_cons_of_mem _ (List.mem_append_right _ (List.mem_append_left _ h))
theorem g_f_X7_end_f_X6_cutTo_89 : GoodIn v_f_X7_end (wsV RX7 89 RX6 yX6_cutTo v_f_X6_cutTo) := goodIn_app (goodIn_of _ (by decide +kernel)) (goodIn_sub (fun _ h => List.mem_cons_of_mem _ (List.mem_append_right _ (List.mem_append_right _ (List.mem_append_left _ h)))) gw_f_X6_cutTo)
theorem hd_X7_end : yX7_end.cls = RX7 ∧ yX7_end.cls ≠ "java/lang/invoke/MethodHandle" ∧ yX7_end.cls ≠ "java/lang/invoke/VarHandle" ∧ (parseMethodDescriptor yX7_end.desc).map (fun d => d.parameters.length) = some 1 := by decide +kernel
set_option maxHeartbeats 4000000 in
set_option maxRecDepth 100000 in
theorem f_X7_end (l : Launch) (E : EE) (sz : Nat) {a_ a_tape a_reader a_scripts a_now a_trial a_kept a_book a_keptBook a_history a_draws a_refused a_tape_bytes : Nat} {p1 : Int32} {c_hasImage : Int32} {c_tape_length : Int32} {rr : Int32} {n_tape_length : Int32} (hF : F_X7_end p1 c_tape_length = some (rr, n_tape_length)) : Met l yX7_end v_f_X7_end (({ frames := 1, cells := 0, slots := 0, locals := 21 } : Room)) (va_Pc [.ref a_, .int p1] (pW E sz (w_X7_end E a_ a_tape a_reader a_scripts a_now a_trial a_kept a_book a_keptBook a_history a_draws a_refused a_tape_bytes c_hasImage c_tape_length))) (va_Qi (fun (q : Int32) (_u : Unit) => q = rr ∧ (q = 0 ∨ q = 1)) (fun (_u : Unit) tt => va_P E.1 vwCl (w_X7_end E a_ a_tape a_reader a_scripts a_now a_trial a_kept a_book a_keptBook a_history a_draws a_refused a_tape_bytes c_hasImage n_tape_length) tt.heap ∧ va_D (va_A (w_X7_end E a_ a_tape a_reader a_scripts a_now a_trial a_kept a_book a_keptBook a_history a_draws a_refused a_tape_bytes c_hasImage c_tape_length) sz) (w_X7_end E a_ a_tape a_reader a_scripts a_now a_trial a_kept a_book a_keptBook a_history a_draws a_refused a_tape_bytes c_hasImage n_tape_length)) (va_A (w_X7_end E a_ a_tape a_reader a_scripts a_now a_trial a_kept a_book a_keptBook a_history a_draws a_refused a_tape_bytes c_hasImage c_tape_length) sz)) 0 0 (va_A (w_X7_end E a_ a_tape a_reader a_scripts a_now a_trial a_kept a_book a_keptBook a_history a_draws a_refused a_tape_bytes c_hasImage c_tape_length) sz) := by
  refine Met.ofW (cc := cX7_end) (maxL := 2) (ret := (some .boolean)) (by decide) rfl ?_
  intro p e s m args below meth c s₁ B hml hv
  obtain ⟨rfl, hsz, ⟨hK, hN⟩, hP, hD0⟩ := hv
  have hx := B.exec
  have hb := B.bytes
  have hr := B.returns
  have hts := atoms_spec (ws := v_f_X7_end) B.pre
  have hown : s.vm.findClass RX7 = some m.cls := own_of hd_X7_end.1 (findClass_of_methodNamed B.named)
  have hlocks : meth.locks = false := B.notSynchronized
  subst hsz
  have hD := hD0.self (sz := s.heap.size)
  generalize hAe : va_A (w_X7_end E a_ a_tape a_reader a_scripts a_now a_trial a_kept a_book a_keptBook a_history a_draws a_refused a_tape_bytes c_hasImage c_tape_length) s.heap.size = A at hD ⊢
  have hA : ∀ q : Nat, s.heap.size ≤ q → A q := fun q h => by rw [← hAe]; exact Or.inr h
  have hS : va_S A s.heap s.heap [] := va_S.rf
  have hl := lv_entry ([.ref a_, .int p1]) (n := 2) (Nat.le_of_ble_eq_true rfl)
  rw [lg_entry_eq]
  generalize (lg_sl ([.ref a_, .int p1]) ++ List.replicate (2 - (lg_sl ([.ref a_, .int p1])).length) Slot.unset).toArray = ls at hl ⊢
  have hl : lv_has ls 2 [(0, .ref a_), (1, .int p1)] := hl
  obtain ⟨Q, hQ⟩ : ∃ Q : State → Prop, Q = MQ below (va_Qi (fun (q : Int32) (_u : Unit) => q = rr ∧ (q = 0 ∨ q = 1)) (fun (_u : Unit) tt => va_P E.1 vwCl (w_X7_end E a_ a_tape a_reader a_scripts a_now a_trial a_kept a_book a_keptBook a_history a_draws a_refused a_tape_bytes c_hasImage n_tape_length) tt.heap ∧ va_D A (w_X7_end E a_ a_tape a_reader a_scripts a_now a_trial a_kept a_book a_keptBook a_history a_draws a_refused a_tape_bytes c_hasImage n_tape_length)) A) #[Value.ref a_, Value.int p1] s 0 0 A := ⟨_, rfl⟩
  rw [← hQ]
  change W p l e ({ frames := 1, cells := 0, slots := 0, locals := 21 } : Room) s m #[Value.ref a_, Value.int p1] below meth c s.heap [] 0 0 Q (F0 m 0 ls [])
  suffices hh9 : ∀ (H : Heap) (locs : List Loc), va_P E.1 vwCl (w_X7_end E a_ a_tape a_reader a_scripts a_now a_trial a_kept a_book a_keptBook a_history a_draws a_refused a_tape_bytes c_hasImage c_tape_length) H → va_D A (w_X7_end E a_ a_tape a_reader a_scripts a_now a_trial a_kept a_book a_keptBook a_history a_draws a_refused a_tape_bytes c_hasImage c_tape_length) → va_S A s.heap H locs → W p l e ({ frames := 1, cells := 0, slots := 0, locals := 21 } : Room) s m #[Value.ref a_, Value.int p1] below meth c H locs 0 0 Q (F0 m 0 ls []) from hh9 s.heap [] hP hD hS
  clear hP hD hS
  intro H locs hP hD hS
  replace hP : va_P E.1 vwCl [(a_, .inr (8, [.ref a_tape, .ref a_reader, .ref a_scripts, .ref a_now, .ref a_trial, .ref a_kept, .ref a_book, .ref a_keptBook, .ref a_history, .ref a_draws, .ref a_refused, .int c_hasImage])), (a_tape, .inr (7, [.ref a_tape_bytes, .int c_tape_length]))] H := hP
  replace hD : va_D A [(a_, .inr (8, [.ref a_tape, .ref a_reader, .ref a_scripts, .ref a_now, .ref a_trial, .ref a_kept, .ref a_book, .ref a_keptBook, .ref a_history, .ref a_draws, .ref a_refused, .int c_hasImage])), (a_tape, .inr (7, [.ref a_tape_bytes, .int c_tape_length]))] := hD
  unfold F_X7_end at hF
  refine lv_aload_n hx hb dX7_end_0 rfl (lv_at hl 0 rfl) ?_
  refine gt_X7_0 (v := .ref a_tape) hx hb hts i_f_X7_end_X7 hown hK hP 0 rfl (hts (.fieldLink RX7 10 "HushWatch" "tape" "LHushWatch$Tape;") (List.mem_of_getElem? (i := 1) rfl)) rfl dX7_end_1 ?_
  refine lv_iload_n hx hb dX7_end_4 rfl (lv_at hl 1 rfl) ?_
  replace hF := bd2_s hF
  obtain ⟨r_1, w_2, hc_3, hF⟩ := hF
  obtain ⟨hPc, hDc, hFc⟩ := wcut (wc := (w_X6_cutTo E a_tape a_tape_bytes c_tape_length)) hP hD hS hA [1] (by decide) rfl
  have hrc := va_recv hK hPc (ci := 7) (q0 := 0) rfl rfl
  refine cE_z (wc := (w_X6_cutTo E a_tape a_tape_bytes c_tape_length)) (wr := [(a_, .inr (8, [.ref a_tape, .ref a_reader, .ref a_scripts, .ref a_now, .ref a_trial, .ref a_kept, .ref a_book, .ref a_keptBook, .ref a_history, .ref a_draws, .ref a_refused, .int c_hasImage]))]) (w1 := (w_X6_cutTo E a_tape a_tape_bytes w_2)) (va_runV (As := [.int p1]) (rest := [])  ⟨hx, hb, hml, hown, hts⟩ (f_X6_cutTo l E H.size (a_ := a_tape) (a_bytes := a_tape_bytes) (p1 := p1) (c_length := c_tape_length) hc_3) (cwV 1 hts g_f_X7_end_f_X6_cutTo_89 rfl rfl rfl hd_X6_cutTo ⟨Nat.le_of_ble_eq_true rfl, Nat.le_of_ble_eq_true rfl⟩) ⟨pW.blind, hrc, (pW.pre ⟨hK, hN⟩ hPc hDc)⟩ rfl rfl hl.1 rfl (lv_room (Nat.le_of_ble_eq_true rfl)) dX7_end_5 ⟨Nat.le_of_ble_eq_true rfl, Nat.le_of_ble_eq_true rfl⟩) hS hFc hP hD [1] [0] rfl rfl (by decide) (by decide) (fun hb_4 H locs hP hD hS => ?_)
  replace hP : va_P E.1 vwCl [(a_, .inr (8, [.ref a_tape, .ref a_reader, .ref a_scripts, .ref a_now, .ref a_trial, .ref a_kept, .ref a_book, .ref a_keptBook, .ref a_history, .ref a_draws, .ref a_refused, .int c_hasImage])), (a_tape, .inr (7, [.ref a_tape_bytes, .int w_2]))] H := hP
  replace hD : va_D A [(a_, .inr (8, [.ref a_tape, .ref a_reader, .ref a_scripts, .ref a_now, .ref a_trial, .ref a_kept, .ref a_book, .ref a_keptBook, .ref a_history, .ref a_draws, .ref a_refused, .int c_hasImage])), (a_tape, .inr (7, [.ref a_tape_bytes, .int w_2]))] := hD
  rw [hQ]
  have h9 := fin9 (P := fun u9 : Int32 × Int32 => r_1 = u9.1 ∧ va_P E.1 vwCl (w_X7_end E a_ a_tape a_reader a_scripts a_now a_trial a_kept a_book a_keptBook a_history a_draws a_refused a_tape_bytes c_hasImage u9.2) H ∧ va_D A (w_X7_end E a_ a_tape a_reader a_scripts a_now a_trial a_kept a_book a_keptBook a_history a_draws a_refused a_tape_bytes c_hasImage u9.2)) hF ⟨rfl, hP, hD⟩
  obtain ⟨e9_0, hP9, hD9⟩ := h9
  exact W.zret (v := r_1) hx hb hr (nar_bool hb_4) (fun tt ht hW => ⟨⟨_, (), rfl, ⟨e9_0, hb_4⟩, ht ▸ hP9, hD9⟩, hS.F ht⟩) hS.2.2 dX7_end_8

def B_X7_fair_25 (p1 : Int32) (c_now_row : Nat → Int32) (x2 : Int32) (x3 : Int32) : Option ((Int32 × Int32) ⊕ (Int32)) :=
  bd1 (F_X5_sites c_now_row) (fun r_7 => if r_7 ≤ x3 then some (.inr x2) else if p1 = (0 : Int32) then bd1 (F_X5_pointValue x3 (0 : Int32) (0 : Int32) c_now_row) (fun r_16 => bd1 (F_X5_pointValue x2 (0 : Int32) (0 : Int32) c_now_row) (fun r_18 => if lg_cmp r_16 r_18 ≤ (0 : Int32) then some (.inl (x2, x3 + (1 : Int32))) else some (.inl (x3, x3 + (1 : Int32))))) else bd1 (F_X5_slackLength x3 c_now_row) (fun r_11 => bd1 (F_X5_slackLength x2 c_now_row) (fun r_13 => if r_11 ≤ r_13 then some (.inl (x2, x3 + (1 : Int32))) else some (.inl (x3, x3 + (1 : Int32))))))
def F_X7_fair (K : Nat) (p1 : Int32) (c_now_row : Nat → Int32) : Option (Int32) :=
  bd1 (F_X5_stands c_now_row) (fun r_1 => if r_1 = (0 : Int32) then some (-1 : Int32) else if p1 < (0 : Int32) then some (-1 : Int32) else if p1 ≤ (1 : Int32) then bd1 (lpF (fun u9 : Int32 × Int32 => B_X7_fair_25 p1 c_now_row u9.1 u9.2) K ((0 : Int32), (1 : Int32))) (fun x2_21 => some x2_21) else some (-1 : Int32))
abbrev w_X7_fair (E : EE) (a_ a_tape a_reader a_scripts a_now a_trial a_kept a_book a_keptBook a_history a_draws a_refused a_now_row a_now_partners a_now_share a_now_leftOver : Nat) (c_hasImage : Int32) (c_now_askedCount : Int32) (c_now_outcome : Int32) (c_now_row : Nat → Int32) : va_W := [(a_, .inr (8, [.ref a_tape, .ref a_reader, .ref a_scripts, .ref a_now, .ref a_trial, .ref a_kept, .ref a_book, .ref a_keptBook, .ref a_history, .ref a_draws, .ref a_refused, .int c_hasImage])), (a_now, .inr (6, [.ref a_now_row, .ref a_now_partners, .int c_now_askedCount, .int c_now_outcome, .ref a_now_share, .ref a_now_leftOver])), (a_now_row, .inl (E.2.1, 81, .inl c_now_row))]
def v_f_X7_fair : List Cond := List.cons (.code yX7_fair cX7_fair 5 (some .int)) (HAppend.hAppend (α := List Cond) (β := List Cond) (γ := List Cond) [.fieldLink RX7 35 "HushWatch" "now" "LHushWatch$State;", .methodLink RX7 110 yX5_stands, .instanceMethod yX5_stands, .selects RX5 yX5_stands yX5_stands, .initialized RX5, .methodLink RX7 117 yX5_sites, .instanceMethod yX5_sites, .selects RX5 yX5_sites yX5_sites, .methodLink RX7 262 yX5_slackLength, .instanceMethod yX5_slackLength, .selects RX5 yX5_slackLength yX5_slackLength, .methodLink RX7 254 yX5_pointValue, .instanceMethod yX5_pointValue, .selects RX5 yX5_pointValue yX5_pointValue] (HAppend.hAppend (α := List Cond) (β := List Cond) (γ := List Cond) wsX70 (HAppend.hAppend (α := List Cond) (β := List Cond) (γ := List Cond) v_f_X5_stands (HAppend.hAppend (α := List Cond) (β := List Cond) (γ := List Cond) v_f_X5_sites (HAppend.hAppend (α := List Cond) (β := List Cond) (γ := List Cond) v_f_X5_slackLength (HAppend.hAppend (α := List Cond) (β := List Cond) (γ := List Cond) v_f_X5_pointValue []))))))
theorem gw_f_X7_fair : v_f_X7_fair.all goodWord = true := by decide +kernel
theorem i_f_X7_fair_X7 : ∀ w ∈ wsX70, w ∈ v_f_X7_fair := fun _ h => List.mem_cons_of_mem _ (List.mem_append_right _ (List.mem_append_left _ h))
theorem g_f_X7_fair_f_X5_stands_110 : GoodIn v_f_X7_fair (wsV RX7 110 RX5 yX5_stands v_f_X5_stands) := goodIn_app (goodIn_of _ (by decide +kernel)) (goodIn_sub (fun _ h => List.mem_cons_of_mem _ (List.mem_append_right _ (List.mem_append_right _ (List.mem_append_left _ h)))) gw_f_X5_stands)
theorem g_f_X7_fair_f_X5_sites_117 : GoodIn v_f_X7_fair (wsV RX7 117 RX5 yX5_sites v_f_X5_sites) := goodIn_app (goodIn_of _ (by decide +kernel)) (goodIn_sub (fun _ h => List.mem_cons_of_mem _ (List.mem_append_right _ (List.mem_append_right _ (List.mem_append_right _ (List.mem_append_left _ h))))) gw_f_X5_sites)
theorem g_f_X7_fair_f_X5_slackLength_262 : GoodIn v_f_X7_fair (wsV RX7 262 RX5 yX5_slackLength v_f_X5_slackLength) := goodIn_app (goodIn_of _ (by decide +kernel)) (goodIn_sub (fun _ h => List.mem_cons_of_mem _ (List.mem_append_right _ (List.mem_append_right _ (List.mem_append_right _ (List.mem_append_right _ (List.mem_append_left _ h)))))) gw_f_X5_slackLength)
theorem g_f_X7_fair_f_X5_pointValue_254 : GoodIn v_f_X7_fair (wsV RX7 254 RX5 yX5_pointValue v_f_X5_pointValue) := goodIn_app (goodIn_of _ (by decide +kernel)) (goodIn_sub (fun _ h => List.mem_cons_of_mem _ (List.mem_append_right _ (List.mem_append_right _ (List.mem_append_right _ (List.mem_append_right _ (List.mem_append_right _ (List.mem_append_left _ h))))))) gw_f_X5_pointValue)
theorem hd_X7_fair : yX7_fair.cls = RX7 ∧ yX7_fair.cls ≠ "java/lang/invoke/MethodHandle" ∧ yX7_fair.cls ≠ "java/lang/invoke/VarHandle" ∧ (parseMethodDescriptor yX7_fair.desc).map (fun d => d.parameters.length) = some 1 := by decide +kernel
set_option maxHeartbeats 4000000 in
set_option maxRecDepth 100000 in
theorem wb_X7_fair_25 {p : Program} (l : Launch) {e : Env} {s : State} {m : MethodId} {below : List Frame} {meth : Method} {c : Code} {Q : State → Prop} (E : EE) (K : Nat) {a_ a_tape a_reader a_scripts a_now a_trial a_kept a_book a_keptBook a_history a_draws a_refused a_now_row a_now_partners a_now_share a_now_leftOver : Nat} {p1 : Int32} {c_hasImage : Int32} {c_now_askedCount : Int32} {c_now_outcome : Int32} {c_now_row : Nat → Int32} {x2 : Int32} {x3 : Int32} (hx : p.tables.exec = Jvm.exec) (hb : c.code = cX7_fair) (hml : c.maxLocals = 5) (hown : s.vm.findClass RX7 = some m.cls) (hts : ∀ w ∈ v_f_X7_fair, w.before #[Value.ref a_, Value.int p1] s = true) (hK : va_K E.1 vwCl (TY E) s) (hN : NX s) {xx : (Int32 × Int32) ⊕ (Int32)} (hC : ∀ (x2 : Int32), ∀ (x3 : Int32), xx = .inl (x2, x3) → ∀ (ls : Array Slot), lv_has ls 5 [(0, .ref a_), (1, .int p1), (2, .int x2), (3, .int x3)] → W p l e ({ frames := 3, cells := 0, slots := 0, locals := 68 } : Room) s m #[Value.ref a_, Value.int p1] below meth c s.heap [] 0 0 Q (F0 m 25 ls [])) (hE : ∀ (x2 : Int32), xx = .inr x2 → ((∀ (ls : Array Slot), lv_has ls 5 [(2, .int x2)] → W p l e ({ frames := 3, cells := 0, slots := 0, locals := 68 } : Room) s m #[Value.ref a_, Value.int p1] below meth c s.heap [] 0 0 Q (F0 m 111 ls [])))) (hF : B_X7_fair_25 p1 c_now_row x2 x3 = some xx) (hP : va_P E.1 vwCl (w_X7_fair E a_ a_tape a_reader a_scripts a_now a_trial a_kept a_book a_keptBook a_history a_draws a_refused a_now_row a_now_partners a_now_share a_now_leftOver c_hasImage c_now_askedCount c_now_outcome c_now_row) s.heap) : ∀ (ls : Array Slot), lv_has ls 5 [(0, .ref a_), (1, .int p1), (2, .int x2), (3, .int x3)] → W p l e ({ frames := 3, cells := 0, slots := 0, locals := 68 } : Room) s m #[Value.ref a_, Value.int p1] below meth c s.heap [] 0 0 Q (F0 m 25 ls []) := by
  unfold B_X7_fair_25 at hF
  replace hP : va_P E.1 vwCl [(a_, .inr (8, [.ref a_tape, .ref a_reader, .ref a_scripts, .ref a_now, .ref a_trial, .ref a_kept, .ref a_book, .ref a_keptBook, .ref a_history, .ref a_draws, .ref a_refused, .int c_hasImage])), (a_now, .inr (6, [.ref a_now_row, .ref a_now_partners, .int c_now_askedCount, .int c_now_outcome, .ref a_now_share, .ref a_now_leftOver])), (a_now_row, .inl (E.2.1, 81, .inl c_now_row))] s.heap := hP
  intro ls hl
  refine lv_iload_n hx hb dX7_fair_25 rfl (lv_at hl 3 rfl) ?_
  refine lv_aload_n hx hb dX7_fair_26 rfl (lv_at hl 0 rfl) ?_
  refine gt_X7_3 (v := .ref a_now) hx hb hts i_f_X7_fair_X7 hown hK hP 0 rfl (hts (.fieldLink RX7 35 "HushWatch" "now" "LHushWatch$State;") (List.mem_of_getElem? (i := 1) rfl)) rfl dX7_fair_27 ?_
  replace hF := bd1_s hF
  obtain ⟨r_7, hc_8, hF⟩ := hF
  have hPc : va_P E.1 vwCl (w_X5_sites E a_now a_now_row a_now_partners a_now_share a_now_leftOver c_now_askedCount c_now_outcome c_now_row) s.heap := hP.sub (ws' := [(a_now, .inr (6, [.ref a_now_row, .ref a_now_partners, .int c_now_askedCount, .int c_now_outcome, .ref a_now_share, .ref a_now_leftOver])), (a_now_row, .inl (E.2.1, 81, .inl c_now_row))]) [1, 2] rfl
  have hrc := va_recv hK hPc (ci := 6) (q0 := 0) rfl rfl
  refine pE_i (va_runV (As := []) (rest := [.int x3])  ⟨hx, hb, hml, hown, hts⟩ (f_X5_sites l E (a_ := a_now) (a_row := a_now_row) (a_partners := a_now_partners) (a_share := a_now_share) (a_leftOver := a_now_leftOver) (c_askedCount := c_now_askedCount) (c_outcome := c_now_outcome) (c_row := c_now_row) hc_8) (cwV 0 hts g_f_X7_fair_f_X5_sites_117 rfl rfl rfl hd_X5_sites ⟨Nat.le_of_ble_eq_true rfl, Nat.le_of_ble_eq_true rfl⟩) ⟨pP.blind, hrc, (pP.pre ⟨hK, hN⟩ hPc)⟩ rfl rfl hl.1 rfl (lv_room (Nat.le_of_ble_eq_true rfl)) dX7_fair_30 ⟨Nat.le_of_ble_eq_true rfl, Nat.le_of_ble_eq_true rfl⟩) ?_
  refine lv_icmp_ge (tgt := 111) hx hb dX7_fair_33 (by decide) (fun c_9 => ?_) (fun c_9 => ?_)
  ·
    replace hF := ip c_9 hF
    cases hF
    exact hE x2 rfl ls (lv_sub hl [2] rfl)
  ·
    replace hF := inn c_9 hF
    refine lv_iload_n hx hb dX7_fair_36 rfl (lv_at hl 1 rfl) ?_
    refine lv_if_ne (tgt := 72) hx hb dX7_fair_37 (by decide) (fun c_10 => ?_) (fun c_10 => ?_)
    ·
      replace hF := inn c_10 hF
      refine lv_aload_n hx hb dX7_fair_72 rfl (lv_at hl 0 rfl) ?_
      refine gt_X7_3 (v := .ref a_now) hx hb hts i_f_X7_fair_X7 hown hK hP 0 rfl (hts (.fieldLink RX7 35 "HushWatch" "now" "LHushWatch$State;") (List.mem_of_getElem? (i := 1) rfl)) rfl dX7_fair_73 ?_
      refine lv_iload_n hx hb dX7_fair_76 rfl (lv_at hl 3 rfl) ?_
      replace hF := bd1_s hF
      obtain ⟨r_11, hc_12, hF⟩ := hF
      have hPc : va_P E.1 vwCl (w_X5_slackLength E a_now a_now_row a_now_partners a_now_share a_now_leftOver c_now_askedCount c_now_outcome c_now_row) s.heap := hP.sub (ws' := [(a_now, .inr (6, [.ref a_now_row, .ref a_now_partners, .int c_now_askedCount, .int c_now_outcome, .ref a_now_share, .ref a_now_leftOver])), (a_now_row, .inl (E.2.1, 81, .inl c_now_row))]) [1, 2] rfl
      have hrc := va_recv hK hPc (ci := 6) (q0 := 0) rfl rfl
      refine pE_i (va_runV (As := [.int x3]) (rest := [])  ⟨hx, hb, hml, hown, hts⟩ (f_X5_slackLength l E (a_ := a_now) (a_row := a_now_row) (a_partners := a_now_partners) (a_share := a_now_share) (a_leftOver := a_now_leftOver) (p1 := x3) (c_askedCount := c_now_askedCount) (c_outcome := c_now_outcome) (c_row := c_now_row) hc_12) (cwV 1 hts g_f_X7_fair_f_X5_slackLength_262 rfl rfl rfl hd_X5_slackLength ⟨Nat.le_of_ble_eq_true rfl, Nat.le_of_ble_eq_true rfl⟩) ⟨pP.blind, hrc, (pP.pre ⟨hK, hN⟩ hPc)⟩ rfl rfl hl.1 rfl (lv_room (Nat.le_of_ble_eq_true rfl)) dX7_fair_77 ⟨Nat.le_of_ble_eq_true rfl, Nat.le_of_ble_eq_true rfl⟩) ?_
      refine lv_aload_n hx hb dX7_fair_80 rfl (lv_at hl 0 rfl) ?_
      refine gt_X7_3 (v := .ref a_now) hx hb hts i_f_X7_fair_X7 hown hK hP 0 rfl (hts (.fieldLink RX7 35 "HushWatch" "now" "LHushWatch$State;") (List.mem_of_getElem? (i := 1) rfl)) rfl dX7_fair_81 ?_
      refine lv_iload_n hx hb dX7_fair_84 rfl (lv_at hl 2 rfl) ?_
      replace hF := bd1_s hF
      obtain ⟨r_13, hc_14, hF⟩ := hF
      have hPc : va_P E.1 vwCl (w_X5_slackLength E a_now a_now_row a_now_partners a_now_share a_now_leftOver c_now_askedCount c_now_outcome c_now_row) s.heap := hP.sub (ws' := [(a_now, .inr (6, [.ref a_now_row, .ref a_now_partners, .int c_now_askedCount, .int c_now_outcome, .ref a_now_share, .ref a_now_leftOver])), (a_now_row, .inl (E.2.1, 81, .inl c_now_row))]) [1, 2] rfl
      have hrc := va_recv hK hPc (ci := 6) (q0 := 0) rfl rfl
      refine pE_i (va_runV (As := [.int x2]) (rest := [.int r_11])  ⟨hx, hb, hml, hown, hts⟩ (f_X5_slackLength l E (a_ := a_now) (a_row := a_now_row) (a_partners := a_now_partners) (a_share := a_now_share) (a_leftOver := a_now_leftOver) (p1 := x2) (c_askedCount := c_now_askedCount) (c_outcome := c_now_outcome) (c_row := c_now_row) hc_14) (cwV 1 hts g_f_X7_fair_f_X5_slackLength_262 rfl rfl rfl hd_X5_slackLength ⟨Nat.le_of_ble_eq_true rfl, Nat.le_of_ble_eq_true rfl⟩) ⟨pP.blind, hrc, (pP.pre ⟨hK, hN⟩ hPc)⟩ rfl rfl hl.1 rfl (lv_room (Nat.le_of_ble_eq_true rfl)) dX7_fair_85 ⟨Nat.le_of_ble_eq_true rfl, Nat.le_of_ble_eq_true rfl⟩) ?_
      refine lv_icmp_le (tgt := 95) hx hb dX7_fair_88 (by decide) (fun c_15 => ?_) (fun c_15 => ?_)
      ·
        replace hF := ip c_15 hF
        refine lv_iconst (v := 0) hx hb dX7_fair_95 (by decide) ?_
        refine lv_istore (lv' := [(4, .int (0 : Int32)), (0, .ref a_), (1, .int p1), (2, .int x2), (3, .int x3)]) hx hb dX7_fair_96 hl (by decide) rfl (fun ls hl => ?_)
        refine lv_iload hx hb dX7_fair_98 (lv_at hl 0 rfl) ?_
        refine lv_if_eq (tgt := 105) hx hb dX7_fair_100 (by decide) (fun _ => ?_) (fun q => absurd (by decide) q)
        refine lv_iinc (v := x3 + (1 : Int32)) (lv' := [(3, .int (x3 + (1 : Int32))), (4, .int (0 : Int32)), (0, .ref a_), (1, .int p1), (2, .int x2)]) hx hb dX7_fair_105 hl (k := 4) rfl (rfl) (by decide) rfl (fun ls hl => ?_)
        refine lv_goto (tgt := 25) hx hb dX7_fair_108 (by decide) ?_
        cases hF
        exact hC x2 (x3 + (1 : Int32)) rfl ls (lv_sub hl [2, 3, 4, 0] rfl)
      ·
        replace hF := inn c_15 hF
        refine lv_iconst (v := 1) hx hb dX7_fair_91 (by decide) ?_
        refine lv_goto (tgt := 96) hx hb dX7_fair_92 (by decide) ?_
        refine lv_istore (lv' := [(4, .int (1 : Int32)), (0, .ref a_), (1, .int p1), (2, .int x2), (3, .int x3)]) hx hb dX7_fair_96 hl (by decide) rfl (fun ls hl => ?_)
        refine lv_iload hx hb dX7_fair_98 (lv_at hl 0 rfl) ?_
        refine lv_if_eq (tgt := 105) hx hb dX7_fair_100 (by decide) (fun q => absurd q (by decide)) (fun _ => ?_)
        refine lv_iload_n hx hb dX7_fair_103 rfl (lv_at hl 4 rfl) ?_
        refine lv_istore_n (lv' := [(2, .int x3), (4, .int (1 : Int32)), (0, .ref a_), (1, .int p1), (3, .int x3)]) hx hb dX7_fair_104 rfl hl (by decide) rfl (fun ls hl => ?_)
        refine lv_iinc (v := x3 + (1 : Int32)) (lv' := [(3, .int (x3 + (1 : Int32))), (2, .int x3), (4, .int (1 : Int32)), (0, .ref a_), (1, .int p1)]) hx hb dX7_fair_105 hl (k := 4) rfl (rfl) (by decide) rfl (fun ls hl => ?_)
        refine lv_goto (tgt := 25) hx hb dX7_fair_108 (by decide) ?_
        cases hF
        exact hC x3 (x3 + (1 : Int32)) rfl ls (lv_sub hl [3, 4, 1, 0] rfl)
    ·
      replace hF := ip c_10 hF
      refine lv_aload_n hx hb dX7_fair_40 rfl (lv_at hl 0 rfl) ?_
      refine gt_X7_3 (v := .ref a_now) hx hb hts i_f_X7_fair_X7 hown hK hP 0 rfl (hts (.fieldLink RX7 35 "HushWatch" "now" "LHushWatch$State;") (List.mem_of_getElem? (i := 1) rfl)) rfl dX7_fair_41 ?_
      refine lv_iload_n hx hb dX7_fair_44 rfl (lv_at hl 3 rfl) ?_
      refine lv_iconst (v := 0) hx hb dX7_fair_45 (by decide) ?_
      refine lv_iconst (v := 0) hx hb dX7_fair_46 (by decide) ?_
      replace hF := bd1_s hF
      obtain ⟨r_16, hc_17, hF⟩ := hF
      have hPc : va_P E.1 vwCl (w_X5_pointValue E a_now a_now_row a_now_partners a_now_share a_now_leftOver c_now_askedCount c_now_outcome c_now_row) s.heap := hP.sub (ws' := [(a_now, .inr (6, [.ref a_now_row, .ref a_now_partners, .int c_now_askedCount, .int c_now_outcome, .ref a_now_share, .ref a_now_leftOver])), (a_now_row, .inl (E.2.1, 81, .inl c_now_row))]) [1, 2] rfl
      have hrc := va_recv hK hPc (ci := 6) (q0 := 0) rfl rfl
      refine pE_l (va_runV (As := [.int x3, .int (0 : Int32), .int (0 : Int32)]) (rest := [])  ⟨hx, hb, hml, hown, hts⟩ (f_X5_pointValue l E (a_ := a_now) (a_row := a_now_row) (a_partners := a_now_partners) (a_share := a_now_share) (a_leftOver := a_now_leftOver) (p1 := x3) (p2 := (0 : Int32)) (p3 := (0 : Int32)) (c_askedCount := c_now_askedCount) (c_outcome := c_now_outcome) (c_row := c_now_row) hc_17) (cwV 3 hts g_f_X7_fair_f_X5_pointValue_254 rfl rfl rfl hd_X5_pointValue ⟨Nat.le_of_ble_eq_true rfl, Nat.le_of_ble_eq_true rfl⟩) ⟨pP.blind, hrc, (pP.pre ⟨hK, hN⟩ hPc)⟩ rfl rfl hl.1 rfl (lv_room (Nat.le_of_ble_eq_true rfl)) dX7_fair_47 ⟨Nat.le_of_ble_eq_true rfl, Nat.le_of_ble_eq_true rfl⟩) ?_
      refine lv_aload_n hx hb dX7_fair_50 rfl (lv_at hl 0 rfl) ?_
      refine gt_X7_3 (v := .ref a_now) hx hb hts i_f_X7_fair_X7 hown hK hP 0 rfl (hts (.fieldLink RX7 35 "HushWatch" "now" "LHushWatch$State;") (List.mem_of_getElem? (i := 1) rfl)) rfl dX7_fair_51 ?_
      refine lv_iload_n hx hb dX7_fair_54 rfl (lv_at hl 2 rfl) ?_
      refine lv_iconst (v := 0) hx hb dX7_fair_55 (by decide) ?_
      refine lv_iconst (v := 0) hx hb dX7_fair_56 (by decide) ?_
      replace hF := bd1_s hF
      obtain ⟨r_18, hc_19, hF⟩ := hF
      have hPc : va_P E.1 vwCl (w_X5_pointValue E a_now a_now_row a_now_partners a_now_share a_now_leftOver c_now_askedCount c_now_outcome c_now_row) s.heap := hP.sub (ws' := [(a_now, .inr (6, [.ref a_now_row, .ref a_now_partners, .int c_now_askedCount, .int c_now_outcome, .ref a_now_share, .ref a_now_leftOver])), (a_now_row, .inl (E.2.1, 81, .inl c_now_row))]) [1, 2] rfl
      have hrc := va_recv hK hPc (ci := 6) (q0 := 0) rfl rfl
      refine pE_l (va_runV (As := [.int x2, .int (0 : Int32), .int (0 : Int32)]) (rest := [.long r_16])  ⟨hx, hb, hml, hown, hts⟩ (f_X5_pointValue l E (a_ := a_now) (a_row := a_now_row) (a_partners := a_now_partners) (a_share := a_now_share) (a_leftOver := a_now_leftOver) (p1 := x2) (p2 := (0 : Int32)) (p3 := (0 : Int32)) (c_askedCount := c_now_askedCount) (c_outcome := c_now_outcome) (c_row := c_now_row) hc_19) (cwV 3 hts g_f_X7_fair_f_X5_pointValue_254 rfl rfl rfl hd_X5_pointValue ⟨Nat.le_of_ble_eq_true rfl, Nat.le_of_ble_eq_true rfl⟩) ⟨pP.blind, hrc, (pP.pre ⟨hK, hN⟩ hPc)⟩ rfl rfl hl.1 rfl (lv_room (Nat.le_of_ble_eq_true rfl)) dX7_fair_57 ⟨Nat.le_of_ble_eq_true rfl, Nat.le_of_ble_eq_true rfl⟩) ?_
      refine W.lcmp hx hb dX7_fair_60 ?_
      refine lv_if_le (tgt := 68) hx hb dX7_fair_61 (by decide) (fun c_20 => ?_) (fun c_20 => ?_)
      ·
        replace hF := ip c_20 hF
        refine lv_iconst (v := 0) hx hb dX7_fair_68 (by decide) ?_
        refine lv_goto (tgt := 96) hx hb dX7_fair_69 (by decide) ?_
        refine lv_istore (lv' := [(4, .int (0 : Int32)), (0, .ref a_), (1, .int p1), (2, .int x2), (3, .int x3)]) hx hb dX7_fair_96 hl (by decide) rfl (fun ls hl => ?_)
        refine lv_iload hx hb dX7_fair_98 (lv_at hl 0 rfl) ?_
        refine lv_if_eq (tgt := 105) hx hb dX7_fair_100 (by decide) (fun _ => ?_) (fun q => absurd (by decide) q)
        refine lv_iinc (v := x3 + (1 : Int32)) (lv' := [(3, .int (x3 + (1 : Int32))), (4, .int (0 : Int32)), (0, .ref a_), (1, .int p1), (2, .int x2)]) hx hb dX7_fair_105 hl (k := 4) rfl (rfl) (by decide) rfl (fun ls hl => ?_)
        refine lv_goto (tgt := 25) hx hb dX7_fair_108 (by decide) ?_
        cases hF
        exact hC x2 (x3 + (1 : Int32)) rfl ls (lv_sub hl [2, 3, 4, 0] rfl)
      ·
        replace hF := inn c_20 hF
        refine lv_iconst (v := 1) hx hb dX7_fair_64 (by decide) ?_
        refine lv_goto (tgt := 96) hx hb dX7_fair_65 (by decide) ?_
        refine lv_istore (lv' := [(4, .int (1 : Int32)), (0, .ref a_), (1, .int p1), (2, .int x2), (3, .int x3)]) hx hb dX7_fair_96 hl (by decide) rfl (fun ls hl => ?_)
        refine lv_iload hx hb dX7_fair_98 (lv_at hl 0 rfl) ?_
        refine lv_if_eq (tgt := 105) hx hb dX7_fair_100 (by decide) (fun q => absurd q (by decide)) (fun _ => ?_)
        refine lv_iload_n hx hb dX7_fair_103 rfl (lv_at hl 4 rfl) ?_
        refine lv_istore_n (lv' := [(2, .int x3), (4, .int (1 : Int32)), (0, .ref a_), (1, .int p1), (3, .int x3)]) hx hb dX7_fair_104 rfl hl (by decide) rfl (fun ls hl => ?_)
        refine lv_iinc (v := x3 + (1 : Int32)) (lv' := [(3, .int (x3 + (1 : Int32))), (2, .int x3), (4, .int (1 : Int32)), (0, .ref a_), (1, .int p1)]) hx hb dX7_fair_105 hl (k := 4) rfl (rfl) (by decide) rfl (fun ls hl => ?_)
        refine lv_goto (tgt := 25) hx hb dX7_fair_108 (by decide) ?_
        cases hF
        exact hC x3 (x3 + (1 : Int32)) rfl ls (lv_sub hl [3, 4, 1, 0] rfl)

set_option maxHeartbeats 4000000 in
set_option maxRecDepth 100000 in
theorem lw_X7_fair_25 {p : Program} (l : Launch) {e : Env} {s : State} {m : MethodId} {below : List Frame} {meth : Method} {c : Code} {Q : State → Prop} (E : EE) (K : Nat) {a_ a_tape a_reader a_scripts a_now a_trial a_kept a_book a_keptBook a_history a_draws a_refused a_now_row a_now_partners a_now_share a_now_leftOver : Nat} {p1 : Int32} {c_hasImage : Int32} {c_now_askedCount : Int32} {c_now_outcome : Int32} {c_now_row : Nat → Int32} (hx : p.tables.exec = Jvm.exec) (hb : c.code = cX7_fair) (hml : c.maxLocals = 5) (hown : s.vm.findClass RX7 = some m.cls) (hts : ∀ w ∈ v_f_X7_fair, w.before #[Value.ref a_, Value.int p1] s = true) (hK : va_K E.1 vwCl (TY E) s) (hN : NX s) (hP : va_P E.1 vwCl (w_X7_fair E a_ a_tape a_reader a_scripts a_now a_trial a_kept a_book a_keptBook a_history a_draws a_refused a_now_row a_now_partners a_now_share a_now_leftOver c_hasImage c_now_askedCount c_now_outcome c_now_row) s.heap) (j9 : Nat) (x2 : Int32) (x3 : Int32) (x2' : Int32) (hL : lpF (fun u9 : Int32 × Int32 => B_X7_fair_25 p1 c_now_row u9.1 u9.2) j9 (x2, x3) = some x2') (hX : (∀ (ls : Array Slot), lv_has ls 5 [(2, .int x2')] → W p l e ({ frames := 3, cells := 0, slots := 0, locals := 68 } : Room) s m #[Value.ref a_, Value.int p1] below meth c s.heap [] 0 0 Q (F0 m 111 ls []))) : ∀ (ls : Array Slot), lv_has ls 5 [(0, .ref a_), (1, .int p1), (2, .int x2), (3, .int x3)] → W p l e ({ frames := 3, cells := 0, slots := 0, locals := 68 } : Room) s m #[Value.ref a_, Value.int p1] below meth c s.heap [] 0 0 Q (F0 m 25 ls []) := by
  exact lp_rule (P := (fun u9 : Int32 × Int32 => ∀ (ls : Array Slot), lv_has ls 5 [(0, .ref a_), (1, .int p1), (2, .int u9.1), (3, .int u9.2)] → W p l e ({ frames := 3, cells := 0, slots := 0, locals := 68 } : Room) s m #[Value.ref a_, Value.int p1] below meth c s.heap [] 0 0 Q (F0 m 25 ls []))) (R := (fun r9 : Int32 => (∀ (ls : Array Slot), lv_has ls 5 [(2, .int r9)] → W p l e ({ frames := 3, cells := 0, slots := 0, locals := 68 } : Room) s m #[Value.ref a_, Value.int p1] below meth c s.heap [] 0 0 Q (F0 m 111 ls [])))) (fun u9 xx hF hC hE => wb_X7_fair_25 l E K (p1 := p1) (c_hasImage := c_hasImage) (c_now_askedCount := c_now_askedCount) (c_now_outcome := c_now_outcome) (c_now_row := c_now_row) (x2 := u9.1) (x3 := u9.2) hx hb hml hown hts hK hN (fun x2 x3 q9 => hC _ q9) (fun x2 q9 => hE _ q9) hF hP) j9 (x2, x3) x2' hL hX

set_option maxHeartbeats 4000000 in
set_option maxRecDepth 100000 in
theorem f_X7_fair (l : Launch) (E : EE) (K : Nat) {a_ a_tape a_reader a_scripts a_now a_trial a_kept a_book a_keptBook a_history a_draws a_refused a_now_row a_now_partners a_now_share a_now_leftOver : Nat} {p1 : Int32} {c_hasImage : Int32} {c_now_askedCount : Int32} {c_now_outcome : Int32} {c_now_row : Nat → Int32} {rr : Int32} (hF : F_X7_fair K p1 c_now_row = some rr) : Met l yX7_fair v_f_X7_fair (({ frames := 3, cells := 0, slots := 0, locals := 68 } : Room)) (va_Pc [.ref a_, .int p1] (pP E (w_X7_fair E a_ a_tape a_reader a_scripts a_now a_trial a_kept a_book a_keptBook a_history a_draws a_refused a_now_row a_now_partners a_now_share a_now_leftOver c_hasImage c_now_askedCount c_now_outcome c_now_row))) (vp_Si (fun q : Int32 => q = rr)) 0 0 (fun _ => False) := by
  refine Met.ofW (cc := cX7_fair) (maxL := 5) (ret := (some .int)) (by decide) rfl ?_
  intro p e s m args below meth c s₁ B hml hv
  obtain ⟨rfl, ⟨hK, hN⟩, hP⟩ := hv
  have hx := B.exec
  have hb := B.bytes
  have hr := B.returns
  have hts := atoms_spec (ws := v_f_X7_fair) B.pre
  have hown : s.vm.findClass RX7 = some m.cls := own_of hd_X7_fair.1 (findClass_of_methodNamed B.named)
  have hlocks : meth.locks = false := B.notSynchronized
  replace hP : va_P E.1 vwCl [(a_, .inr (8, [.ref a_tape, .ref a_reader, .ref a_scripts, .ref a_now, .ref a_trial, .ref a_kept, .ref a_book, .ref a_keptBook, .ref a_history, .ref a_draws, .ref a_refused, .int c_hasImage])), (a_now, .inr (6, [.ref a_now_row, .ref a_now_partners, .int c_now_askedCount, .int c_now_outcome, .ref a_now_share, .ref a_now_leftOver])), (a_now_row, .inl (E.2.1, 81, .inl c_now_row))] s.heap := hP
  have hl := lv_entry ([.ref a_, .int p1]) (n := 5) (Nat.le_of_ble_eq_true rfl)
  rw [lg_entry_eq]
  generalize (lg_sl ([.ref a_, .int p1]) ++ List.replicate (5 - (lg_sl ([.ref a_, .int p1])).length) Slot.unset).toArray = ls at hl ⊢
  have hl : lv_has ls 5 [(0, .ref a_), (1, .int p1)] := hl
  obtain ⟨Q, hQ⟩ : ∃ Q : State → Prop, Q = MQ below (vp_Si (fun q : Int32 => q = rr)) #[Value.ref a_, Value.int p1] s 0 0 (fun _ => False) := ⟨_, rfl⟩
  rw [← hQ]
  change W p l e ({ frames := 3, cells := 0, slots := 0, locals := 68 } : Room) s m #[Value.ref a_, Value.int p1] below meth c s.heap [] 0 0 Q (F0 m 0 ls [])
  unfold F_X7_fair at hF
  refine lv_aload_n hx hb dX7_fair_0 rfl (lv_at hl 0 rfl) ?_
  refine gt_X7_3 (v := .ref a_now) hx hb hts i_f_X7_fair_X7 hown hK hP 0 rfl (hts (.fieldLink RX7 35 "HushWatch" "now" "LHushWatch$State;") (List.mem_of_getElem? (i := 1) rfl)) rfl dX7_fair_1 ?_
  replace hF := bd1_s hF
  obtain ⟨r_1, hc_2, hF⟩ := hF
  have hPc : va_P E.1 vwCl (w_X5_stands E a_now a_now_row a_now_partners a_now_share a_now_leftOver c_now_askedCount c_now_outcome c_now_row) s.heap := hP.sub (ws' := [(a_now, .inr (6, [.ref a_now_row, .ref a_now_partners, .int c_now_askedCount, .int c_now_outcome, .ref a_now_share, .ref a_now_leftOver])), (a_now_row, .inl (E.2.1, 81, .inl c_now_row))]) [1, 2] rfl
  have hrc := va_recv hK hPc (ci := 6) (q0 := 0) rfl rfl
  refine pE_z (va_runV (As := []) (rest := [])  ⟨hx, hb, hml, hown, hts⟩ (f_X5_stands l E (a_ := a_now) (a_row := a_now_row) (a_partners := a_now_partners) (a_share := a_now_share) (a_leftOver := a_now_leftOver) (c_askedCount := c_now_askedCount) (c_outcome := c_now_outcome) (c_row := c_now_row) hc_2) (cwV 0 hts g_f_X7_fair_f_X5_stands_110 rfl rfl rfl hd_X5_stands ⟨Nat.le_of_ble_eq_true rfl, Nat.le_of_ble_eq_true rfl⟩) ⟨pP.blind, hrc, (pP.pre ⟨hK, hN⟩ hPc)⟩ rfl rfl hl.1 rfl (lv_room (Nat.le_of_ble_eq_true rfl)) dX7_fair_4 ⟨Nat.le_of_ble_eq_true rfl, Nat.le_of_ble_eq_true rfl⟩) (fun hb_3 => ?_)
  refine lv_if_eq (tgt := 19) hx hb dX7_fair_7 (by decide) (fun c_4 => ?_) (fun c_4 => ?_)
  ·
    replace hF := ip c_4 hF
    refine lv_iconst (v := -1) hx hb dX7_fair_19 (by decide) ?_
    rw [hQ]
    obtain e9_0 := inj1 hF
    exact W.iret (v := (-1 : Int32)) hx hb hr (fun tt ht hW => ⟨_, rfl, e9_0, ht⟩) (fun _ h => by cases h) dX7_fair_20
  ·
    replace hF := inn c_4 hF
    refine lv_iload_n hx hb dX7_fair_10 rfl (lv_at hl 1 rfl) ?_
    refine lv_if_lt (tgt := 19) hx hb dX7_fair_11 (by decide) (fun c_5 => ?_) (fun c_5 => ?_)
    ·
      replace hF := ip c_5 hF
      refine lv_iconst (v := -1) hx hb dX7_fair_19 (by decide) ?_
      rw [hQ]
      obtain e9_0 := inj1 hF
      exact W.iret (v := (-1 : Int32)) hx hb hr (fun tt ht hW => ⟨_, rfl, e9_0, ht⟩) (fun _ h => by cases h) dX7_fair_20
    ·
      replace hF := inn c_5 hF
      refine lv_iload_n hx hb dX7_fair_14 rfl (lv_at hl 1 rfl) ?_
      refine lv_iconst (v := 1) hx hb dX7_fair_15 (by decide) ?_
      refine lv_icmp_le (tgt := 21) hx hb dX7_fair_16 (by decide) (fun c_6 => ?_) (fun c_6 => ?_)
      ·
        replace hF := ip c_6 hF
        refine lv_iconst (v := 0) hx hb dX7_fair_21 (by decide) ?_
        refine lv_istore_n (lv' := [(2, .int (0 : Int32)), (0, .ref a_), (1, .int p1)]) hx hb dX7_fair_22 rfl hl (by decide) rfl (fun ls hl => ?_)
        refine lv_iconst (v := 1) hx hb dX7_fair_23 (by decide) ?_
        refine lv_istore_n (lv' := [(3, .int (1 : Int32)), (2, .int (0 : Int32)), (0, .ref a_), (1, .int p1)]) hx hb dX7_fair_24 rfl hl (by decide) rfl (fun ls hl => ?_)
        replace hF := bd1_s hF
        obtain ⟨x2_21, hL_22, hF⟩ := hF
        refine lw_X7_fair_25 l E K (p1 := p1) (c_hasImage := c_hasImage) (c_now_askedCount := c_now_askedCount) (c_now_outcome := c_now_outcome) (c_now_row := c_now_row) hx hb hml hown hts hK hN hP K (0 : Int32) (1 : Int32) x2_21 hL_22 ?_ ls (lv_sub hl [2, 3, 1, 0] rfl)
        ·
          intro ls hl
          refine lv_iload_n hx hb dX7_fair_111 rfl (lv_at hl 0 rfl) ?_
          rw [hQ]
          obtain e9_0 := inj1 hF
          exact W.iret (v := x2_21) hx hb hr (fun tt ht hW => ⟨_, rfl, e9_0, ht⟩) (fun _ h => by cases h) dX7_fair_112
      ·
        replace hF := inn c_6 hF
        refine lv_iconst (v := -1) hx hb dX7_fair_19 (by decide) ?_
        rw [hQ]
        obtain e9_0 := inj1 hF
        exact W.iret (v := (-1 : Int32)) hx hb hr (fun tt ht hW => ⟨_, rfl, e9_0, ht⟩) (fun _ h => by cases h) dX7_fair_20

def F_X7_fault (K : Nat) (p1 : Int32) (c_tape_bytes : Nat → Int32) (c_tape_length : Int32) (c_reader_rules : Nat → Int32) (c_reader_places : Nat → Int32) (c_reader_steps : Nat → Int32) (c_reader_siteCount : Int32) (c_reader_stepCount : Int32) (c_reader_seenRules : Int32) (c_reader_at : Int32) (c_reader_wordStart : Int32) (c_reader_number : Int32) (c_reader_failed : Int32) : Option (Int32 × (Nat → Int32) × (Nat → Int32) × (Nat → Int32) × Int32 × Int32 × Int32 × Int32 × Int32 × Int32 × Int32) :=
  if p1 = (0 : Int32) then bd10 (F_X3_readWatch K c_tape_bytes c_tape_length c_reader_rules c_reader_places c_reader_siteCount c_reader_stepCount c_reader_seenRules c_reader_at c_reader_wordStart c_reader_number c_reader_failed) (fun r_14 w_15 w_16 w_17 w_18 w_19 w_20 w_21 w_22 w_23 => some (r_14, w_15, w_16, c_reader_steps, w_17, w_18, w_19, w_20, w_21, w_22, w_23)) else if p1 = (1 : Int32) then bd10 (F_X3_readScript K c_tape_bytes c_tape_length c_reader_rules c_reader_steps c_reader_siteCount c_reader_stepCount c_reader_seenRules c_reader_at c_reader_wordStart c_reader_number c_reader_failed) (fun r_3 w_4 w_5 w_6 w_7 w_8 w_9 w_10 w_11 w_12 => some (r_3, w_4, c_reader_places, w_5, w_6, w_7, w_8, w_9, w_10, w_11, w_12)) else some ((-2 : Int32), c_reader_rules, c_reader_places, c_reader_steps, c_reader_siteCount, c_reader_stepCount, c_reader_seenRules, c_reader_at, c_reader_wordStart, c_reader_number, c_reader_failed)
abbrev w_X7_fault (E : EE) (a_ a_tape a_reader a_scripts a_now a_trial a_kept a_book a_keptBook a_history a_draws a_refused a_tape_bytes a_reader_rules a_reader_places a_reader_steps : Nat) (c_hasImage : Int32) (c_tape_length : Int32) (c_tape_bytes : Nat → Int32) (c_reader_siteCount : Int32) (c_reader_stepCount : Int32) (c_reader_seenRules : Int32) (c_reader_at : Int32) (c_reader_wordStart : Int32) (c_reader_number : Int32) (c_reader_failed : Int32) (c_reader_rules : Nat → Int32) (c_reader_places : Nat → Int32) (c_reader_steps : Nat → Int32) : va_W := [(a_, .inr (8, [.ref a_tape, .ref a_reader, .ref a_scripts, .ref a_now, .ref a_trial, .ref a_kept, .ref a_book, .ref a_keptBook, .ref a_history, .ref a_draws, .ref a_refused, .int c_hasImage])), (a_tape, .inr (7, [.ref a_tape_bytes, .int c_tape_length])), (a_tape_bytes, .inl (E.2.2.1, 320, .inl c_tape_bytes)), (a_reader, .inr (4, [.ref a_tape, .ref a_reader_rules, .ref a_reader_places, .ref a_reader_steps, .int c_reader_siteCount, .int c_reader_stepCount, .int c_reader_seenRules, .int c_reader_at, .int c_reader_wordStart, .int c_reader_number, .int c_reader_failed])), (a_reader_rules, .inl (E.2.1, 3, .inl c_reader_rules)), (a_reader_places, .inl (E.2.1, 16, .inl c_reader_places)), (a_reader_steps, .inl (E.2.1, 48, .inl c_reader_steps))]
def v_f_X7_fault : List Cond := List.cons (.code yX7_fault cX7_fault 2 (some .int)) (HAppend.hAppend (α := List Cond) (β := List Cond) (γ := List Cond) [.fieldLink RX7 21 "HushWatch" "reader" "LHushWatch$Reader;", .methodLink RX7 97 yX3_readScript, .instanceMethod yX3_readScript, .selects RX3 yX3_readScript yX3_readScript, .initialized RX3, .methodLink RX7 93 yX3_readWatch, .instanceMethod yX3_readWatch, .selects RX3 yX3_readWatch yX3_readWatch] (HAppend.hAppend (α := List Cond) (β := List Cond) (γ := List Cond) wsX70 (HAppend.hAppend (α := List Cond) (β := List Cond) (γ := List Cond) v_f_X3_readScript (HAppend.hAppend (α := List Cond) (β := List Cond) (γ := List Cond) v_f_X3_readWatch []))))
theorem gw_f_X7_fault : v_f_X7_fault.all goodWord = true := by decide +kernel
theorem i_f_X7_fault_X7 : ∀ w ∈ wsX70, w ∈ v_f_X7_fault := fun _ h => List.mem_cons_of_mem _ (List.mem_append_right _ (List.mem_append_left _ h))
theorem g_f_X7_fault_f_X3_readScript_97 : GoodIn v_f_X7_fault (wsV RX7 97 RX3 yX3_readScript v_f_X3_readScript) := goodIn_app (goodIn_of _ (by decide +kernel)) (goodIn_sub (fun _ h => List.mem_cons_of_mem _ (List.mem_append_right _ (List.mem_append_right _ (List.mem_append_left _ h)))) gw_f_X3_readScript)
theorem g_f_X7_fault_f_X3_readWatch_93 : GoodIn v_f_X7_fault (wsV RX7 93 RX3 yX3_readWatch v_f_X3_readWatch) := goodIn_app (goodIn_of _ (by decide +kernel)) (goodIn_sub (fun _ h => List.mem_cons_of_mem _ (List.mem_append_right _ (List.mem_append_right _ (List.mem_append_right _ (List.mem_append_left _ h))))) gw_f_X3_readWatch)
theorem hd_X7_fault : yX7_fault.cls = RX7 ∧ yX7_fault.cls ≠ "java/lang/invoke/MethodHandle" ∧ yX7_fault.cls ≠ "java/lang/invoke/VarHandle" ∧ (parseMethodDescriptor yX7_fault.desc).map (fun d => d.parameters.length) = some 1 := by decide +kernel
set_option maxHeartbeats 4000000 in
set_option maxRecDepth 100000 in
theorem f_X7_fault (l : Launch) (E : EE) (sz : Nat) (K : Nat) (z9 : Nat → Nat) {a_ a_tape a_reader a_scripts a_now a_trial a_kept a_book a_keptBook a_history a_draws a_refused a_tape_bytes a_reader_rules a_reader_places a_reader_steps : Nat} {p1 : Int32} {c_hasImage : Int32} {c_tape_length : Int32} {c_tape_bytes : Nat → Int32} {c_reader_siteCount : Int32} {c_reader_stepCount : Int32} {c_reader_seenRules : Int32} {c_reader_at : Int32} {c_reader_wordStart : Int32} {c_reader_number : Int32} {c_reader_failed : Int32} {c_reader_rules : Nat → Int32} {c_reader_places : Nat → Int32} {c_reader_steps : Nat → Int32} {rr : Int32} {n_reader_rules : Nat → Int32} {n_reader_places : Nat → Int32} {n_reader_steps : Nat → Int32} {n_reader_siteCount : Int32} {n_reader_stepCount : Int32} {n_reader_seenRules : Int32} {n_reader_at : Int32} {n_reader_wordStart : Int32} {n_reader_number : Int32} {n_reader_failed : Int32} (hF : F_X7_fault K p1 c_tape_bytes c_tape_length c_reader_rules c_reader_places c_reader_steps c_reader_siteCount c_reader_stepCount c_reader_seenRules c_reader_at c_reader_wordStart c_reader_number c_reader_failed = some (rr, n_reader_rules, n_reader_places, n_reader_steps, n_reader_siteCount, n_reader_stepCount, n_reader_seenRules, n_reader_at, n_reader_wordStart, n_reader_number, n_reader_failed)) : Met l yX7_fault v_f_X7_fault (({ frames := 9, cells := 0, slots := 0, locals := 190 } : Room)) (va_Pc [.ref a_, .int p1] (qWZ E z9 sz (w_X7_fault E a_ a_tape a_reader a_scripts a_now a_trial a_kept a_book a_keptBook a_history a_draws a_refused a_tape_bytes a_reader_rules a_reader_places a_reader_steps c_hasImage c_tape_length c_tape_bytes c_reader_siteCount c_reader_stepCount c_reader_seenRules c_reader_at c_reader_wordStart c_reader_number c_reader_failed c_reader_rules c_reader_places c_reader_steps))) (va_Qi (fun (q : Int32) (_u : Unit) => q = rr) (fun (_u : Unit) tt => va_P E.1 vwCl (w_X7_fault E a_ a_tape a_reader a_scripts a_now a_trial a_kept a_book a_keptBook a_history a_draws a_refused a_tape_bytes a_reader_rules a_reader_places a_reader_steps c_hasImage c_tape_length c_tape_bytes n_reader_siteCount n_reader_stepCount n_reader_seenRules n_reader_at n_reader_wordStart n_reader_number n_reader_failed n_reader_rules n_reader_places n_reader_steps) tt.heap ∧ va_D (va_A (w_X7_fault E a_ a_tape a_reader a_scripts a_now a_trial a_kept a_book a_keptBook a_history a_draws a_refused a_tape_bytes a_reader_rules a_reader_places a_reader_steps c_hasImage c_tape_length c_tape_bytes c_reader_siteCount c_reader_stepCount c_reader_seenRules c_reader_at c_reader_wordStart c_reader_number c_reader_failed c_reader_rules c_reader_places c_reader_steps) sz) (w_X7_fault E a_ a_tape a_reader a_scripts a_now a_trial a_kept a_book a_keptBook a_history a_draws a_refused a_tape_bytes a_reader_rules a_reader_places a_reader_steps c_hasImage c_tape_length c_tape_bytes n_reader_siteCount n_reader_stepCount n_reader_seenRules n_reader_at n_reader_wordStart n_reader_number n_reader_failed n_reader_rules n_reader_places n_reader_steps)) (va_A (w_X7_fault E a_ a_tape a_reader a_scripts a_now a_trial a_kept a_book a_keptBook a_history a_draws a_refused a_tape_bytes a_reader_rules a_reader_places a_reader_steps c_hasImage c_tape_length c_tape_bytes c_reader_siteCount c_reader_stepCount c_reader_seenRules c_reader_at c_reader_wordStart c_reader_number c_reader_failed c_reader_rules c_reader_places c_reader_steps) sz)) 0 0 (va_A (w_X7_fault E a_ a_tape a_reader a_scripts a_now a_trial a_kept a_book a_keptBook a_history a_draws a_refused a_tape_bytes a_reader_rules a_reader_places a_reader_steps c_hasImage c_tape_length c_tape_bytes c_reader_siteCount c_reader_stepCount c_reader_seenRules c_reader_at c_reader_wordStart c_reader_number c_reader_failed c_reader_rules c_reader_places c_reader_steps) sz) := by
  refine Met.ofW (cc := cX7_fault) (maxL := 2) (ret := (some .int)) (by decide) rfl ?_
  intro p e s m args below meth c s₁ B hml hv
  obtain ⟨rfl, hsz, ⟨hK, hN⟩, hP, hD0, hZ⟩ := hv
  have hx := B.exec
  have hb := B.bytes
  have hr := B.returns
  have hts := atoms_spec (ws := v_f_X7_fault) B.pre
  have hown : s.vm.findClass RX7 = some m.cls := own_of hd_X7_fault.1 (findClass_of_methodNamed B.named)
  have hlocks : meth.locks = false := B.notSynchronized
  subst hsz
  have hD := hD0.self (sz := s.heap.size)
  generalize hAe : va_A (w_X7_fault E a_ a_tape a_reader a_scripts a_now a_trial a_kept a_book a_keptBook a_history a_draws a_refused a_tape_bytes a_reader_rules a_reader_places a_reader_steps c_hasImage c_tape_length c_tape_bytes c_reader_siteCount c_reader_stepCount c_reader_seenRules c_reader_at c_reader_wordStart c_reader_number c_reader_failed c_reader_rules c_reader_places c_reader_steps) s.heap.size = A at hD hZ ⊢
  have hA : ∀ q : Nat, s.heap.size ≤ q → A q := fun q h => by rw [← hAe]; exact Or.inr h
  have hS : va_S A s.heap s.heap [] := va_S.rf
  have hl := lv_entry ([.ref a_, .int p1]) (n := 2) (Nat.le_of_ble_eq_true rfl)
  rw [lg_entry_eq]
  generalize (lg_sl ([.ref a_, .int p1]) ++ List.replicate (2 - (lg_sl ([.ref a_, .int p1])).length) Slot.unset).toArray = ls at hl ⊢
  have hl : lv_has ls 2 [(0, .ref a_), (1, .int p1)] := hl
  obtain ⟨Q, hQ⟩ : ∃ Q : State → Prop, Q = MQ below (va_Qi (fun (q : Int32) (_u : Unit) => q = rr) (fun (_u : Unit) tt => va_P E.1 vwCl (w_X7_fault E a_ a_tape a_reader a_scripts a_now a_trial a_kept a_book a_keptBook a_history a_draws a_refused a_tape_bytes a_reader_rules a_reader_places a_reader_steps c_hasImage c_tape_length c_tape_bytes n_reader_siteCount n_reader_stepCount n_reader_seenRules n_reader_at n_reader_wordStart n_reader_number n_reader_failed n_reader_rules n_reader_places n_reader_steps) tt.heap ∧ va_D A (w_X7_fault E a_ a_tape a_reader a_scripts a_now a_trial a_kept a_book a_keptBook a_history a_draws a_refused a_tape_bytes a_reader_rules a_reader_places a_reader_steps c_hasImage c_tape_length c_tape_bytes n_reader_siteCount n_reader_stepCount n_reader_seenRules n_reader_at n_reader_wordStart n_reader_number n_reader_failed n_reader_rules n_reader_places n_reader_steps)) A) #[Value.ref a_, Value.int p1] s 0 0 A := ⟨_, rfl⟩
  rw [← hQ]
  change W p l e ({ frames := 9, cells := 0, slots := 0, locals := 190 } : Room) s m #[Value.ref a_, Value.int p1] below meth c s.heap [] 0 0 Q (F0 m 0 ls [])
  suffices hh9 : ∀ (H : Heap) (locs : List Loc), va_P E.1 vwCl (w_X7_fault E a_ a_tape a_reader a_scripts a_now a_trial a_kept a_book a_keptBook a_history a_draws a_refused a_tape_bytes a_reader_rules a_reader_places a_reader_steps c_hasImage c_tape_length c_tape_bytes c_reader_siteCount c_reader_stepCount c_reader_seenRules c_reader_at c_reader_wordStart c_reader_number c_reader_failed c_reader_rules c_reader_places c_reader_steps) H → va_D A (w_X7_fault E a_ a_tape a_reader a_scripts a_now a_trial a_kept a_book a_keptBook a_history a_draws a_refused a_tape_bytes a_reader_rules a_reader_places a_reader_steps c_hasImage c_tape_length c_tape_bytes c_reader_siteCount c_reader_stepCount c_reader_seenRules c_reader_at c_reader_wordStart c_reader_number c_reader_failed c_reader_rules c_reader_places c_reader_steps) → va_S A s.heap H locs → W p l e ({ frames := 9, cells := 0, slots := 0, locals := 190 } : Room) s m #[Value.ref a_, Value.int p1] below meth c H locs 0 0 Q (F0 m 0 ls []) from hh9 s.heap [] hP hD hS
  clear hP hD hS
  intro H locs hP hD hS
  replace hP : va_P E.1 vwCl [(a_, .inr (8, [.ref a_tape, .ref a_reader, .ref a_scripts, .ref a_now, .ref a_trial, .ref a_kept, .ref a_book, .ref a_keptBook, .ref a_history, .ref a_draws, .ref a_refused, .int c_hasImage])), (a_tape, .inr (7, [.ref a_tape_bytes, .int c_tape_length])), (a_tape_bytes, .inl (E.2.2.1, 320, .inl c_tape_bytes)), (a_reader, .inr (4, [.ref a_tape, .ref a_reader_rules, .ref a_reader_places, .ref a_reader_steps, .int c_reader_siteCount, .int c_reader_stepCount, .int c_reader_seenRules, .int c_reader_at, .int c_reader_wordStart, .int c_reader_number, .int c_reader_failed])), (a_reader_rules, .inl (E.2.1, 3, .inl c_reader_rules)), (a_reader_places, .inl (E.2.1, 16, .inl c_reader_places)), (a_reader_steps, .inl (E.2.1, 48, .inl c_reader_steps))] H := hP
  replace hD : va_D A [(a_, .inr (8, [.ref a_tape, .ref a_reader, .ref a_scripts, .ref a_now, .ref a_trial, .ref a_kept, .ref a_book, .ref a_keptBook, .ref a_history, .ref a_draws, .ref a_refused, .int c_hasImage])), (a_tape, .inr (7, [.ref a_tape_bytes, .int c_tape_length])), (a_tape_bytes, .inl (E.2.2.1, 320, .inl c_tape_bytes)), (a_reader, .inr (4, [.ref a_tape, .ref a_reader_rules, .ref a_reader_places, .ref a_reader_steps, .int c_reader_siteCount, .int c_reader_stepCount, .int c_reader_seenRules, .int c_reader_at, .int c_reader_wordStart, .int c_reader_number, .int c_reader_failed])), (a_reader_rules, .inl (E.2.1, 3, .inl c_reader_rules)), (a_reader_places, .inl (E.2.1, 16, .inl c_reader_places)), (a_reader_steps, .inl (E.2.1, 48, .inl c_reader_steps))] := hD
  unfold F_X7_fault at hF
  refine lv_iload_n hx hb dX7_fault_0 rfl (lv_at hl 1 rfl) ?_
  refine lv_if_ne (tgt := 12) hx hb dX7_fault_1 (by decide) (fun c_1 => ?_) (fun c_1 => ?_)
  ·
    replace hF := inn c_1 hF
    refine lv_iload_n hx hb dX7_fault_12 rfl (lv_at hl 1 rfl) ?_
    refine lv_iconst (v := 1) hx hb dX7_fault_13 (by decide) ?_
    refine lv_icmp_ne (tgt := 27) hx hb dX7_fault_14 (by decide) (fun c_2 => ?_) (fun c_2 => ?_)
    ·
      replace hF := inn c_2 hF
      refine lv_bipush (v := -2) hx hb dX7_fault_27 (by decide) ?_
      rw [hQ]
      have h9 := fin9 (P := fun u9 : Int32 × (Nat → Int32) × (Nat → Int32) × (Nat → Int32) × Int32 × Int32 × Int32 × Int32 × Int32 × Int32 × Int32 => (-2 : Int32) = u9.1 ∧ va_P E.1 vwCl (w_X7_fault E a_ a_tape a_reader a_scripts a_now a_trial a_kept a_book a_keptBook a_history a_draws a_refused a_tape_bytes a_reader_rules a_reader_places a_reader_steps c_hasImage c_tape_length c_tape_bytes u9.2.2.2.2.1 u9.2.2.2.2.2.1 u9.2.2.2.2.2.2.1 u9.2.2.2.2.2.2.2.1 u9.2.2.2.2.2.2.2.2.1 u9.2.2.2.2.2.2.2.2.2.1 u9.2.2.2.2.2.2.2.2.2.2 u9.2.1 u9.2.2.1 u9.2.2.2.1) H ∧ va_D A (w_X7_fault E a_ a_tape a_reader a_scripts a_now a_trial a_kept a_book a_keptBook a_history a_draws a_refused a_tape_bytes a_reader_rules a_reader_places a_reader_steps c_hasImage c_tape_length c_tape_bytes u9.2.2.2.2.1 u9.2.2.2.2.2.1 u9.2.2.2.2.2.2.1 u9.2.2.2.2.2.2.2.1 u9.2.2.2.2.2.2.2.2.1 u9.2.2.2.2.2.2.2.2.2.1 u9.2.2.2.2.2.2.2.2.2.2 u9.2.1 u9.2.2.1 u9.2.2.2.1)) hF ⟨rfl, hP, hD⟩
      obtain ⟨e9_0, hP9, hD9⟩ := h9
      exact W.iret (v := (-2 : Int32)) hx hb hr (fun tt ht hW => ⟨⟨_, (), rfl, e9_0, ht ▸ hP9, hD9⟩, hS.F ht⟩) hS.2.2 dX7_fault_29
    ·
      replace hF := ip c_2 hF
      refine lv_aload_n hx hb dX7_fault_17 rfl (lv_at hl 0 rfl) ?_
      refine gt_X7_1 (v := .ref a_reader) hx hb hts i_f_X7_fault_X7 hown hK hP 0 rfl (hts (.fieldLink RX7 21 "HushWatch" "reader" "LHushWatch$Reader;") (List.mem_of_getElem? (i := 1) rfl)) rfl dX7_fault_18 ?_
      replace hF := bd10_s hF
      obtain ⟨r_3, w_4, w_5, w_6, w_7, w_8, w_9, w_10, w_11, w_12, hc_13, hF⟩ := hF
      obtain ⟨hPc, hDc, hFc⟩ := wcut (wc := (w_X3_readScript E a_reader a_tape a_reader_rules a_reader_places a_reader_steps a_tape_bytes c_reader_siteCount c_reader_stepCount c_reader_seenRules c_reader_at c_reader_wordStart c_reader_number c_reader_failed c_tape_length c_tape_bytes c_reader_rules c_reader_steps)) hP hD hS hA [3, 1, 2, 4, 6] (by decide) rfl
      have hrc := va_recv hK hPc (ci := 4) (q0 := 0) rfl rfl
      refine cE_i (wc := (w_X3_readScript E a_reader a_tape a_reader_rules a_reader_places a_reader_steps a_tape_bytes c_reader_siteCount c_reader_stepCount c_reader_seenRules c_reader_at c_reader_wordStart c_reader_number c_reader_failed c_tape_length c_tape_bytes c_reader_rules c_reader_steps)) (wr := [(a_, .inr (8, [.ref a_tape, .ref a_reader, .ref a_scripts, .ref a_now, .ref a_trial, .ref a_kept, .ref a_book, .ref a_keptBook, .ref a_history, .ref a_draws, .ref a_refused, .int c_hasImage])), (a_reader_places, .inl (E.2.1, 16, .inl c_reader_places))]) (w1 := (w_X3_readScript E a_reader a_tape a_reader_rules a_reader_places a_reader_steps a_tape_bytes w_6 w_7 w_8 w_9 w_10 w_11 w_12 c_tape_length c_tape_bytes w_4 w_5)) (va_runV (As := []) (rest := [])  ⟨hx, hb, hml, hown, hts⟩ (f_X3_readScript l E H.size K z9 (a_ := a_reader) (a_tape := a_tape) (a_rules := a_reader_rules) (a_places := a_reader_places) (a_steps := a_reader_steps) (a_tape_bytes := a_tape_bytes) (c_siteCount := c_reader_siteCount) (c_stepCount := c_reader_stepCount) (c_seenRules := c_reader_seenRules) (c_at := c_reader_at) (c_wordStart := c_reader_wordStart) (c_number := c_reader_number) (c_failed := c_reader_failed) (c_tape_length := c_tape_length) (c_tape_bytes := c_tape_bytes) (c_rules := c_reader_rules) (c_steps := c_reader_steps) hc_13) (cwV 0 hts g_f_X7_fault_f_X3_readScript_97 rfl rfl rfl hd_X3_readScript ⟨Nat.le_of_ble_eq_true rfl, Nat.le_of_ble_eq_true rfl⟩) ⟨qWZ.blind, hrc, (qWZ.pre ⟨hK, hN⟩ hPc hDc hZ hS hFc)⟩ rfl rfl hl.1 rfl (lv_room (Nat.le_of_ble_eq_true rfl)) dX7_fault_21 ⟨Nat.le_of_ble_eq_true rfl, Nat.le_of_ble_eq_true rfl⟩) hS hFc hP hD [3, 1, 2, 4, 6] [0, 5] rfl rfl (by decide) (by decide) (fun H locs hP hD hS => ?_)
      replace hP : va_P E.1 vwCl [(a_, .inr (8, [.ref a_tape, .ref a_reader, .ref a_scripts, .ref a_now, .ref a_trial, .ref a_kept, .ref a_book, .ref a_keptBook, .ref a_history, .ref a_draws, .ref a_refused, .int c_hasImage])), (a_reader_places, .inl (E.2.1, 16, .inl c_reader_places)), (a_reader, .inr (4, [.ref a_tape, .ref a_reader_rules, .ref a_reader_places, .ref a_reader_steps, .int w_6, .int w_7, .int w_8, .int w_9, .int w_10, .int w_11, .int w_12])), (a_tape, .inr (7, [.ref a_tape_bytes, .int c_tape_length])), (a_tape_bytes, .inl (E.2.2.1, 320, .inl c_tape_bytes)), (a_reader_rules, .inl (E.2.1, 3, .inl w_4)), (a_reader_steps, .inl (E.2.1, 48, .inl w_5))] H := hP
      replace hD : va_D A [(a_, .inr (8, [.ref a_tape, .ref a_reader, .ref a_scripts, .ref a_now, .ref a_trial, .ref a_kept, .ref a_book, .ref a_keptBook, .ref a_history, .ref a_draws, .ref a_refused, .int c_hasImage])), (a_reader_places, .inl (E.2.1, 16, .inl c_reader_places)), (a_reader, .inr (4, [.ref a_tape, .ref a_reader_rules, .ref a_reader_places, .ref a_reader_steps, .int w_6, .int w_7, .int w_8, .int w_9, .int w_10, .int w_11, .int w_12])), (a_tape, .inr (7, [.ref a_tape_bytes, .int c_tape_length])), (a_tape_bytes, .inl (E.2.2.1, 320, .inl c_tape_bytes)), (a_reader_rules, .inl (E.2.1, 3, .inl w_4)), (a_reader_steps, .inl (E.2.1, 48, .inl w_5))] := hD
      refine lv_goto (tgt := 29) hx hb dX7_fault_24 (by decide) ?_
      rw [hQ]
      have h9 := fin9 (P := fun u9 : Int32 × (Nat → Int32) × (Nat → Int32) × (Nat → Int32) × Int32 × Int32 × Int32 × Int32 × Int32 × Int32 × Int32 => r_3 = u9.1 ∧ va_P E.1 vwCl (w_X7_fault E a_ a_tape a_reader a_scripts a_now a_trial a_kept a_book a_keptBook a_history a_draws a_refused a_tape_bytes a_reader_rules a_reader_places a_reader_steps c_hasImage c_tape_length c_tape_bytes u9.2.2.2.2.1 u9.2.2.2.2.2.1 u9.2.2.2.2.2.2.1 u9.2.2.2.2.2.2.2.1 u9.2.2.2.2.2.2.2.2.1 u9.2.2.2.2.2.2.2.2.2.1 u9.2.2.2.2.2.2.2.2.2.2 u9.2.1 u9.2.2.1 u9.2.2.2.1) H ∧ va_D A (w_X7_fault E a_ a_tape a_reader a_scripts a_now a_trial a_kept a_book a_keptBook a_history a_draws a_refused a_tape_bytes a_reader_rules a_reader_places a_reader_steps c_hasImage c_tape_length c_tape_bytes u9.2.2.2.2.1 u9.2.2.2.2.2.1 u9.2.2.2.2.2.2.1 u9.2.2.2.2.2.2.2.1 u9.2.2.2.2.2.2.2.2.1 u9.2.2.2.2.2.2.2.2.2.1 u9.2.2.2.2.2.2.2.2.2.2 u9.2.1 u9.2.2.1 u9.2.2.2.1)) hF ⟨rfl, hP.sub [0, 3, 4, 2, 5, 1, 6] rfl, hD.sub [0, 3, 4, 2, 5, 1, 6] (by decide) rfl⟩
      obtain ⟨e9_0, hP9, hD9⟩ := h9
      exact W.iret (v := r_3) hx hb hr (fun tt ht hW => ⟨⟨_, (), rfl, e9_0, ht ▸ hP9, hD9⟩, hS.F ht⟩) hS.2.2 dX7_fault_29
  ·
    replace hF := ip c_1 hF
    refine lv_aload_n hx hb dX7_fault_4 rfl (lv_at hl 0 rfl) ?_
    refine gt_X7_1 (v := .ref a_reader) hx hb hts i_f_X7_fault_X7 hown hK hP 0 rfl (hts (.fieldLink RX7 21 "HushWatch" "reader" "LHushWatch$Reader;") (List.mem_of_getElem? (i := 1) rfl)) rfl dX7_fault_5 ?_
    replace hF := bd10_s hF
    obtain ⟨r_14, w_15, w_16, w_17, w_18, w_19, w_20, w_21, w_22, w_23, hc_24, hF⟩ := hF
    obtain ⟨hPc, hDc, hFc⟩ := wcut (wc := (w_X3_readWatch E a_reader a_tape a_reader_rules a_reader_places a_reader_steps a_tape_bytes c_reader_siteCount c_reader_stepCount c_reader_seenRules c_reader_at c_reader_wordStart c_reader_number c_reader_failed c_tape_length c_tape_bytes c_reader_rules c_reader_places)) hP hD hS hA [3, 1, 2, 4, 5] (by decide) rfl
    have hrc := va_recv hK hPc (ci := 4) (q0 := 0) rfl rfl
    refine cE_i (wc := (w_X3_readWatch E a_reader a_tape a_reader_rules a_reader_places a_reader_steps a_tape_bytes c_reader_siteCount c_reader_stepCount c_reader_seenRules c_reader_at c_reader_wordStart c_reader_number c_reader_failed c_tape_length c_tape_bytes c_reader_rules c_reader_places)) (wr := [(a_, .inr (8, [.ref a_tape, .ref a_reader, .ref a_scripts, .ref a_now, .ref a_trial, .ref a_kept, .ref a_book, .ref a_keptBook, .ref a_history, .ref a_draws, .ref a_refused, .int c_hasImage])), (a_reader_steps, .inl (E.2.1, 48, .inl c_reader_steps))]) (w1 := (w_X3_readWatch E a_reader a_tape a_reader_rules a_reader_places a_reader_steps a_tape_bytes w_17 w_18 w_19 w_20 w_21 w_22 w_23 c_tape_length c_tape_bytes w_15 w_16)) (va_runV (As := []) (rest := [])  ⟨hx, hb, hml, hown, hts⟩ (f_X3_readWatch l E H.size K z9 (a_ := a_reader) (a_tape := a_tape) (a_rules := a_reader_rules) (a_places := a_reader_places) (a_steps := a_reader_steps) (a_tape_bytes := a_tape_bytes) (c_siteCount := c_reader_siteCount) (c_stepCount := c_reader_stepCount) (c_seenRules := c_reader_seenRules) (c_at := c_reader_at) (c_wordStart := c_reader_wordStart) (c_number := c_reader_number) (c_failed := c_reader_failed) (c_tape_length := c_tape_length) (c_tape_bytes := c_tape_bytes) (c_rules := c_reader_rules) (c_places := c_reader_places) hc_24) (cwV 0 hts g_f_X7_fault_f_X3_readWatch_93 rfl rfl rfl hd_X3_readWatch ⟨Nat.le_of_ble_eq_true rfl, Nat.le_of_ble_eq_true rfl⟩) ⟨qWZ.blind, hrc, (qWZ.pre ⟨hK, hN⟩ hPc hDc hZ hS hFc)⟩ rfl rfl hl.1 rfl (lv_room (Nat.le_of_ble_eq_true rfl)) dX7_fault_8 ⟨Nat.le_of_ble_eq_true rfl, Nat.le_of_ble_eq_true rfl⟩) hS hFc hP hD [3, 1, 2, 4, 5] [0, 6] rfl rfl (by decide) (by decide) (fun H locs hP hD hS => ?_)
    replace hP : va_P E.1 vwCl [(a_, .inr (8, [.ref a_tape, .ref a_reader, .ref a_scripts, .ref a_now, .ref a_trial, .ref a_kept, .ref a_book, .ref a_keptBook, .ref a_history, .ref a_draws, .ref a_refused, .int c_hasImage])), (a_reader_steps, .inl (E.2.1, 48, .inl c_reader_steps)), (a_reader, .inr (4, [.ref a_tape, .ref a_reader_rules, .ref a_reader_places, .ref a_reader_steps, .int w_17, .int w_18, .int w_19, .int w_20, .int w_21, .int w_22, .int w_23])), (a_tape, .inr (7, [.ref a_tape_bytes, .int c_tape_length])), (a_tape_bytes, .inl (E.2.2.1, 320, .inl c_tape_bytes)), (a_reader_rules, .inl (E.2.1, 3, .inl w_15)), (a_reader_places, .inl (E.2.1, 16, .inl w_16))] H := hP
    replace hD : va_D A [(a_, .inr (8, [.ref a_tape, .ref a_reader, .ref a_scripts, .ref a_now, .ref a_trial, .ref a_kept, .ref a_book, .ref a_keptBook, .ref a_history, .ref a_draws, .ref a_refused, .int c_hasImage])), (a_reader_steps, .inl (E.2.1, 48, .inl c_reader_steps)), (a_reader, .inr (4, [.ref a_tape, .ref a_reader_rules, .ref a_reader_places, .ref a_reader_steps, .int w_17, .int w_18, .int w_19, .int w_20, .int w_21, .int w_22, .int w_23])), (a_tape, .inr (7, [.ref a_tape_bytes, .int c_tape_length])), (a_tape_bytes, .inl (E.2.2.1, 320, .inl c_tape_bytes)), (a_reader_rules, .inl (E.2.1, 3, .inl w_15)), (a_reader_places, .inl (E.2.1, 16, .inl w_16))] := hD
    rw [hQ]
    have h9 := fin9 (P := fun u9 : Int32 × (Nat → Int32) × (Nat → Int32) × (Nat → Int32) × Int32 × Int32 × Int32 × Int32 × Int32 × Int32 × Int32 => r_14 = u9.1 ∧ va_P E.1 vwCl (w_X7_fault E a_ a_tape a_reader a_scripts a_now a_trial a_kept a_book a_keptBook a_history a_draws a_refused a_tape_bytes a_reader_rules a_reader_places a_reader_steps c_hasImage c_tape_length c_tape_bytes u9.2.2.2.2.1 u9.2.2.2.2.2.1 u9.2.2.2.2.2.2.1 u9.2.2.2.2.2.2.2.1 u9.2.2.2.2.2.2.2.2.1 u9.2.2.2.2.2.2.2.2.2.1 u9.2.2.2.2.2.2.2.2.2.2 u9.2.1 u9.2.2.1 u9.2.2.2.1) H ∧ va_D A (w_X7_fault E a_ a_tape a_reader a_scripts a_now a_trial a_kept a_book a_keptBook a_history a_draws a_refused a_tape_bytes a_reader_rules a_reader_places a_reader_steps c_hasImage c_tape_length c_tape_bytes u9.2.2.2.2.1 u9.2.2.2.2.2.1 u9.2.2.2.2.2.2.1 u9.2.2.2.2.2.2.2.1 u9.2.2.2.2.2.2.2.2.1 u9.2.2.2.2.2.2.2.2.2.1 u9.2.2.2.2.2.2.2.2.2.2 u9.2.1 u9.2.2.1 u9.2.2.2.1)) hF ⟨rfl, hP.sub [0, 3, 4, 2, 5, 6, 1] rfl, hD.sub [0, 3, 4, 2, 5, 6, 1] (by decide) rfl⟩
    obtain ⟨e9_0, hP9, hD9⟩ := h9
    exact W.iret (v := r_14) hx hb hr (fun tt ht hW => ⟨⟨_, (), rfl, e9_0, ht ▸ hP9, hD9⟩, hS.F ht⟩) hS.2.2 dX7_fault_11

def F_X7_feed (K : Nat) (p1 : Int32) (p2 : Int32) (p3 : Int32) (p4 : Int32) (p5 : Int32) (c_tape_bytes : Nat → Int32) (c_tape_length : Int32) : Option (Int32 × (Nat → Int32) × Int32) :=
  bd1 (F_X6_bytesIn K p1) (fun r_1 => bd1 (F_X6_bytesIn K p2) (fun r_3 => bd1 (F_X6_bytesIn K p3) (fun r_5 => bd1 (F_X6_bytesIn K p4) (fun r_7 => bd1 (F_X6_bytesIn K p5) (fun r_9 => if c_tape_length + ((((r_1 + r_3) + r_5) + r_7) + r_9) ≤ (320 : Int32) then bd2 (F_X6_take K p1 c_tape_bytes c_tape_length) (fun w_12 w_13 => bd2 (F_X6_take K p2 w_12 w_13) (fun w_15 w_16 => bd2 (F_X6_take K p3 w_15 w_16) (fun w_18 w_19 => bd2 (F_X6_take K p4 w_18 w_19) (fun w_21 w_22 => bd2 (F_X6_take K p5 w_21 w_22) (fun w_24 w_25 => some (w_25, w_24, w_25)))))) else some ((-1 : Int32), c_tape_bytes, c_tape_length))))))
abbrev w_X7_feed (E : EE) (a_ a_tape a_reader a_scripts a_now a_trial a_kept a_book a_keptBook a_history a_draws a_refused a_tape_bytes : Nat) (c_hasImage : Int32) (c_tape_length : Int32) (c_tape_bytes : Nat → Int32) : va_W := [(a_, .inr (8, [.ref a_tape, .ref a_reader, .ref a_scripts, .ref a_now, .ref a_trial, .ref a_kept, .ref a_book, .ref a_keptBook, .ref a_history, .ref a_draws, .ref a_refused, .int c_hasImage])), (a_tape, .inr (7, [.ref a_tape_bytes, .int c_tape_length])), (a_tape_bytes, .inl (E.2.2.1, 320, .inl c_tape_bytes))]
def v_f_X7_feed : List Cond := List.cons (.code yX7_feed cX7_feed 7 (some .int)) (HAppend.hAppend (α := List Cond) (β := List Cond) (γ := List Cond) [.fieldLink RX7 10 "HushWatch" "tape" "LHushWatch$Tape;", .methodLink RX7 77 yX6_bytesIn, .static yX6_bytesIn, .initialized RX6, .methodLink RX7 85 yX6_take, .instanceMethod yX6_take, .selects RX6 yX6_take yX6_take] (HAppend.hAppend (α := List Cond) (β := List Cond) (γ := List Cond) v_f_X6_bytesIn (HAppend.hAppend (α := List Cond) (β := List Cond) (γ := List Cond) wsX70 (HAppend.hAppend (α := List Cond) (β := List Cond) (γ := List Cond) wsX60 (HAppend.hAppend (α := List Cond) (β := List Cond) (γ := List Cond) v_f_X6_take [])))))
theorem gw_f_X7_feed : v_f_X7_feed.all goodWord = true := by decide +kernel
theorem i_f_X7_feed_X7 : ∀ w ∈ wsX70, w ∈ v_f_X7_feed := fun _ h => List.mem_cons_of_mem _ (List.mem_append_right _ (List.mem_append_right _ (List.mem_append_left _ h)))
theorem i_f_X7_feed_X6 : ∀ w ∈ wsX60, w ∈ v_f_X7_feed := fun _ h => List.mem_cons_of_mem _ (List.mem_append_right _ (List.mem_append_right _ (List.mem_append_right _ (List.mem_append_left _ h))))
theorem g_f_X7_feed_f_X6_bytesIn_77 : GoodIn v_f_X7_feed (va_wsS RX7 77 yX6_bytesIn v_f_X6_bytesIn) := goodIn_app (goodIn_of _ (by decide +kernel)) (goodIn_sub (fun _ h => List.mem_cons_of_mem _ (List.mem_append_right _ (List.mem_append_left _ h))) gw_f_X6_bytesIn)
theorem g_f_X7_feed_f_X6_take_85 : GoodIn v_f_X7_feed (wsV RX7 85 RX6 yX6_take v_f_X6_take) := goodIn_app (goodIn_of _ (by decide +kernel)) (goodIn_sub (fun _ h => List.mem_cons_of_mem _ (List.mem_append_right _ (List.mem_append_right _ (List.mem_append_right _ (List.mem_append_right _ (List.mem_append_left _ h)))))) gw_f_X6_take)
theorem hd_X7_feed : yX7_feed.cls = RX7 ∧ yX7_feed.cls ≠ "java/lang/invoke/MethodHandle" ∧ yX7_feed.cls ≠ "java/lang/invoke/VarHandle" ∧ (parseMethodDescriptor yX7_feed.desc).map (fun d => d.parameters.length) = some 5 := by decide +kernel
set_option maxHeartbeats 4000000 in
set_option maxRecDepth 100000 in
theorem f_X7_feed (l : Launch) (E : EE) (sz : Nat) (K : Nat) {a_ a_tape a_reader a_scripts a_now a_trial a_kept a_book a_keptBook a_history a_draws a_refused a_tape_bytes : Nat} {p1 : Int32} {p2 : Int32} {p3 : Int32} {p4 : Int32} {p5 : Int32} {c_hasImage : Int32} {c_tape_length : Int32} {c_tape_bytes : Nat → Int32} {rr : Int32} {n_tape_bytes : Nat → Int32} {n_tape_length : Int32} (hF : F_X7_feed K p1 p2 p3 p4 p5 c_tape_bytes c_tape_length = some (rr, n_tape_bytes, n_tape_length)) : Met l yX7_feed v_f_X7_feed (({ frames := 1, cells := 0, slots := 0, locals := 23 } : Room)) (va_Pc [.ref a_, .int p1, .int p2, .int p3, .int p4, .int p5] (pW E sz (w_X7_feed E a_ a_tape a_reader a_scripts a_now a_trial a_kept a_book a_keptBook a_history a_draws a_refused a_tape_bytes c_hasImage c_tape_length c_tape_bytes))) (va_Qi (fun (q : Int32) (_u : Unit) => q = rr) (fun (_u : Unit) tt => va_P E.1 vwCl (w_X7_feed E a_ a_tape a_reader a_scripts a_now a_trial a_kept a_book a_keptBook a_history a_draws a_refused a_tape_bytes c_hasImage n_tape_length n_tape_bytes) tt.heap ∧ va_D (va_A (w_X7_feed E a_ a_tape a_reader a_scripts a_now a_trial a_kept a_book a_keptBook a_history a_draws a_refused a_tape_bytes c_hasImage c_tape_length c_tape_bytes) sz) (w_X7_feed E a_ a_tape a_reader a_scripts a_now a_trial a_kept a_book a_keptBook a_history a_draws a_refused a_tape_bytes c_hasImage n_tape_length n_tape_bytes)) (va_A (w_X7_feed E a_ a_tape a_reader a_scripts a_now a_trial a_kept a_book a_keptBook a_history a_draws a_refused a_tape_bytes c_hasImage c_tape_length c_tape_bytes) sz)) 0 0 (va_A (w_X7_feed E a_ a_tape a_reader a_scripts a_now a_trial a_kept a_book a_keptBook a_history a_draws a_refused a_tape_bytes c_hasImage c_tape_length c_tape_bytes) sz) := by
  refine Met.ofW (cc := cX7_feed) (maxL := 7) (ret := (some .int)) (by decide) rfl ?_
  intro p e s m args below meth c s₁ B hml hv
  obtain ⟨rfl, hsz, ⟨hK, hN⟩, hP, hD0⟩ := hv
  have hx := B.exec
  have hb := B.bytes
  have hr := B.returns
  have hts := atoms_spec (ws := v_f_X7_feed) B.pre
  have hown : s.vm.findClass RX7 = some m.cls := own_of hd_X7_feed.1 (findClass_of_methodNamed B.named)
  have hlocks : meth.locks = false := B.notSynchronized
  subst hsz
  have hD := hD0.self (sz := s.heap.size)
  generalize hAe : va_A (w_X7_feed E a_ a_tape a_reader a_scripts a_now a_trial a_kept a_book a_keptBook a_history a_draws a_refused a_tape_bytes c_hasImage c_tape_length c_tape_bytes) s.heap.size = A at hD ⊢
  have hA : ∀ q : Nat, s.heap.size ≤ q → A q := fun q h => by rw [← hAe]; exact Or.inr h
  have hS : va_S A s.heap s.heap [] := va_S.rf
  have hl := lv_entry ([.ref a_, .int p1, .int p2, .int p3, .int p4, .int p5]) (n := 7) (Nat.le_of_ble_eq_true rfl)
  rw [lg_entry_eq]
  generalize (lg_sl ([.ref a_, .int p1, .int p2, .int p3, .int p4, .int p5]) ++ List.replicate (7 - (lg_sl ([.ref a_, .int p1, .int p2, .int p3, .int p4, .int p5])).length) Slot.unset).toArray = ls at hl ⊢
  have hl : lv_has ls 7 [(0, .ref a_), (1, .int p1), (2, .int p2), (3, .int p3), (4, .int p4), (5, .int p5)] := hl
  obtain ⟨Q, hQ⟩ : ∃ Q : State → Prop, Q = MQ below (va_Qi (fun (q : Int32) (_u : Unit) => q = rr) (fun (_u : Unit) tt => va_P E.1 vwCl (w_X7_feed E a_ a_tape a_reader a_scripts a_now a_trial a_kept a_book a_keptBook a_history a_draws a_refused a_tape_bytes c_hasImage n_tape_length n_tape_bytes) tt.heap ∧ va_D A (w_X7_feed E a_ a_tape a_reader a_scripts a_now a_trial a_kept a_book a_keptBook a_history a_draws a_refused a_tape_bytes c_hasImage n_tape_length n_tape_bytes)) A) #[Value.ref a_, Value.int p1, Value.int p2, Value.int p3, Value.int p4, Value.int p5] s 0 0 A := ⟨_, rfl⟩
  rw [← hQ]
  change W p l e ({ frames := 1, cells := 0, slots := 0, locals := 23 } : Room) s m #[Value.ref a_, Value.int p1, Value.int p2, Value.int p3, Value.int p4, Value.int p5] below meth c s.heap [] 0 0 Q (F0 m 0 ls [])
  suffices hh9 : ∀ (H : Heap) (locs : List Loc), va_P E.1 vwCl (w_X7_feed E a_ a_tape a_reader a_scripts a_now a_trial a_kept a_book a_keptBook a_history a_draws a_refused a_tape_bytes c_hasImage c_tape_length c_tape_bytes) H → va_D A (w_X7_feed E a_ a_tape a_reader a_scripts a_now a_trial a_kept a_book a_keptBook a_history a_draws a_refused a_tape_bytes c_hasImage c_tape_length c_tape_bytes) → va_S A s.heap H locs → W p l e ({ frames := 1, cells := 0, slots := 0, locals := 23 } : Room) s m #[Value.ref a_, Value.int p1, Value.int p2, Value.int p3, Value.int p4, Value.int p5] below meth c H locs 0 0 Q (F0 m 0 ls []) from hh9 s.heap [] hP hD hS
  clear hP hD hS
  intro H locs hP hD hS
  replace hP : va_P E.1 vwCl [(a_, .inr (8, [.ref a_tape, .ref a_reader, .ref a_scripts, .ref a_now, .ref a_trial, .ref a_kept, .ref a_book, .ref a_keptBook, .ref a_history, .ref a_draws, .ref a_refused, .int c_hasImage])), (a_tape, .inr (7, [.ref a_tape_bytes, .int c_tape_length])), (a_tape_bytes, .inl (E.2.2.1, 320, .inl c_tape_bytes))] H := hP
  replace hD : va_D A [(a_, .inr (8, [.ref a_tape, .ref a_reader, .ref a_scripts, .ref a_now, .ref a_trial, .ref a_kept, .ref a_book, .ref a_keptBook, .ref a_history, .ref a_draws, .ref a_refused, .int c_hasImage])), (a_tape, .inr (7, [.ref a_tape_bytes, .int c_tape_length])), (a_tape_bytes, .inl (E.2.2.1, 320, .inl c_tape_bytes))] := hD
  unfold F_X7_feed at hF
  refine lv_iload_n hx hb dX7_feed_0 rfl (lv_at hl 1 rfl) ?_
  replace hF := bd1_s hF
  obtain ⟨r_1, hc_2, hF⟩ := hF
  have hPc : va_P E.1 vwCl [] H := fun k q h => by simp at h
  refine pE_i (va_runS (As := [.int p1]) (rest := [])  ⟨hx, hb, hml, hown, hts⟩ (f_X6_bytesIn l E K (p0 := p1) hc_2) (va_cwS 1 hts g_f_X7_feed_f_X6_bytesIn_77 rfl rfl rfl hd_X6_bytesIn.2 ⟨Nat.le_of_ble_eq_true rfl, Nat.le_of_ble_eq_true rfl⟩) ⟨pP.blind, (pP.pre ⟨hK, hN⟩ hPc)⟩ rfl rfl hl.1 rfl (lv_room (Nat.le_of_ble_eq_true rfl)) dX7_feed_1 ⟨Nat.le_of_ble_eq_true rfl, Nat.le_of_ble_eq_true rfl⟩) ?_
  refine lv_iload_n hx hb dX7_feed_4 rfl (lv_at hl 2 rfl) ?_
  replace hF := bd1_s hF
  obtain ⟨r_3, hc_4, hF⟩ := hF
  have hPc : va_P E.1 vwCl [] H := fun k q h => by simp at h
  refine pE_i (va_runS (As := [.int p2]) (rest := [.int r_1])  ⟨hx, hb, hml, hown, hts⟩ (f_X6_bytesIn l E K (p0 := p2) hc_4) (va_cwS 1 hts g_f_X7_feed_f_X6_bytesIn_77 rfl rfl rfl hd_X6_bytesIn.2 ⟨Nat.le_of_ble_eq_true rfl, Nat.le_of_ble_eq_true rfl⟩) ⟨pP.blind, (pP.pre ⟨hK, hN⟩ hPc)⟩ rfl rfl hl.1 rfl (lv_room (Nat.le_of_ble_eq_true rfl)) dX7_feed_5 ⟨Nat.le_of_ble_eq_true rfl, Nat.le_of_ble_eq_true rfl⟩) ?_
  refine lv_iadd hx hb dX7_feed_8 ?_
  refine lv_iload_n hx hb dX7_feed_9 rfl (lv_at hl 3 rfl) ?_
  replace hF := bd1_s hF
  obtain ⟨r_5, hc_6, hF⟩ := hF
  have hPc : va_P E.1 vwCl [] H := fun k q h => by simp at h
  refine pE_i (va_runS (As := [.int p3]) (rest := [.int (r_1 + r_3)])  ⟨hx, hb, hml, hown, hts⟩ (f_X6_bytesIn l E K (p0 := p3) hc_6) (va_cwS 1 hts g_f_X7_feed_f_X6_bytesIn_77 rfl rfl rfl hd_X6_bytesIn.2 ⟨Nat.le_of_ble_eq_true rfl, Nat.le_of_ble_eq_true rfl⟩) ⟨pP.blind, (pP.pre ⟨hK, hN⟩ hPc)⟩ rfl rfl hl.1 rfl (lv_room (Nat.le_of_ble_eq_true rfl)) dX7_feed_10 ⟨Nat.le_of_ble_eq_true rfl, Nat.le_of_ble_eq_true rfl⟩) ?_
  refine lv_iadd hx hb dX7_feed_13 ?_
  refine lv_iload hx hb dX7_feed_14 (lv_at hl 4 rfl) ?_
  replace hF := bd1_s hF
  obtain ⟨r_7, hc_8, hF⟩ := hF
  have hPc : va_P E.1 vwCl [] H := fun k q h => by simp at h
  refine pE_i (va_runS (As := [.int p4]) (rest := [.int ((r_1 + r_3) + r_5)])  ⟨hx, hb, hml, hown, hts⟩ (f_X6_bytesIn l E K (p0 := p4) hc_8) (va_cwS 1 hts g_f_X7_feed_f_X6_bytesIn_77 rfl rfl rfl hd_X6_bytesIn.2 ⟨Nat.le_of_ble_eq_true rfl, Nat.le_of_ble_eq_true rfl⟩) ⟨pP.blind, (pP.pre ⟨hK, hN⟩ hPc)⟩ rfl rfl hl.1 rfl (lv_room (Nat.le_of_ble_eq_true rfl)) dX7_feed_16 ⟨Nat.le_of_ble_eq_true rfl, Nat.le_of_ble_eq_true rfl⟩) ?_
  refine lv_iadd hx hb dX7_feed_19 ?_
  refine lv_iload hx hb dX7_feed_20 (lv_at hl 5 rfl) ?_
  replace hF := bd1_s hF
  obtain ⟨r_9, hc_10, hF⟩ := hF
  have hPc : va_P E.1 vwCl [] H := fun k q h => by simp at h
  refine pE_i (va_runS (As := [.int p5]) (rest := [.int (((r_1 + r_3) + r_5) + r_7)])  ⟨hx, hb, hml, hown, hts⟩ (f_X6_bytesIn l E K (p0 := p5) hc_10) (va_cwS 1 hts g_f_X7_feed_f_X6_bytesIn_77 rfl rfl rfl hd_X6_bytesIn.2 ⟨Nat.le_of_ble_eq_true rfl, Nat.le_of_ble_eq_true rfl⟩) ⟨pP.blind, (pP.pre ⟨hK, hN⟩ hPc)⟩ rfl rfl hl.1 rfl (lv_room (Nat.le_of_ble_eq_true rfl)) dX7_feed_22 ⟨Nat.le_of_ble_eq_true rfl, Nat.le_of_ble_eq_true rfl⟩) ?_
  refine lv_iadd hx hb dX7_feed_25 ?_
  refine lv_istore (lv' := [(6, .int ((((r_1 + r_3) + r_5) + r_7) + r_9)), (0, .ref a_), (1, .int p1), (2, .int p2), (3, .int p3), (4, .int p4), (5, .int p5)]) hx hb dX7_feed_26 hl (by decide) rfl (fun ls hl => ?_)
  refine lv_aload_n hx hb dX7_feed_28 rfl (lv_at hl 1 rfl) ?_
  refine gt_X7_0 (v := .ref a_tape) hx hb hts i_f_X7_feed_X7 hown hK hP 0 rfl (hts (.fieldLink RX7 10 "HushWatch" "tape" "LHushWatch$Tape;") (List.mem_of_getElem? (i := 1) rfl)) rfl dX7_feed_29 ?_
  refine va_getN (D := E.1) (ci := 7) (v := .int c_tape_length) (C := RX6) (T := TX6) (N := 2) hx hb hts i_f_X7_feed_X6 hown hK hP 1 rfl rfl 1 (by decide) (nx hN 1 rfl) (fun _ h9 => h9) rfl dX7_feed_32 ?_
  refine lv_iload hx hb dX7_feed_35 (lv_at hl 0 rfl) ?_
  refine lv_iadd hx hb dX7_feed_37 ?_
  refine lv_sipush (v := 320) hx hb dX7_feed_38 (by decide) ?_
  refine lv_icmp_le (tgt := 46) hx hb dX7_feed_41 (by decide) (fun c_11 => ?_) (fun c_11 => ?_)
  ·
    replace hF := ip c_11 hF
    refine lv_aload_n hx hb dX7_feed_46 rfl (lv_at hl 1 rfl) ?_
    refine gt_X7_0 (v := .ref a_tape) hx hb hts i_f_X7_feed_X7 hown hK hP 0 rfl (hts (.fieldLink RX7 10 "HushWatch" "tape" "LHushWatch$Tape;") (List.mem_of_getElem? (i := 1) rfl)) rfl dX7_feed_47 ?_
    refine lv_iload_n hx hb dX7_feed_50 rfl (lv_at hl 2 rfl) ?_
    replace hF := bd2_s hF
    obtain ⟨w_12, w_13, hc_14, hF⟩ := hF
    obtain ⟨hPc, hDc, hFc⟩ := wcut (wc := (w_X6_take E a_tape a_tape_bytes c_tape_length c_tape_bytes)) hP hD hS hA [1, 2] (by decide) rfl
    have hrc := va_recv hK hPc (ci := 7) (q0 := 0) rfl rfl
    refine cE_v (wc := (w_X6_take E a_tape a_tape_bytes c_tape_length c_tape_bytes)) (wr := [(a_, .inr (8, [.ref a_tape, .ref a_reader, .ref a_scripts, .ref a_now, .ref a_trial, .ref a_kept, .ref a_book, .ref a_keptBook, .ref a_history, .ref a_draws, .ref a_refused, .int c_hasImage]))]) (w1 := (w_X6_take E a_tape a_tape_bytes w_13 w_12)) (va_runV (As := [.int p1]) (rest := [])  ⟨hx, hb, hml, hown, hts⟩ (f_X6_take l E H.size K (a_ := a_tape) (a_bytes := a_tape_bytes) (p1 := p1) (c_length := c_tape_length) (c_bytes := c_tape_bytes) hc_14) (cwV 1 hts g_f_X7_feed_f_X6_take_85 rfl rfl rfl hd_X6_take ⟨Nat.le_of_ble_eq_true rfl, Nat.le_of_ble_eq_true rfl⟩) ⟨pW.blind, hrc, (pW.pre ⟨hK, hN⟩ hPc hDc)⟩ rfl rfl hl.1 rfl (lv_room (Nat.le_of_ble_eq_true rfl)) dX7_feed_51 ⟨Nat.le_of_ble_eq_true rfl, Nat.le_of_ble_eq_true rfl⟩) hS hFc hP hD [1, 2] [0] rfl rfl (by decide) (by decide) (fun H locs hP hD hS => ?_)
    replace hP : va_P E.1 vwCl [(a_, .inr (8, [.ref a_tape, .ref a_reader, .ref a_scripts, .ref a_now, .ref a_trial, .ref a_kept, .ref a_book, .ref a_keptBook, .ref a_history, .ref a_draws, .ref a_refused, .int c_hasImage])), (a_tape, .inr (7, [.ref a_tape_bytes, .int w_13])), (a_tape_bytes, .inl (E.2.2.1, 320, .inl w_12))] H := hP
    replace hD : va_D A [(a_, .inr (8, [.ref a_tape, .ref a_reader, .ref a_scripts, .ref a_now, .ref a_trial, .ref a_kept, .ref a_book, .ref a_keptBook, .ref a_history, .ref a_draws, .ref a_refused, .int c_hasImage])), (a_tape, .inr (7, [.ref a_tape_bytes, .int w_13])), (a_tape_bytes, .inl (E.2.2.1, 320, .inl w_12))] := hD
    refine lv_aload_n hx hb dX7_feed_54 rfl (lv_at hl 1 rfl) ?_
    refine gt_X7_0 (v := .ref a_tape) hx hb hts i_f_X7_feed_X7 hown hK hP 0 rfl (hts (.fieldLink RX7 10 "HushWatch" "tape" "LHushWatch$Tape;") (List.mem_of_getElem? (i := 1) rfl)) rfl dX7_feed_55 ?_
    refine lv_iload_n hx hb dX7_feed_58 rfl (lv_at hl 3 rfl) ?_
    replace hF := bd2_s hF
    obtain ⟨w_15, w_16, hc_17, hF⟩ := hF
    obtain ⟨hPc, hDc, hFc⟩ := wcut (wc := (w_X6_take E a_tape a_tape_bytes w_13 w_12)) hP hD hS hA [1, 2] (by decide) rfl
    have hrc := va_recv hK hPc (ci := 7) (q0 := 0) rfl rfl
    refine cE_v (wc := (w_X6_take E a_tape a_tape_bytes w_13 w_12)) (wr := [(a_, .inr (8, [.ref a_tape, .ref a_reader, .ref a_scripts, .ref a_now, .ref a_trial, .ref a_kept, .ref a_book, .ref a_keptBook, .ref a_history, .ref a_draws, .ref a_refused, .int c_hasImage]))]) (w1 := (w_X6_take E a_tape a_tape_bytes w_16 w_15)) (va_runV (As := [.int p2]) (rest := [])  ⟨hx, hb, hml, hown, hts⟩ (f_X6_take l E H.size K (a_ := a_tape) (a_bytes := a_tape_bytes) (p1 := p2) (c_length := w_13) (c_bytes := w_12) hc_17) (cwV 1 hts g_f_X7_feed_f_X6_take_85 rfl rfl rfl hd_X6_take ⟨Nat.le_of_ble_eq_true rfl, Nat.le_of_ble_eq_true rfl⟩) ⟨pW.blind, hrc, (pW.pre ⟨hK, hN⟩ hPc hDc)⟩ rfl rfl hl.1 rfl (lv_room (Nat.le_of_ble_eq_true rfl)) dX7_feed_59 ⟨Nat.le_of_ble_eq_true rfl, Nat.le_of_ble_eq_true rfl⟩) hS hFc hP hD [1, 2] [0] rfl rfl (by decide) (by decide) (fun H locs hP hD hS => ?_)
    replace hP : va_P E.1 vwCl [(a_, .inr (8, [.ref a_tape, .ref a_reader, .ref a_scripts, .ref a_now, .ref a_trial, .ref a_kept, .ref a_book, .ref a_keptBook, .ref a_history, .ref a_draws, .ref a_refused, .int c_hasImage])), (a_tape, .inr (7, [.ref a_tape_bytes, .int w_16])), (a_tape_bytes, .inl (E.2.2.1, 320, .inl w_15))] H := hP
    replace hD : va_D A [(a_, .inr (8, [.ref a_tape, .ref a_reader, .ref a_scripts, .ref a_now, .ref a_trial, .ref a_kept, .ref a_book, .ref a_keptBook, .ref a_history, .ref a_draws, .ref a_refused, .int c_hasImage])), (a_tape, .inr (7, [.ref a_tape_bytes, .int w_16])), (a_tape_bytes, .inl (E.2.2.1, 320, .inl w_15))] := hD
    refine lv_aload_n hx hb dX7_feed_62 rfl (lv_at hl 1 rfl) ?_
    refine gt_X7_0 (v := .ref a_tape) hx hb hts i_f_X7_feed_X7 hown hK hP 0 rfl (hts (.fieldLink RX7 10 "HushWatch" "tape" "LHushWatch$Tape;") (List.mem_of_getElem? (i := 1) rfl)) rfl dX7_feed_63 ?_
    refine lv_iload_n hx hb dX7_feed_66 rfl (lv_at hl 4 rfl) ?_
    replace hF := bd2_s hF
    obtain ⟨w_18, w_19, hc_20, hF⟩ := hF
    obtain ⟨hPc, hDc, hFc⟩ := wcut (wc := (w_X6_take E a_tape a_tape_bytes w_16 w_15)) hP hD hS hA [1, 2] (by decide) rfl
    have hrc := va_recv hK hPc (ci := 7) (q0 := 0) rfl rfl
    refine cE_v (wc := (w_X6_take E a_tape a_tape_bytes w_16 w_15)) (wr := [(a_, .inr (8, [.ref a_tape, .ref a_reader, .ref a_scripts, .ref a_now, .ref a_trial, .ref a_kept, .ref a_book, .ref a_keptBook, .ref a_history, .ref a_draws, .ref a_refused, .int c_hasImage]))]) (w1 := (w_X6_take E a_tape a_tape_bytes w_19 w_18)) (va_runV (As := [.int p3]) (rest := [])  ⟨hx, hb, hml, hown, hts⟩ (f_X6_take l E H.size K (a_ := a_tape) (a_bytes := a_tape_bytes) (p1 := p3) (c_length := w_16) (c_bytes := w_15) hc_20) (cwV 1 hts g_f_X7_feed_f_X6_take_85 rfl rfl rfl hd_X6_take ⟨Nat.le_of_ble_eq_true rfl, Nat.le_of_ble_eq_true rfl⟩) ⟨pW.blind, hrc, (pW.pre ⟨hK, hN⟩ hPc hDc)⟩ rfl rfl hl.1 rfl (lv_room (Nat.le_of_ble_eq_true rfl)) dX7_feed_67 ⟨Nat.le_of_ble_eq_true rfl, Nat.le_of_ble_eq_true rfl⟩) hS hFc hP hD [1, 2] [0] rfl rfl (by decide) (by decide) (fun H locs hP hD hS => ?_)
    replace hP : va_P E.1 vwCl [(a_, .inr (8, [.ref a_tape, .ref a_reader, .ref a_scripts, .ref a_now, .ref a_trial, .ref a_kept, .ref a_book, .ref a_keptBook, .ref a_history, .ref a_draws, .ref a_refused, .int c_hasImage])), (a_tape, .inr (7, [.ref a_tape_bytes, .int w_19])), (a_tape_bytes, .inl (E.2.2.1, 320, .inl w_18))] H := hP
    replace hD : va_D A [(a_, .inr (8, [.ref a_tape, .ref a_reader, .ref a_scripts, .ref a_now, .ref a_trial, .ref a_kept, .ref a_book, .ref a_keptBook, .ref a_history, .ref a_draws, .ref a_refused, .int c_hasImage])), (a_tape, .inr (7, [.ref a_tape_bytes, .int w_19])), (a_tape_bytes, .inl (E.2.2.1, 320, .inl w_18))] := hD
    refine lv_aload_n hx hb dX7_feed_70 rfl (lv_at hl 1 rfl) ?_
    refine gt_X7_0 (v := .ref a_tape) hx hb hts i_f_X7_feed_X7 hown hK hP 0 rfl (hts (.fieldLink RX7 10 "HushWatch" "tape" "LHushWatch$Tape;") (List.mem_of_getElem? (i := 1) rfl)) rfl dX7_feed_71 ?_
    refine lv_iload hx hb dX7_feed_74 (lv_at hl 5 rfl) ?_
    replace hF := bd2_s hF
    obtain ⟨w_21, w_22, hc_23, hF⟩ := hF
    obtain ⟨hPc, hDc, hFc⟩ := wcut (wc := (w_X6_take E a_tape a_tape_bytes w_19 w_18)) hP hD hS hA [1, 2] (by decide) rfl
    have hrc := va_recv hK hPc (ci := 7) (q0 := 0) rfl rfl
    refine cE_v (wc := (w_X6_take E a_tape a_tape_bytes w_19 w_18)) (wr := [(a_, .inr (8, [.ref a_tape, .ref a_reader, .ref a_scripts, .ref a_now, .ref a_trial, .ref a_kept, .ref a_book, .ref a_keptBook, .ref a_history, .ref a_draws, .ref a_refused, .int c_hasImage]))]) (w1 := (w_X6_take E a_tape a_tape_bytes w_22 w_21)) (va_runV (As := [.int p4]) (rest := [])  ⟨hx, hb, hml, hown, hts⟩ (f_X6_take l E H.size K (a_ := a_tape) (a_bytes := a_tape_bytes) (p1 := p4) (c_length := w_19) (c_bytes := w_18) hc_23) (cwV 1 hts g_f_X7_feed_f_X6_take_85 rfl rfl rfl hd_X6_take ⟨Nat.le_of_ble_eq_true rfl, Nat.le_of_ble_eq_true rfl⟩) ⟨pW.blind, hrc, (pW.pre ⟨hK, hN⟩ hPc hDc)⟩ rfl rfl hl.1 rfl (lv_room (Nat.le_of_ble_eq_true rfl)) dX7_feed_76 ⟨Nat.le_of_ble_eq_true rfl, Nat.le_of_ble_eq_true rfl⟩) hS hFc hP hD [1, 2] [0] rfl rfl (by decide) (by decide) (fun H locs hP hD hS => ?_)
    replace hP : va_P E.1 vwCl [(a_, .inr (8, [.ref a_tape, .ref a_reader, .ref a_scripts, .ref a_now, .ref a_trial, .ref a_kept, .ref a_book, .ref a_keptBook, .ref a_history, .ref a_draws, .ref a_refused, .int c_hasImage])), (a_tape, .inr (7, [.ref a_tape_bytes, .int w_22])), (a_tape_bytes, .inl (E.2.2.1, 320, .inl w_21))] H := hP
    replace hD : va_D A [(a_, .inr (8, [.ref a_tape, .ref a_reader, .ref a_scripts, .ref a_now, .ref a_trial, .ref a_kept, .ref a_book, .ref a_keptBook, .ref a_history, .ref a_draws, .ref a_refused, .int c_hasImage])), (a_tape, .inr (7, [.ref a_tape_bytes, .int w_22])), (a_tape_bytes, .inl (E.2.2.1, 320, .inl w_21))] := hD
    refine lv_aload_n hx hb dX7_feed_79 rfl (lv_at hl 1 rfl) ?_
    refine gt_X7_0 (v := .ref a_tape) hx hb hts i_f_X7_feed_X7 hown hK hP 0 rfl (hts (.fieldLink RX7 10 "HushWatch" "tape" "LHushWatch$Tape;") (List.mem_of_getElem? (i := 1) rfl)) rfl dX7_feed_80 ?_
    refine lv_iload hx hb dX7_feed_83 (lv_at hl 6 rfl) ?_
    replace hF := bd2_s hF
    obtain ⟨w_24, w_25, hc_26, hF⟩ := hF
    obtain ⟨hPc, hDc, hFc⟩ := wcut (wc := (w_X6_take E a_tape a_tape_bytes w_22 w_21)) hP hD hS hA [1, 2] (by decide) rfl
    have hrc := va_recv hK hPc (ci := 7) (q0 := 0) rfl rfl
    refine cE_v (wc := (w_X6_take E a_tape a_tape_bytes w_22 w_21)) (wr := [(a_, .inr (8, [.ref a_tape, .ref a_reader, .ref a_scripts, .ref a_now, .ref a_trial, .ref a_kept, .ref a_book, .ref a_keptBook, .ref a_history, .ref a_draws, .ref a_refused, .int c_hasImage]))]) (w1 := (w_X6_take E a_tape a_tape_bytes w_25 w_24)) (va_runV (As := [.int p5]) (rest := [])  ⟨hx, hb, hml, hown, hts⟩ (f_X6_take l E H.size K (a_ := a_tape) (a_bytes := a_tape_bytes) (p1 := p5) (c_length := w_22) (c_bytes := w_21) hc_26) (cwV 1 hts g_f_X7_feed_f_X6_take_85 rfl rfl rfl hd_X6_take ⟨Nat.le_of_ble_eq_true rfl, Nat.le_of_ble_eq_true rfl⟩) ⟨pW.blind, hrc, (pW.pre ⟨hK, hN⟩ hPc hDc)⟩ rfl rfl hl.1 rfl (lv_room (Nat.le_of_ble_eq_true rfl)) dX7_feed_85 ⟨Nat.le_of_ble_eq_true rfl, Nat.le_of_ble_eq_true rfl⟩) hS hFc hP hD [1, 2] [0] rfl rfl (by decide) (by decide) (fun H locs hP hD hS => ?_)
    replace hP : va_P E.1 vwCl [(a_, .inr (8, [.ref a_tape, .ref a_reader, .ref a_scripts, .ref a_now, .ref a_trial, .ref a_kept, .ref a_book, .ref a_keptBook, .ref a_history, .ref a_draws, .ref a_refused, .int c_hasImage])), (a_tape, .inr (7, [.ref a_tape_bytes, .int w_25])), (a_tape_bytes, .inl (E.2.2.1, 320, .inl w_24))] H := hP
    replace hD : va_D A [(a_, .inr (8, [.ref a_tape, .ref a_reader, .ref a_scripts, .ref a_now, .ref a_trial, .ref a_kept, .ref a_book, .ref a_keptBook, .ref a_history, .ref a_draws, .ref a_refused, .int c_hasImage])), (a_tape, .inr (7, [.ref a_tape_bytes, .int w_25])), (a_tape_bytes, .inl (E.2.2.1, 320, .inl w_24))] := hD
    refine lv_aload_n hx hb dX7_feed_88 rfl (lv_at hl 1 rfl) ?_
    refine gt_X7_0 (v := .ref a_tape) hx hb hts i_f_X7_feed_X7 hown hK hP 0 rfl (hts (.fieldLink RX7 10 "HushWatch" "tape" "LHushWatch$Tape;") (List.mem_of_getElem? (i := 1) rfl)) rfl dX7_feed_89 ?_
    refine va_getN (D := E.1) (ci := 7) (v := .int w_25) (C := RX6) (T := TX6) (N := 2) hx hb hts i_f_X7_feed_X6 hown hK hP 1 rfl rfl 1 (by decide) (nx hN 1 rfl) (fun _ h9 => h9) rfl dX7_feed_92 ?_
    rw [hQ]
    have h9 := fin9 (P := fun u9 : Int32 × (Nat → Int32) × Int32 => w_25 = u9.1 ∧ va_P E.1 vwCl (w_X7_feed E a_ a_tape a_reader a_scripts a_now a_trial a_kept a_book a_keptBook a_history a_draws a_refused a_tape_bytes c_hasImage u9.2.2 u9.2.1) H ∧ va_D A (w_X7_feed E a_ a_tape a_reader a_scripts a_now a_trial a_kept a_book a_keptBook a_history a_draws a_refused a_tape_bytes c_hasImage u9.2.2 u9.2.1)) hF ⟨rfl, hP, hD⟩
    obtain ⟨e9_0, hP9, hD9⟩ := h9
    exact W.iret (v := w_25) hx hb hr (fun tt ht hW => ⟨⟨_, (), rfl, e9_0, ht ▸ hP9, hD9⟩, hS.F ht⟩) hS.2.2 dX7_feed_95
  ·
    replace hF := inn c_11 hF
    refine lv_iconst (v := -1) hx hb dX7_feed_44 (by decide) ?_
    rw [hQ]
    have h9 := fin9 (P := fun u9 : Int32 × (Nat → Int32) × Int32 => (-1 : Int32) = u9.1 ∧ va_P E.1 vwCl (w_X7_feed E a_ a_tape a_reader a_scripts a_now a_trial a_kept a_book a_keptBook a_history a_draws a_refused a_tape_bytes c_hasImage u9.2.2 u9.2.1) H ∧ va_D A (w_X7_feed E a_ a_tape a_reader a_scripts a_now a_trial a_kept a_book a_keptBook a_history a_draws a_refused a_tape_bytes c_hasImage u9.2.2 u9.2.1)) hF ⟨rfl, hP, hD⟩
    obtain ⟨e9_0, hP9, hD9⟩ := h9
    exact W.iret (v := (-1 : Int32)) hx hb hr (fun tt ht hW => ⟨⟨_, (), rfl, e9_0, ht ▸ hP9, hD9⟩, hS.F ht⟩) hS.2.2 dX7_feed_45

def F_X7_freeze (K : Nat) (p1 : Int32) (c_now_row : Nat → Int32) (c_now_partners : Nat → Int32) (c_now_askedCount : Int32) (c_now_outcome : Int32) (c_now_share : Nat → Int32) (c_now_leftOver : Nat → Int32) (c_book_lines : Nat → Int32) (c_history_rows : Nat → Int32) (c_history_next : Int32) (c_history_held : Int32) (c_refused : Nat → Int32) : Option (Int32 × (Nat → Int32) × (Nat → Int32) × Int32 × Int32 × (Nat → Int32) × (Nat → Int32) × (Nat → Int32) × (Nat → Int32) × Int32 × Int32 × (Nat → Int32)) :=
  bd12 (F_X7_act K (6 : Int32) p1 (0 : Int32) (0 : Int32) (1 : Int32) c_now_row c_now_partners c_now_askedCount c_now_outcome c_now_share c_now_leftOver c_book_lines c_history_rows c_history_next c_history_held c_refused) (fun r_1 w_2 w_3 w_4 w_5 w_6 w_7 w_8 w_9 w_10 w_11 w_12 => if (0 : Int32) ≤ r_1 then bd1 (F_X5_isFrozen p1 w_2) (fun r_15 => if r_15 = (0 : Int32) then some ((0 : Int32), w_2, w_3, w_4, w_5, w_6, w_7, w_8, w_9, w_10, w_11, w_12) else some ((1 : Int32), w_2, w_3, w_4, w_5, w_6, w_7, w_8, w_9, w_10, w_11, w_12)) else some ((-1 : Int32), w_2, w_3, w_4, w_5, w_6, w_7, w_8, w_9, w_10, w_11, w_12))
abbrev w_X7_freeze (E : EE) (a_ a_tape a_reader a_scripts a_now a_trial a_kept a_book a_keptBook a_history a_draws a_refused a_now_row a_now_partners a_now_share a_now_leftOver a_book_lines a_history_rows : Nat) (c_hasImage : Int32) (c_now_askedCount : Int32) (c_now_outcome : Int32) (c_now_row : Nat → Int32) (c_now_partners : Nat → Int32) (c_now_share : Nat → Int32) (c_now_leftOver : Nat → Int32) (c_book_lines : Nat → Int32) (c_history_next : Int32) (c_history_held : Int32) (c_history_rows : Nat → Int32) (c_refused : Nat → Int32) : va_W := [(a_, .inr (8, [.ref a_tape, .ref a_reader, .ref a_scripts, .ref a_now, .ref a_trial, .ref a_kept, .ref a_book, .ref a_keptBook, .ref a_history, .ref a_draws, .ref a_refused, .int c_hasImage])), (a_now, .inr (6, [.ref a_now_row, .ref a_now_partners, .int c_now_askedCount, .int c_now_outcome, .ref a_now_share, .ref a_now_leftOver])), (a_now_row, .inl (E.2.1, 81, .inl c_now_row)), (a_now_partners, .inl (E.2.1, 8, .inl c_now_partners)), (a_now_share, .inl (E.2.1, 2, .inl c_now_share)), (a_now_leftOver, .inl (E.2.1, 2, .inl c_now_leftOver)), (a_book, .inr (1, [.ref a_book_lines])), (a_book_lines, .inl (E.2.1, 300, .inl c_book_lines)), (a_history, .inr (3, [.ref a_history_rows, .int c_history_next, .int c_history_held])), (a_history_rows, .inl (E.2.1, 3240, .inl c_history_rows)), (a_refused, .inl (E.2.1, 3, .inl c_refused))]
def v_f_X7_freeze : List Cond := List.cons (.code yX7_freeze cX7_freeze 2 (some .int)) (HAppend.hAppend (α := List Cond) (β := List Cond) (γ := List Cond) [.fieldLink RX7 35 "HushWatch" "now" "LHushWatch$State;", .methodLink RX7 163 yX7_act, .instanceMethod yX7_act, .selects RX7 yX7_act yX7_act, .initialized RX7, .methodLink RX7 143 yX5_isFrozen, .instanceMethod yX5_isFrozen, .selects RX5 yX5_isFrozen yX5_isFrozen, .initialized RX5] (HAppend.hAppend (α := List Cond) (β := List Cond) (γ := List Cond) v_f_X7_act (HAppend.hAppend (α := List Cond) (β := List Cond) (γ := List Cond) wsX70 (HAppend.hAppend (α := List Cond) (β := List Cond) (γ := List Cond) v_f_X5_isFrozen []))))
theorem gw_f_X7_freeze : v_f_X7_freeze.all goodWord = true := by decide +kernel
theorem i_f_X7_freeze_X7 : ∀ w ∈ wsX70, w ∈ v_f_X7_freeze := fun _ h => List.mem_cons_of_mem _ (List.mem_append_right _ (List.mem_append_right _ (List.mem_append_left _ h)))
theorem g_f_X7_freeze_f_X7_act_163 : GoodIn v_f_X7_freeze (wsV RX7 163 RX7 yX7_act v_f_X7_act) := goodIn_app (goodIn_of _ (by decide +kernel)) (goodIn_sub (fun _ h => List.mem_cons_of_mem _ (List.mem_append_right _ (List.mem_append_left _ h))) gw_f_X7_act)
theorem g_f_X7_freeze_f_X5_isFrozen_143 : GoodIn v_f_X7_freeze (wsV RX7 143 RX5 yX5_isFrozen v_f_X5_isFrozen) := goodIn_app (goodIn_of _ (by decide +kernel)) (goodIn_sub (fun _ h => List.mem_cons_of_mem _ (List.mem_append_right _ (List.mem_append_right _ (List.mem_append_right _ (List.mem_append_left _ h))))) gw_f_X5_isFrozen)
theorem hd_X7_freeze : yX7_freeze.cls = RX7 ∧ yX7_freeze.cls ≠ "java/lang/invoke/MethodHandle" ∧ yX7_freeze.cls ≠ "java/lang/invoke/VarHandle" ∧ (parseMethodDescriptor yX7_freeze.desc).map (fun d => d.parameters.length) = some 1 := by decide +kernel
set_option maxHeartbeats 4000000 in
set_option maxRecDepth 100000 in
theorem f_X7_freeze (l : Launch) (E : EE) (sz : Nat) (K : Nat) {a_ a_tape a_reader a_scripts a_now a_trial a_kept a_book a_keptBook a_history a_draws a_refused a_now_row a_now_partners a_now_share a_now_leftOver a_book_lines a_history_rows : Nat} {p1 : Int32} {c_hasImage : Int32} {c_now_askedCount : Int32} {c_now_outcome : Int32} {c_now_row : Nat → Int32} {c_now_partners : Nat → Int32} {c_now_share : Nat → Int32} {c_now_leftOver : Nat → Int32} {c_book_lines : Nat → Int32} {c_history_next : Int32} {c_history_held : Int32} {c_history_rows : Nat → Int32} {c_refused : Nat → Int32} {rr : Int32} {n_now_row : Nat → Int32} {n_now_partners : Nat → Int32} {n_now_askedCount : Int32} {n_now_outcome : Int32} {n_now_share : Nat → Int32} {n_now_leftOver : Nat → Int32} {n_book_lines : Nat → Int32} {n_history_rows : Nat → Int32} {n_history_next : Int32} {n_history_held : Int32} {n_refused : Nat → Int32} (hF : F_X7_freeze K p1 c_now_row c_now_partners c_now_askedCount c_now_outcome c_now_share c_now_leftOver c_book_lines c_history_rows c_history_next c_history_held c_refused = some (rr, n_now_row, n_now_partners, n_now_askedCount, n_now_outcome, n_now_share, n_now_leftOver, n_book_lines, n_history_rows, n_history_next, n_history_held, n_refused)) : Met l yX7_freeze v_f_X7_freeze (({ frames := 6, cells := 0, slots := 0, locals := 151 } : Room)) (va_Pc [.ref a_, .int p1] (pW E sz (w_X7_freeze E a_ a_tape a_reader a_scripts a_now a_trial a_kept a_book a_keptBook a_history a_draws a_refused a_now_row a_now_partners a_now_share a_now_leftOver a_book_lines a_history_rows c_hasImage c_now_askedCount c_now_outcome c_now_row c_now_partners c_now_share c_now_leftOver c_book_lines c_history_next c_history_held c_history_rows c_refused))) (va_Qi (fun (q : Int32) (_u : Unit) => q = rr) (fun (_u : Unit) tt => va_P E.1 vwCl (w_X7_freeze E a_ a_tape a_reader a_scripts a_now a_trial a_kept a_book a_keptBook a_history a_draws a_refused a_now_row a_now_partners a_now_share a_now_leftOver a_book_lines a_history_rows c_hasImage n_now_askedCount n_now_outcome n_now_row n_now_partners n_now_share n_now_leftOver n_book_lines n_history_next n_history_held n_history_rows n_refused) tt.heap ∧ va_D (va_A (w_X7_freeze E a_ a_tape a_reader a_scripts a_now a_trial a_kept a_book a_keptBook a_history a_draws a_refused a_now_row a_now_partners a_now_share a_now_leftOver a_book_lines a_history_rows c_hasImage c_now_askedCount c_now_outcome c_now_row c_now_partners c_now_share c_now_leftOver c_book_lines c_history_next c_history_held c_history_rows c_refused) sz) (w_X7_freeze E a_ a_tape a_reader a_scripts a_now a_trial a_kept a_book a_keptBook a_history a_draws a_refused a_now_row a_now_partners a_now_share a_now_leftOver a_book_lines a_history_rows c_hasImage n_now_askedCount n_now_outcome n_now_row n_now_partners n_now_share n_now_leftOver n_book_lines n_history_next n_history_held n_history_rows n_refused)) (va_A (w_X7_freeze E a_ a_tape a_reader a_scripts a_now a_trial a_kept a_book a_keptBook a_history a_draws a_refused a_now_row a_now_partners a_now_share a_now_leftOver a_book_lines a_history_rows c_hasImage c_now_askedCount c_now_outcome c_now_row c_now_partners c_now_share c_now_leftOver c_book_lines c_history_next c_history_held c_history_rows c_refused) sz)) 0 0 (va_A (w_X7_freeze E a_ a_tape a_reader a_scripts a_now a_trial a_kept a_book a_keptBook a_history a_draws a_refused a_now_row a_now_partners a_now_share a_now_leftOver a_book_lines a_history_rows c_hasImage c_now_askedCount c_now_outcome c_now_row c_now_partners c_now_share c_now_leftOver c_book_lines c_history_next c_history_held c_history_rows c_refused) sz) := by
  refine Met.ofW (cc := cX7_freeze) (maxL := 2) (ret := (some .int)) (by decide) rfl ?_
  intro p e s m args below meth c s₁ B hml hv
  obtain ⟨rfl, hsz, ⟨hK, hN⟩, hP, hD0⟩ := hv
  have hx := B.exec
  have hb := B.bytes
  have hr := B.returns
  have hts := atoms_spec (ws := v_f_X7_freeze) B.pre
  have hown : s.vm.findClass RX7 = some m.cls := own_of hd_X7_freeze.1 (findClass_of_methodNamed B.named)
  have hlocks : meth.locks = false := B.notSynchronized
  subst hsz
  have hD := hD0.self (sz := s.heap.size)
  generalize hAe : va_A (w_X7_freeze E a_ a_tape a_reader a_scripts a_now a_trial a_kept a_book a_keptBook a_history a_draws a_refused a_now_row a_now_partners a_now_share a_now_leftOver a_book_lines a_history_rows c_hasImage c_now_askedCount c_now_outcome c_now_row c_now_partners c_now_share c_now_leftOver c_book_lines c_history_next c_history_held c_history_rows c_refused) s.heap.size = A at hD ⊢
  have hA : ∀ q : Nat, s.heap.size ≤ q → A q := fun q h => by rw [← hAe]; exact Or.inr h
  have hS : va_S A s.heap s.heap [] := va_S.rf
  have hl := lv_entry ([.ref a_, .int p1]) (n := 2) (Nat.le_of_ble_eq_true rfl)
  rw [lg_entry_eq]
  generalize (lg_sl ([.ref a_, .int p1]) ++ List.replicate (2 - (lg_sl ([.ref a_, .int p1])).length) Slot.unset).toArray = ls at hl ⊢
  have hl : lv_has ls 2 [(0, .ref a_), (1, .int p1)] := hl
  obtain ⟨Q, hQ⟩ : ∃ Q : State → Prop, Q = MQ below (va_Qi (fun (q : Int32) (_u : Unit) => q = rr) (fun (_u : Unit) tt => va_P E.1 vwCl (w_X7_freeze E a_ a_tape a_reader a_scripts a_now a_trial a_kept a_book a_keptBook a_history a_draws a_refused a_now_row a_now_partners a_now_share a_now_leftOver a_book_lines a_history_rows c_hasImage n_now_askedCount n_now_outcome n_now_row n_now_partners n_now_share n_now_leftOver n_book_lines n_history_next n_history_held n_history_rows n_refused) tt.heap ∧ va_D A (w_X7_freeze E a_ a_tape a_reader a_scripts a_now a_trial a_kept a_book a_keptBook a_history a_draws a_refused a_now_row a_now_partners a_now_share a_now_leftOver a_book_lines a_history_rows c_hasImage n_now_askedCount n_now_outcome n_now_row n_now_partners n_now_share n_now_leftOver n_book_lines n_history_next n_history_held n_history_rows n_refused)) A) #[Value.ref a_, Value.int p1] s 0 0 A := ⟨_, rfl⟩
  rw [← hQ]
  change W p l e ({ frames := 6, cells := 0, slots := 0, locals := 151 } : Room) s m #[Value.ref a_, Value.int p1] below meth c s.heap [] 0 0 Q (F0 m 0 ls [])
  suffices hh9 : ∀ (H : Heap) (locs : List Loc), va_P E.1 vwCl (w_X7_freeze E a_ a_tape a_reader a_scripts a_now a_trial a_kept a_book a_keptBook a_history a_draws a_refused a_now_row a_now_partners a_now_share a_now_leftOver a_book_lines a_history_rows c_hasImage c_now_askedCount c_now_outcome c_now_row c_now_partners c_now_share c_now_leftOver c_book_lines c_history_next c_history_held c_history_rows c_refused) H → va_D A (w_X7_freeze E a_ a_tape a_reader a_scripts a_now a_trial a_kept a_book a_keptBook a_history a_draws a_refused a_now_row a_now_partners a_now_share a_now_leftOver a_book_lines a_history_rows c_hasImage c_now_askedCount c_now_outcome c_now_row c_now_partners c_now_share c_now_leftOver c_book_lines c_history_next c_history_held c_history_rows c_refused) → va_S A s.heap H locs → W p l e ({ frames := 6, cells := 0, slots := 0, locals := 151 } : Room) s m #[Value.ref a_, Value.int p1] below meth c H locs 0 0 Q (F0 m 0 ls []) from hh9 s.heap [] hP hD hS
  clear hP hD hS
  intro H locs hP hD hS
  replace hP : va_P E.1 vwCl [(a_, .inr (8, [.ref a_tape, .ref a_reader, .ref a_scripts, .ref a_now, .ref a_trial, .ref a_kept, .ref a_book, .ref a_keptBook, .ref a_history, .ref a_draws, .ref a_refused, .int c_hasImage])), (a_now, .inr (6, [.ref a_now_row, .ref a_now_partners, .int c_now_askedCount, .int c_now_outcome, .ref a_now_share, .ref a_now_leftOver])), (a_now_row, .inl (E.2.1, 81, .inl c_now_row)), (a_now_partners, .inl (E.2.1, 8, .inl c_now_partners)), (a_now_share, .inl (E.2.1, 2, .inl c_now_share)), (a_now_leftOver, .inl (E.2.1, 2, .inl c_now_leftOver)), (a_book, .inr (1, [.ref a_book_lines])), (a_book_lines, .inl (E.2.1, 300, .inl c_book_lines)), (a_history, .inr (3, [.ref a_history_rows, .int c_history_next, .int c_history_held])), (a_history_rows, .inl (E.2.1, 3240, .inl c_history_rows)), (a_refused, .inl (E.2.1, 3, .inl c_refused))] H := hP
  replace hD : va_D A [(a_, .inr (8, [.ref a_tape, .ref a_reader, .ref a_scripts, .ref a_now, .ref a_trial, .ref a_kept, .ref a_book, .ref a_keptBook, .ref a_history, .ref a_draws, .ref a_refused, .int c_hasImage])), (a_now, .inr (6, [.ref a_now_row, .ref a_now_partners, .int c_now_askedCount, .int c_now_outcome, .ref a_now_share, .ref a_now_leftOver])), (a_now_row, .inl (E.2.1, 81, .inl c_now_row)), (a_now_partners, .inl (E.2.1, 8, .inl c_now_partners)), (a_now_share, .inl (E.2.1, 2, .inl c_now_share)), (a_now_leftOver, .inl (E.2.1, 2, .inl c_now_leftOver)), (a_book, .inr (1, [.ref a_book_lines])), (a_book_lines, .inl (E.2.1, 300, .inl c_book_lines)), (a_history, .inr (3, [.ref a_history_rows, .int c_history_next, .int c_history_held])), (a_history_rows, .inl (E.2.1, 3240, .inl c_history_rows)), (a_refused, .inl (E.2.1, 3, .inl c_refused))] := hD
  unfold F_X7_freeze at hF
  refine lv_aload_n hx hb dX7_freeze_0 rfl (lv_at hl 0 rfl) ?_
  refine lv_bipush (v := 6) hx hb dX7_freeze_1 (by decide) ?_
  refine lv_iload_n hx hb dX7_freeze_3 rfl (lv_at hl 1 rfl) ?_
  refine lv_iconst (v := 0) hx hb dX7_freeze_4 (by decide) ?_
  refine lv_iconst (v := 0) hx hb dX7_freeze_5 (by decide) ?_
  refine lv_iconst (v := 1) hx hb dX7_freeze_6 (by decide) ?_
  replace hF := bd12_s hF
  obtain ⟨r_1, w_2, w_3, w_4, w_5, w_6, w_7, w_8, w_9, w_10, w_11, w_12, hc_13, hF⟩ := hF
  obtain ⟨hPc, hDc, hFc⟩ := wcut (wc := (w_X7_act E a_ a_tape a_reader a_scripts a_now a_trial a_kept a_book a_keptBook a_history a_draws a_refused a_now_row a_now_partners a_now_share a_now_leftOver a_book_lines a_history_rows c_hasImage c_now_askedCount c_now_outcome c_now_row c_now_partners c_now_share c_now_leftOver c_book_lines c_history_next c_history_held c_history_rows c_refused)) hP hD hS hA [0, 1, 2, 3, 4, 5, 6, 7, 8, 9, 10] (by decide) rfl
  have hrc := va_recv hK hPc (ci := 8) (q0 := 0) rfl rfl
  refine cE_i (wc := (w_X7_act E a_ a_tape a_reader a_scripts a_now a_trial a_kept a_book a_keptBook a_history a_draws a_refused a_now_row a_now_partners a_now_share a_now_leftOver a_book_lines a_history_rows c_hasImage c_now_askedCount c_now_outcome c_now_row c_now_partners c_now_share c_now_leftOver c_book_lines c_history_next c_history_held c_history_rows c_refused)) (wr := []) (w1 := (w_X7_act E a_ a_tape a_reader a_scripts a_now a_trial a_kept a_book a_keptBook a_history a_draws a_refused a_now_row a_now_partners a_now_share a_now_leftOver a_book_lines a_history_rows c_hasImage w_4 w_5 w_2 w_3 w_6 w_7 w_8 w_10 w_11 w_9 w_12)) (va_runV (As := [.int (6 : Int32), .int p1, .int (0 : Int32), .int (0 : Int32), .int (1 : Int32)]) (rest := [])  ⟨hx, hb, hml, hown, hts⟩ (f_X7_act l E H.size K (a_ := a_) (a_tape := a_tape) (a_reader := a_reader) (a_scripts := a_scripts) (a_now := a_now) (a_trial := a_trial) (a_kept := a_kept) (a_book := a_book) (a_keptBook := a_keptBook) (a_history := a_history) (a_draws := a_draws) (a_refused := a_refused) (a_now_row := a_now_row) (a_now_partners := a_now_partners) (a_now_share := a_now_share) (a_now_leftOver := a_now_leftOver) (a_book_lines := a_book_lines) (a_history_rows := a_history_rows) (p1 := (6 : Int32)) (p2 := p1) (p3 := (0 : Int32)) (p4 := (0 : Int32)) (p5 := (1 : Int32)) (c_hasImage := c_hasImage) (c_now_askedCount := c_now_askedCount) (c_now_outcome := c_now_outcome) (c_now_row := c_now_row) (c_now_partners := c_now_partners) (c_now_share := c_now_share) (c_now_leftOver := c_now_leftOver) (c_book_lines := c_book_lines) (c_history_next := c_history_next) (c_history_held := c_history_held) (c_history_rows := c_history_rows) (c_refused := c_refused) hc_13) (cwV 5 hts g_f_X7_freeze_f_X7_act_163 rfl rfl rfl hd_X7_act ⟨Nat.le_of_ble_eq_true rfl, Nat.le_of_ble_eq_true rfl⟩) ⟨pW.blind, hrc, (pW.pre ⟨hK, hN⟩ hPc hDc)⟩ rfl rfl hl.1 rfl (lv_room (Nat.le_of_ble_eq_true rfl)) dX7_freeze_7 ⟨Nat.le_of_ble_eq_true rfl, Nat.le_of_ble_eq_true rfl⟩) hS hFc hP hD [0, 1, 2, 3, 4, 5, 6, 7, 8, 9, 10] [] rfl rfl (by decide) (by decide) (fun H locs hP hD hS => ?_)
  replace hP : va_P E.1 vwCl [(a_, .inr (8, [.ref a_tape, .ref a_reader, .ref a_scripts, .ref a_now, .ref a_trial, .ref a_kept, .ref a_book, .ref a_keptBook, .ref a_history, .ref a_draws, .ref a_refused, .int c_hasImage])), (a_now, .inr (6, [.ref a_now_row, .ref a_now_partners, .int w_4, .int w_5, .ref a_now_share, .ref a_now_leftOver])), (a_now_row, .inl (E.2.1, 81, .inl w_2)), (a_now_partners, .inl (E.2.1, 8, .inl w_3)), (a_now_share, .inl (E.2.1, 2, .inl w_6)), (a_now_leftOver, .inl (E.2.1, 2, .inl w_7)), (a_book, .inr (1, [.ref a_book_lines])), (a_book_lines, .inl (E.2.1, 300, .inl w_8)), (a_history, .inr (3, [.ref a_history_rows, .int w_10, .int w_11])), (a_history_rows, .inl (E.2.1, 3240, .inl w_9)), (a_refused, .inl (E.2.1, 3, .inl w_12))] H := hP
  replace hD : va_D A [(a_, .inr (8, [.ref a_tape, .ref a_reader, .ref a_scripts, .ref a_now, .ref a_trial, .ref a_kept, .ref a_book, .ref a_keptBook, .ref a_history, .ref a_draws, .ref a_refused, .int c_hasImage])), (a_now, .inr (6, [.ref a_now_row, .ref a_now_partners, .int w_4, .int w_5, .ref a_now_share, .ref a_now_leftOver])), (a_now_row, .inl (E.2.1, 81, .inl w_2)), (a_now_partners, .inl (E.2.1, 8, .inl w_3)), (a_now_share, .inl (E.2.1, 2, .inl w_6)), (a_now_leftOver, .inl (E.2.1, 2, .inl w_7)), (a_book, .inr (1, [.ref a_book_lines])), (a_book_lines, .inl (E.2.1, 300, .inl w_8)), (a_history, .inr (3, [.ref a_history_rows, .int w_10, .int w_11])), (a_history_rows, .inl (E.2.1, 3240, .inl w_9)), (a_refused, .inl (E.2.1, 3, .inl w_12))] := hD
  refine lv_if_ge (tgt := 15) hx hb dX7_freeze_10 (by decide) (fun c_14 => ?_) (fun c_14 => ?_)
  ·
    replace hF := ip c_14 hF
    refine lv_aload_n hx hb dX7_freeze_15 rfl (lv_at hl 0 rfl) ?_
    refine gt_X7_3 (v := .ref a_now) hx hb hts i_f_X7_freeze_X7 hown hK hP 0 rfl (hts (.fieldLink RX7 35 "HushWatch" "now" "LHushWatch$State;") (List.mem_of_getElem? (i := 1) rfl)) rfl dX7_freeze_16 ?_
    refine lv_iload_n hx hb dX7_freeze_19 rfl (lv_at hl 1 rfl) ?_
    replace hF := bd1_s hF
    obtain ⟨r_15, hc_16, hF⟩ := hF
    have hPc : va_P E.1 vwCl (w_X5_isFrozen E a_now a_now_row a_now_partners a_now_share a_now_leftOver w_4 w_5 w_2) H := hP.sub (ws' := [(a_now, .inr (6, [.ref a_now_row, .ref a_now_partners, .int w_4, .int w_5, .ref a_now_share, .ref a_now_leftOver])), (a_now_row, .inl (E.2.1, 81, .inl w_2))]) [1, 2] rfl
    have hrc := va_recv hK hPc (ci := 6) (q0 := 0) rfl rfl
    refine pE_z (va_runV (As := [.int p1]) (rest := [])  ⟨hx, hb, hml, hown, hts⟩ (f_X5_isFrozen l E (a_ := a_now) (a_row := a_now_row) (a_partners := a_now_partners) (a_share := a_now_share) (a_leftOver := a_now_leftOver) (p1 := p1) (c_askedCount := w_4) (c_outcome := w_5) (c_row := w_2) hc_16) (cwV 1 hts g_f_X7_freeze_f_X5_isFrozen_143 rfl rfl rfl hd_X5_isFrozen ⟨Nat.le_of_ble_eq_true rfl, Nat.le_of_ble_eq_true rfl⟩) ⟨pP.blind, hrc, (pP.pre ⟨hK, hN⟩ hPc)⟩ rfl rfl hl.1 rfl (lv_room (Nat.le_of_ble_eq_true rfl)) dX7_freeze_20 ⟨Nat.le_of_ble_eq_true rfl, Nat.le_of_ble_eq_true rfl⟩) (fun hb_17 => ?_)
    refine lv_if_eq (tgt := 30) hx hb dX7_freeze_23 (by decide) (fun c_18 => ?_) (fun c_18 => ?_)
    ·
      replace hF := ip c_18 hF
      refine lv_iconst (v := 0) hx hb dX7_freeze_30 (by decide) ?_
      rw [hQ]
      have h9 := fin9 (P := fun u9 : Int32 × (Nat → Int32) × (Nat → Int32) × Int32 × Int32 × (Nat → Int32) × (Nat → Int32) × (Nat → Int32) × (Nat → Int32) × Int32 × Int32 × (Nat → Int32) => (0 : Int32) = u9.1 ∧ va_P E.1 vwCl (w_X7_freeze E a_ a_tape a_reader a_scripts a_now a_trial a_kept a_book a_keptBook a_history a_draws a_refused a_now_row a_now_partners a_now_share a_now_leftOver a_book_lines a_history_rows c_hasImage u9.2.2.2.1 u9.2.2.2.2.1 u9.2.1 u9.2.2.1 u9.2.2.2.2.2.1 u9.2.2.2.2.2.2.1 u9.2.2.2.2.2.2.2.1 u9.2.2.2.2.2.2.2.2.2.1 u9.2.2.2.2.2.2.2.2.2.2.1 u9.2.2.2.2.2.2.2.2.1 u9.2.2.2.2.2.2.2.2.2.2.2) H ∧ va_D A (w_X7_freeze E a_ a_tape a_reader a_scripts a_now a_trial a_kept a_book a_keptBook a_history a_draws a_refused a_now_row a_now_partners a_now_share a_now_leftOver a_book_lines a_history_rows c_hasImage u9.2.2.2.1 u9.2.2.2.2.1 u9.2.1 u9.2.2.1 u9.2.2.2.2.2.1 u9.2.2.2.2.2.2.1 u9.2.2.2.2.2.2.2.1 u9.2.2.2.2.2.2.2.2.2.1 u9.2.2.2.2.2.2.2.2.2.2.1 u9.2.2.2.2.2.2.2.2.1 u9.2.2.2.2.2.2.2.2.2.2.2)) hF ⟨rfl, hP, hD⟩
      obtain ⟨e9_0, hP9, hD9⟩ := h9
      exact W.iret (v := (0 : Int32)) hx hb hr (fun tt ht hW => ⟨⟨_, (), rfl, e9_0, ht ▸ hP9, hD9⟩, hS.F ht⟩) hS.2.2 dX7_freeze_31
    ·
      replace hF := inn c_18 hF
      refine lv_iconst (v := 1) hx hb dX7_freeze_26 (by decide) ?_
      refine lv_goto (tgt := 31) hx hb dX7_freeze_27 (by decide) ?_
      rw [hQ]
      have h9 := fin9 (P := fun u9 : Int32 × (Nat → Int32) × (Nat → Int32) × Int32 × Int32 × (Nat → Int32) × (Nat → Int32) × (Nat → Int32) × (Nat → Int32) × Int32 × Int32 × (Nat → Int32) => (1 : Int32) = u9.1 ∧ va_P E.1 vwCl (w_X7_freeze E a_ a_tape a_reader a_scripts a_now a_trial a_kept a_book a_keptBook a_history a_draws a_refused a_now_row a_now_partners a_now_share a_now_leftOver a_book_lines a_history_rows c_hasImage u9.2.2.2.1 u9.2.2.2.2.1 u9.2.1 u9.2.2.1 u9.2.2.2.2.2.1 u9.2.2.2.2.2.2.1 u9.2.2.2.2.2.2.2.1 u9.2.2.2.2.2.2.2.2.2.1 u9.2.2.2.2.2.2.2.2.2.2.1 u9.2.2.2.2.2.2.2.2.1 u9.2.2.2.2.2.2.2.2.2.2.2) H ∧ va_D A (w_X7_freeze E a_ a_tape a_reader a_scripts a_now a_trial a_kept a_book a_keptBook a_history a_draws a_refused a_now_row a_now_partners a_now_share a_now_leftOver a_book_lines a_history_rows c_hasImage u9.2.2.2.1 u9.2.2.2.2.1 u9.2.1 u9.2.2.1 u9.2.2.2.2.2.1 u9.2.2.2.2.2.2.1 u9.2.2.2.2.2.2.2.1 u9.2.2.2.2.2.2.2.2.2.1 u9.2.2.2.2.2.2.2.2.2.2.1 u9.2.2.2.2.2.2.2.2.1 u9.2.2.2.2.2.2.2.2.2.2.2)) hF ⟨rfl, hP, hD⟩
      obtain ⟨e9_0, hP9, hD9⟩ := h9
      exact W.iret (v := (1 : Int32)) hx hb hr (fun tt ht hW => ⟨⟨_, (), rfl, e9_0, ht ▸ hP9, hD9⟩, hS.F ht⟩) hS.2.2 dX7_freeze_31
  ·
    replace hF := inn c_14 hF
    refine lv_iconst (v := -1) hx hb dX7_freeze_13 (by decide) ?_
    rw [hQ]
    have h9 := fin9 (P := fun u9 : Int32 × (Nat → Int32) × (Nat → Int32) × Int32 × Int32 × (Nat → Int32) × (Nat → Int32) × (Nat → Int32) × (Nat → Int32) × Int32 × Int32 × (Nat → Int32) => (-1 : Int32) = u9.1 ∧ va_P E.1 vwCl (w_X7_freeze E a_ a_tape a_reader a_scripts a_now a_trial a_kept a_book a_keptBook a_history a_draws a_refused a_now_row a_now_partners a_now_share a_now_leftOver a_book_lines a_history_rows c_hasImage u9.2.2.2.1 u9.2.2.2.2.1 u9.2.1 u9.2.2.1 u9.2.2.2.2.2.1 u9.2.2.2.2.2.2.1 u9.2.2.2.2.2.2.2.1 u9.2.2.2.2.2.2.2.2.2.1 u9.2.2.2.2.2.2.2.2.2.2.1 u9.2.2.2.2.2.2.2.2.1 u9.2.2.2.2.2.2.2.2.2.2.2) H ∧ va_D A (w_X7_freeze E a_ a_tape a_reader a_scripts a_now a_trial a_kept a_book a_keptBook a_history a_draws a_refused a_now_row a_now_partners a_now_share a_now_leftOver a_book_lines a_history_rows c_hasImage u9.2.2.2.1 u9.2.2.2.2.1 u9.2.1 u9.2.2.1 u9.2.2.2.2.2.1 u9.2.2.2.2.2.2.1 u9.2.2.2.2.2.2.2.1 u9.2.2.2.2.2.2.2.2.2.1 u9.2.2.2.2.2.2.2.2.2.2.1 u9.2.2.2.2.2.2.2.2.1 u9.2.2.2.2.2.2.2.2.2.2.2)) hF ⟨rfl, hP, hD⟩
    obtain ⟨e9_0, hP9, hD9⟩ := h9
    exact W.iret (v := (-1 : Int32)) hx hb hr (fun tt ht hW => ⟨⟨_, (), rfl, e9_0, ht ▸ hP9, hD9⟩, hS.F ht⟩) hS.2.2 dX7_freeze_14
