def dl_X7_perform_40_pub05_0 : List (Nat × Instr × Nat) := [(34, .iload_n 3, 1), (35, .iload_n 2, 1), (36, .if_icmp .ge 63, 3), (39, .aload_n 0, 1), (40, .aload_n 0, 1), (41, .getfield 28, 3), (44, .iload_n 1, 1), (45, .iload_n 3, 1), (46, .invokevirtual 299, 3), (49, .aload_n 0, 1), (50, .getfield 28, 3), (53, .iload_n 1, 1), (54, .iload_n 3, 1), (55, .iconst 1, 1), (56, .invokevirtual 288, 3), (59, .aload_n 0, 1), (60, .getfield 28, 3), (63, .iload_n 1, 1), (64, .iload_n 3, 1), (65, .iconst 2, 1), (66, .invokevirtual 288, 3), (69, .aload_n 0, 1), (70, .getfield 28, 3), (73, .iload_n 1, 1), (74, .iload_n 3, 1), (75, .iconst 3, 1), (76, .invokevirtual 288, 3), (79, .iconst 0, 1), (80, .invokevirtual 163, 3), (83, .istore 4, 2), (85, .iload 4, 2), (87, .iconst (-1), 1), (88, .if_icmp .ne 5, 3), (93, .iinc 3 1, 3), (96, .goto (-62), 3), (0, .aload_n 0, 1), (1, .getfield 28, 3), (4, .iload_n 1, 1), (5, .invokevirtual 290, 3), (8, .ifCond .eq 13, 3), (21, .iconst (-1), 1), (22, .ireturn, 1), (11, .aload_n 0, 1), (12, .getfield 35, 3), (15, .invokevirtual 110, 3), (18, .ifCond .ne 5, 3), (23, .aload_n 0, 1), (24, .getfield 28, 3), (27, .iload_n 1, 1), (28, .invokevirtual 293, 3)]
set_option maxRecDepth 100000 in
theorem dall_X7_perform_40_pub05_0 : dchk cX7_perform dl_X7_perform_40_pub05_0 = true := by decide +kernel
theorem dX7_perform_34 : decode cX7_perform 34 = .ok (.iload_n 3, 1) := dchk_at dall_X7_perform_40_pub05_0 (k := 0) rfl
theorem dX7_perform_35 : decode cX7_perform 35 = .ok (.iload_n 2, 1) := dchk_at dall_X7_perform_40_pub05_0 (k := 1) rfl
theorem dX7_perform_36 : decode cX7_perform 36 = .ok (.if_icmp .ge 63, 3) := dchk_at dall_X7_perform_40_pub05_0 (k := 2) rfl
theorem dX7_perform_39 : decode cX7_perform 39 = .ok (.aload_n 0, 1) := dchk_at dall_X7_perform_40_pub05_0 (k := 3) rfl
theorem dX7_perform_40 : decode cX7_perform 40 = .ok (.aload_n 0, 1) := dchk_at dall_X7_perform_40_pub05_0 (k := 4) rfl
theorem dX7_perform_41 : decode cX7_perform 41 = .ok (.getfield 28, 3) := dchk_at dall_X7_perform_40_pub05_0 (k := 5) rfl
theorem dX7_perform_44 : decode cX7_perform 44 = .ok (.iload_n 1, 1) := dchk_at dall_X7_perform_40_pub05_0 (k := 6) rfl
theorem dX7_perform_45 : decode cX7_perform 45 = .ok (.iload_n 3, 1) := dchk_at dall_X7_perform_40_pub05_0 (k := 7) rfl
theorem dX7_perform_46 : decode cX7_perform 46 = .ok (.invokevirtual 299, 3) := dchk_at dall_X7_perform_40_pub05_0 (k := 8) rfl
theorem dX7_perform_49 : decode cX7_perform 49 = .ok (.aload_n 0, 1) := dchk_at dall_X7_perform_40_pub05_0 (k := 9) rfl
theorem dX7_perform_50 : decode cX7_perform 50 = .ok (.getfield 28, 3) := dchk_at dall_X7_perform_40_pub05_0 (k := 10) rfl
theorem dX7_perform_53 : decode cX7_perform 53 = .ok (.iload_n 1, 1) := dchk_at dall_X7_perform_40_pub05_0 (k := 11) rfl
theorem dX7_perform_54 : decode cX7_perform 54 = .ok (.iload_n 3, 1) := dchk_at dall_X7_perform_40_pub05_0 (k := 12) rfl
theorem dX7_perform_55 : decode cX7_perform 55 = .ok (.iconst 1, 1) := dchk_at dall_X7_perform_40_pub05_0 (k := 13) rfl
theorem dX7_perform_56 : decode cX7_perform 56 = .ok (.invokevirtual 288, 3) := dchk_at dall_X7_perform_40_pub05_0 (k := 14) rfl
theorem dX7_perform_59 : decode cX7_perform 59 = .ok (.aload_n 0, 1) := dchk_at dall_X7_perform_40_pub05_0 (k := 15) rfl
theorem dX7_perform_60 : decode cX7_perform 60 = .ok (.getfield 28, 3) := dchk_at dall_X7_perform_40_pub05_0 (k := 16) rfl
theorem dX7_perform_63 : decode cX7_perform 63 = .ok (.iload_n 1, 1) := dchk_at dall_X7_perform_40_pub05_0 (k := 17) rfl
theorem dX7_perform_64 : decode cX7_perform 64 = .ok (.iload_n 3, 1) := dchk_at dall_X7_perform_40_pub05_0 (k := 18) rfl
theorem dX7_perform_65 : decode cX7_perform 65 = .ok (.iconst 2, 1) := dchk_at dall_X7_perform_40_pub05_0 (k := 19) rfl
theorem dX7_perform_66 : decode cX7_perform 66 = .ok (.invokevirtual 288, 3) := dchk_at dall_X7_perform_40_pub05_0 (k := 20) rfl
theorem dX7_perform_69 : decode cX7_perform 69 = .ok (.aload_n 0, 1) := dchk_at dall_X7_perform_40_pub05_0 (k := 21) rfl
theorem dX7_perform_70 : decode cX7_perform 70 = .ok (.getfield 28, 3) := dchk_at dall_X7_perform_40_pub05_0 (k := 22) rfl
theorem dX7_perform_73 : decode cX7_perform 73 = .ok (.iload_n 1, 1) := dchk_at dall_X7_perform_40_pub05_0 (k := 23) rfl
theorem dX7_perform_74 : decode cX7_perform 74 = .ok (.iload_n 3, 1) := dchk_at dall_X7_perform_40_pub05_0 (k := 24) rfl
theorem dX7_perform_75 : decode cX7_perform 75 = .ok (.iconst 3, 1) := dchk_at dall_X7_perform_40_pub05_0 (k := 25) rfl
theorem dX7_perform_76 : decode cX7_perform 76 = .ok (.invokevirtual 288, 3) := dchk_at dall_X7_perform_40_pub05_0 (k := 26) rfl
theorem dX7_perform_79 : decode cX7_perform 79 = .ok (.iconst 0, 1) := dchk_at dall_X7_perform_40_pub05_0 (k := 27) rfl
theorem dX7_perform_80 : decode cX7_perform 80 = .ok (.invokevirtual 163, 3) := dchk_at dall_X7_perform_40_pub05_0 (k := 28) rfl
theorem dX7_perform_83 : decode cX7_perform 83 = .ok (.istore 4, 2) := dchk_at dall_X7_perform_40_pub05_0 (k := 29) rfl
theorem dX7_perform_85 : decode cX7_perform 85 = .ok (.iload 4, 2) := dchk_at dall_X7_perform_40_pub05_0 (k := 30) rfl
theorem dX7_perform_87 : decode cX7_perform 87 = .ok (.iconst (-1), 1) := dchk_at dall_X7_perform_40_pub05_0 (k := 31) rfl
theorem dX7_perform_88 : decode cX7_perform 88 = .ok (.if_icmp .ne 5, 3) := dchk_at dall_X7_perform_40_pub05_0 (k := 32) rfl
theorem dX7_perform_93 : decode cX7_perform 93 = .ok (.iinc 3 1, 3) := dchk_at dall_X7_perform_40_pub05_0 (k := 33) rfl
theorem dX7_perform_96 : decode cX7_perform 96 = .ok (.goto (-62), 3) := dchk_at dall_X7_perform_40_pub05_0 (k := 34) rfl
theorem dX7_perform_0 : decode cX7_perform 0 = .ok (.aload_n 0, 1) := dchk_at dall_X7_perform_40_pub05_0 (k := 35) rfl
theorem dX7_perform_1 : decode cX7_perform 1 = .ok (.getfield 28, 3) := dchk_at dall_X7_perform_40_pub05_0 (k := 36) rfl
theorem dX7_perform_4 : decode cX7_perform 4 = .ok (.iload_n 1, 1) := dchk_at dall_X7_perform_40_pub05_0 (k := 37) rfl
theorem dX7_perform_5 : decode cX7_perform 5 = .ok (.invokevirtual 290, 3) := dchk_at dall_X7_perform_40_pub05_0 (k := 38) rfl
theorem dX7_perform_8 : decode cX7_perform 8 = .ok (.ifCond .eq 13, 3) := dchk_at dall_X7_perform_40_pub05_0 (k := 39) rfl
theorem dX7_perform_21 : decode cX7_perform 21 = .ok (.iconst (-1), 1) := dchk_at dall_X7_perform_40_pub05_0 (k := 40) rfl
theorem dX7_perform_22 : decode cX7_perform 22 = .ok (.ireturn, 1) := dchk_at dall_X7_perform_40_pub05_0 (k := 41) rfl
theorem dX7_perform_11 : decode cX7_perform 11 = .ok (.aload_n 0, 1) := dchk_at dall_X7_perform_40_pub05_0 (k := 42) rfl
theorem dX7_perform_12 : decode cX7_perform 12 = .ok (.getfield 35, 3) := dchk_at dall_X7_perform_40_pub05_0 (k := 43) rfl
theorem dX7_perform_15 : decode cX7_perform 15 = .ok (.invokevirtual 110, 3) := dchk_at dall_X7_perform_40_pub05_0 (k := 44) rfl
theorem dX7_perform_18 : decode cX7_perform 18 = .ok (.ifCond .ne 5, 3) := dchk_at dall_X7_perform_40_pub05_0 (k := 45) rfl
theorem dX7_perform_23 : decode cX7_perform 23 = .ok (.aload_n 0, 1) := dchk_at dall_X7_perform_40_pub05_0 (k := 46) rfl
theorem dX7_perform_24 : decode cX7_perform 24 = .ok (.getfield 28, 3) := dchk_at dall_X7_perform_40_pub05_0 (k := 47) rfl
theorem dX7_perform_27 : decode cX7_perform 27 = .ok (.iload_n 1, 1) := dchk_at dall_X7_perform_40_pub05_0 (k := 48) rfl
theorem dX7_perform_28 : decode cX7_perform 28 = .ok (.invokevirtual 293, 3) := dchk_at dall_X7_perform_40_pub05_0 (k := 49) rfl
def dl_X7_perform_40_pub05_1 : List (Nat × Instr × Nat) := [(31, .istore_n 2, 1), (32, .iconst 0, 1), (33, .istore_n 3, 1), (91, .iload_n 3, 1), (92, .ireturn, 1), (99, .iload_n 2, 1), (100, .ireturn, 1)]
set_option maxRecDepth 100000 in
theorem dall_X7_perform_40_pub05_1 : dchk cX7_perform dl_X7_perform_40_pub05_1 = true := by decide +kernel
theorem dX7_perform_31 : decode cX7_perform 31 = .ok (.istore_n 2, 1) := dchk_at dall_X7_perform_40_pub05_1 (k := 0) rfl
theorem dX7_perform_32 : decode cX7_perform 32 = .ok (.iconst 0, 1) := dchk_at dall_X7_perform_40_pub05_1 (k := 1) rfl
theorem dX7_perform_33 : decode cX7_perform 33 = .ok (.istore_n 3, 1) := dchk_at dall_X7_perform_40_pub05_1 (k := 2) rfl
theorem dX7_perform_91 : decode cX7_perform 91 = .ok (.iload_n 3, 1) := dchk_at dall_X7_perform_40_pub05_1 (k := 3) rfl
theorem dX7_perform_92 : decode cX7_perform 92 = .ok (.ireturn, 1) := dchk_at dall_X7_perform_40_pub05_1 (k := 4) rfl
theorem dX7_perform_99 : decode cX7_perform 99 = .ok (.iload_n 2, 1) := dchk_at dall_X7_perform_40_pub05_1 (k := 5) rfl
theorem dX7_perform_100 : decode cX7_perform 100 = .ok (.ireturn, 1) := dchk_at dall_X7_perform_40_pub05_1 (k := 6) rfl
def dl_X7_race_40_pub05_0 : List (Nat × Instr × Nat) := [(46, .iload 6, 2), (48, .aload_n 0, 1), (49, .getfield 35, 3), (52, .invokevirtual 117, 3), (55, .if_icmp .ge 81, 3), (58, .aload_n 0, 1), (59, .getfield 35, 3), (62, .iload 6, 2), (64, .invokevirtual 143, 3), (67, .ifCond .eq 6, 3), (73, .aload_n 0, 1), (74, .getfield 35, 3), (77, .iload 6, 2), (79, .iload 5, 2), (81, .iload_n 1, 1), (82, .imul, 1), (83, .iload 5, 2), (85, .iload_n 2, 1), (86, .imul, 1), (87, .invokevirtual 213, 3), (90, .ifCond .ne 5, 3), (95, .iinc 4 1, 3), (98, .aload_n 0, 1), (99, .getfield 35, 3), (102, .iload 6, 2), (104, .iload 5, 2), (106, .iload_n 1, 1), (107, .imul, 1), (108, .iload 5, 2), (110, .iload_n 2, 1), (111, .imul, 1), (112, .invokevirtual 217, 3), (115, .ifCond .ne 15, 3), (130, .iinc 6 1, 3), (133, .goto (-87), 3), (70, .goto 60, 3), (35, .iload 5, 2), (37, .sipush 200, 3), (40, .if_icmp .gt 102, 3), (43, .iconst 0, 1), (44, .istore 6, 2), (136, .iinc 5 1, 3), (139, .goto (-104), 3), (0, .aload_n 0, 1), (1, .getfield 35, 3), (4, .invokevirtual 110, 3), (7, .ifCond .eq 20, 3), (27, .iconst (-1), 1), (28, .ireturn, 1), (10, .iload_n 1, 1)]
set_option maxRecDepth 100000 in
theorem dall_X7_race_40_pub05_0 : dchk cX7_race dl_X7_race_40_pub05_0 = true := by decide +kernel
theorem dX7_race_46 : decode cX7_race 46 = .ok (.iload 6, 2) := dchk_at dall_X7_race_40_pub05_0 (k := 0) rfl
theorem dX7_race_48 : decode cX7_race 48 = .ok (.aload_n 0, 1) := dchk_at dall_X7_race_40_pub05_0 (k := 1) rfl
theorem dX7_race_49 : decode cX7_race 49 = .ok (.getfield 35, 3) := dchk_at dall_X7_race_40_pub05_0 (k := 2) rfl
theorem dX7_race_52 : decode cX7_race 52 = .ok (.invokevirtual 117, 3) := dchk_at dall_X7_race_40_pub05_0 (k := 3) rfl
theorem dX7_race_55 : decode cX7_race 55 = .ok (.if_icmp .ge 81, 3) := dchk_at dall_X7_race_40_pub05_0 (k := 4) rfl
theorem dX7_race_58 : decode cX7_race 58 = .ok (.aload_n 0, 1) := dchk_at dall_X7_race_40_pub05_0 (k := 5) rfl
theorem dX7_race_59 : decode cX7_race 59 = .ok (.getfield 35, 3) := dchk_at dall_X7_race_40_pub05_0 (k := 6) rfl
theorem dX7_race_62 : decode cX7_race 62 = .ok (.iload 6, 2) := dchk_at dall_X7_race_40_pub05_0 (k := 7) rfl
theorem dX7_race_64 : decode cX7_race 64 = .ok (.invokevirtual 143, 3) := dchk_at dall_X7_race_40_pub05_0 (k := 8) rfl
theorem dX7_race_67 : decode cX7_race 67 = .ok (.ifCond .eq 6, 3) := dchk_at dall_X7_race_40_pub05_0 (k := 9) rfl
theorem dX7_race_73 : decode cX7_race 73 = .ok (.aload_n 0, 1) := dchk_at dall_X7_race_40_pub05_0 (k := 10) rfl
theorem dX7_race_74 : decode cX7_race 74 = .ok (.getfield 35, 3) := dchk_at dall_X7_race_40_pub05_0 (k := 11) rfl
theorem dX7_race_77 : decode cX7_race 77 = .ok (.iload 6, 2) := dchk_at dall_X7_race_40_pub05_0 (k := 12) rfl
theorem dX7_race_79 : decode cX7_race 79 = .ok (.iload 5, 2) := dchk_at dall_X7_race_40_pub05_0 (k := 13) rfl
theorem dX7_race_81 : decode cX7_race 81 = .ok (.iload_n 1, 1) := dchk_at dall_X7_race_40_pub05_0 (k := 14) rfl
theorem dX7_race_82 : decode cX7_race 82 = .ok (.imul, 1) := dchk_at dall_X7_race_40_pub05_0 (k := 15) rfl
theorem dX7_race_83 : decode cX7_race 83 = .ok (.iload 5, 2) := dchk_at dall_X7_race_40_pub05_0 (k := 16) rfl
theorem dX7_race_85 : decode cX7_race 85 = .ok (.iload_n 2, 1) := dchk_at dall_X7_race_40_pub05_0 (k := 17) rfl
theorem dX7_race_86 : decode cX7_race 86 = .ok (.imul, 1) := dchk_at dall_X7_race_40_pub05_0 (k := 18) rfl
theorem dX7_race_87 : decode cX7_race 87 = .ok (.invokevirtual 213, 3) := dchk_at dall_X7_race_40_pub05_0 (k := 19) rfl
theorem dX7_race_90 : decode cX7_race 90 = .ok (.ifCond .ne 5, 3) := dchk_at dall_X7_race_40_pub05_0 (k := 20) rfl
theorem dX7_race_95 : decode cX7_race 95 = .ok (.iinc 4 1, 3) := dchk_at dall_X7_race_40_pub05_0 (k := 21) rfl
theorem dX7_race_98 : decode cX7_race 98 = .ok (.aload_n 0, 1) := dchk_at dall_X7_race_40_pub05_0 (k := 22) rfl
theorem dX7_race_99 : decode cX7_race 99 = .ok (.getfield 35, 3) := dchk_at dall_X7_race_40_pub05_0 (k := 23) rfl
theorem dX7_race_102 : decode cX7_race 102 = .ok (.iload 6, 2) := dchk_at dall_X7_race_40_pub05_0 (k := 24) rfl
theorem dX7_race_104 : decode cX7_race 104 = .ok (.iload 5, 2) := dchk_at dall_X7_race_40_pub05_0 (k := 25) rfl
theorem dX7_race_106 : decode cX7_race 106 = .ok (.iload_n 1, 1) := dchk_at dall_X7_race_40_pub05_0 (k := 26) rfl
theorem dX7_race_107 : decode cX7_race 107 = .ok (.imul, 1) := dchk_at dall_X7_race_40_pub05_0 (k := 27) rfl
theorem dX7_race_108 : decode cX7_race 108 = .ok (.iload 5, 2) := dchk_at dall_X7_race_40_pub05_0 (k := 28) rfl
theorem dX7_race_110 : decode cX7_race 110 = .ok (.iload_n 2, 1) := dchk_at dall_X7_race_40_pub05_0 (k := 29) rfl
theorem dX7_race_111 : decode cX7_race 111 = .ok (.imul, 1) := dchk_at dall_X7_race_40_pub05_0 (k := 30) rfl
theorem dX7_race_112 : decode cX7_race 112 = .ok (.invokevirtual 217, 3) := dchk_at dall_X7_race_40_pub05_0 (k := 31) rfl
theorem dX7_race_115 : decode cX7_race 115 = .ok (.ifCond .ne 15, 3) := dchk_at dall_X7_race_40_pub05_0 (k := 32) rfl
theorem dX7_race_130 : decode cX7_race 130 = .ok (.iinc 6 1, 3) := dchk_at dall_X7_race_40_pub05_0 (k := 33) rfl
theorem dX7_race_133 : decode cX7_race 133 = .ok (.goto (-87), 3) := dchk_at dall_X7_race_40_pub05_0 (k := 34) rfl
theorem dX7_race_70 : decode cX7_race 70 = .ok (.goto 60, 3) := dchk_at dall_X7_race_40_pub05_0 (k := 35) rfl
theorem dX7_race_35 : decode cX7_race 35 = .ok (.iload 5, 2) := dchk_at dall_X7_race_40_pub05_0 (k := 36) rfl
theorem dX7_race_37 : decode cX7_race 37 = .ok (.sipush 200, 3) := dchk_at dall_X7_race_40_pub05_0 (k := 37) rfl
theorem dX7_race_40 : decode cX7_race 40 = .ok (.if_icmp .gt 102, 3) := dchk_at dall_X7_race_40_pub05_0 (k := 38) rfl
theorem dX7_race_43 : decode cX7_race 43 = .ok (.iconst 0, 1) := dchk_at dall_X7_race_40_pub05_0 (k := 39) rfl
theorem dX7_race_44 : decode cX7_race 44 = .ok (.istore 6, 2) := dchk_at dall_X7_race_40_pub05_0 (k := 40) rfl
theorem dX7_race_136 : decode cX7_race 136 = .ok (.iinc 5 1, 3) := dchk_at dall_X7_race_40_pub05_0 (k := 41) rfl
theorem dX7_race_139 : decode cX7_race 139 = .ok (.goto (-104), 3) := dchk_at dall_X7_race_40_pub05_0 (k := 42) rfl
theorem dX7_race_0 : decode cX7_race 0 = .ok (.aload_n 0, 1) := dchk_at dall_X7_race_40_pub05_0 (k := 43) rfl
theorem dX7_race_1 : decode cX7_race 1 = .ok (.getfield 35, 3) := dchk_at dall_X7_race_40_pub05_0 (k := 44) rfl
theorem dX7_race_4 : decode cX7_race 4 = .ok (.invokevirtual 110, 3) := dchk_at dall_X7_race_40_pub05_0 (k := 45) rfl
theorem dX7_race_7 : decode cX7_race 7 = .ok (.ifCond .eq 20, 3) := dchk_at dall_X7_race_40_pub05_0 (k := 46) rfl
theorem dX7_race_27 : decode cX7_race 27 = .ok (.iconst (-1), 1) := dchk_at dall_X7_race_40_pub05_0 (k := 47) rfl
theorem dX7_race_28 : decode cX7_race 28 = .ok (.ireturn, 1) := dchk_at dall_X7_race_40_pub05_0 (k := 48) rfl
theorem dX7_race_10 : decode cX7_race 10 = .ok (.iload_n 1, 1) := dchk_at dall_X7_race_40_pub05_0 (k := 49) rfl
def dl_X7_race_40_pub05_1 : List (Nat × Instr × Nat) := [(11, .iload_n 2, 1), (12, .invokestatic 210, 3), (15, .ifCond .eq 12, 3), (18, .iload_n 3, 1), (19, .ifCond .lt 8, 3), (22, .iload_n 3, 1), (23, .iconst 1, 1), (24, .if_icmp .le 5, 3), (29, .iconst 0, 1), (30, .istore 4, 2), (32, .iconst 1, 1), (33, .istore 5, 2), (93, .iconst (-1), 1), (94, .ireturn, 1), (118, .iload_n 3, 1), (119, .ifCond .ne 8, 3), (127, .iload 4, 2), (129, .ireturn, 1), (122, .iload 6, 2), (124, .goto 5, 3), (142, .iconst (-1), 1), (143, .ireturn, 1)]
set_option maxRecDepth 100000 in
theorem dall_X7_race_40_pub05_1 : dchk cX7_race dl_X7_race_40_pub05_1 = true := by decide +kernel
theorem dX7_race_11 : decode cX7_race 11 = .ok (.iload_n 2, 1) := dchk_at dall_X7_race_40_pub05_1 (k := 0) rfl
theorem dX7_race_12 : decode cX7_race 12 = .ok (.invokestatic 210, 3) := dchk_at dall_X7_race_40_pub05_1 (k := 1) rfl
theorem dX7_race_15 : decode cX7_race 15 = .ok (.ifCond .eq 12, 3) := dchk_at dall_X7_race_40_pub05_1 (k := 2) rfl
theorem dX7_race_18 : decode cX7_race 18 = .ok (.iload_n 3, 1) := dchk_at dall_X7_race_40_pub05_1 (k := 3) rfl
theorem dX7_race_19 : decode cX7_race 19 = .ok (.ifCond .lt 8, 3) := dchk_at dall_X7_race_40_pub05_1 (k := 4) rfl
theorem dX7_race_22 : decode cX7_race 22 = .ok (.iload_n 3, 1) := dchk_at dall_X7_race_40_pub05_1 (k := 5) rfl
theorem dX7_race_23 : decode cX7_race 23 = .ok (.iconst 1, 1) := dchk_at dall_X7_race_40_pub05_1 (k := 6) rfl
theorem dX7_race_24 : decode cX7_race 24 = .ok (.if_icmp .le 5, 3) := dchk_at dall_X7_race_40_pub05_1 (k := 7) rfl
theorem dX7_race_29 : decode cX7_race 29 = .ok (.iconst 0, 1) := dchk_at dall_X7_race_40_pub05_1 (k := 8) rfl
theorem dX7_race_30 : decode cX7_race 30 = .ok (.istore 4, 2) := dchk_at dall_X7_race_40_pub05_1 (k := 9) rfl
theorem dX7_race_32 : decode cX7_race 32 = .ok (.iconst 1, 1) := dchk_at dall_X7_race_40_pub05_1 (k := 10) rfl
theorem dX7_race_33 : decode cX7_race 33 = .ok (.istore 5, 2) := dchk_at dall_X7_race_40_pub05_1 (k := 11) rfl
theorem dX7_race_93 : decode cX7_race 93 = .ok (.iconst (-1), 1) := dchk_at dall_X7_race_40_pub05_1 (k := 12) rfl
theorem dX7_race_94 : decode cX7_race 94 = .ok (.ireturn, 1) := dchk_at dall_X7_race_40_pub05_1 (k := 13) rfl
theorem dX7_race_118 : decode cX7_race 118 = .ok (.iload_n 3, 1) := dchk_at dall_X7_race_40_pub05_1 (k := 14) rfl
theorem dX7_race_119 : decode cX7_race 119 = .ok (.ifCond .ne 8, 3) := dchk_at dall_X7_race_40_pub05_1 (k := 15) rfl
theorem dX7_race_127 : decode cX7_race 127 = .ok (.iload 4, 2) := dchk_at dall_X7_race_40_pub05_1 (k := 16) rfl
theorem dX7_race_129 : decode cX7_race 129 = .ok (.ireturn, 1) := dchk_at dall_X7_race_40_pub05_1 (k := 17) rfl
theorem dX7_race_122 : decode cX7_race 122 = .ok (.iload 6, 2) := dchk_at dall_X7_race_40_pub05_1 (k := 18) rfl
theorem dX7_race_124 : decode cX7_race 124 = .ok (.goto 5, 3) := dchk_at dall_X7_race_40_pub05_1 (k := 19) rfl
theorem dX7_race_142 : decode cX7_race 142 = .ok (.iconst (-1), 1) := dchk_at dall_X7_race_40_pub05_1 (k := 20) rfl
theorem dX7_race_143 : decode cX7_race 143 = .ok (.ireturn, 1) := dchk_at dall_X7_race_40_pub05_1 (k := 21) rfl
def dl_X7_rule_40_pub05_0 : List (Nat × Instr × Nat) := [(0, .aload_n 0, 1), (1, .getfield 35, 3), (4, .invokevirtual 110, 3), (7, .ifCond .ne 6, 3), (13, .iload_n 1, 1), (14, .tableswitch 68 0 3 #[30, 40, 50, 60], 30), (44, .aload_n 0, 1), (45, .getfield 35, 3), (48, .getfield 114, 3), (51, .iconst 0, 1), (52, .iaload, 1), (53, .ireturn, 1), (54, .aload_n 0, 1), (55, .getfield 35, 3), (58, .getfield 114, 3), (61, .iconst 1, 1), (62, .iaload, 1), (63, .ireturn, 1), (64, .aload_n 0, 1), (65, .getfield 35, 3), (68, .getfield 114, 3), (71, .iconst 2, 1), (72, .iaload, 1), (73, .ireturn, 1), (74, .aload_n 0, 1), (75, .getfield 35, 3), (78, .invokevirtual 117, 3), (81, .ireturn, 1), (82, .ldc 113, 2), (84, .ireturn, 1), (10, .ldc 113, 2), (12, .ireturn, 1)]
set_option maxRecDepth 100000 in
theorem dall_X7_rule_40_pub05_0 : dchk cX7_rule dl_X7_rule_40_pub05_0 = true := by decide +kernel
theorem dX7_rule_0 : decode cX7_rule 0 = .ok (.aload_n 0, 1) := dchk_at dall_X7_rule_40_pub05_0 (k := 0) rfl
theorem dX7_rule_1 : decode cX7_rule 1 = .ok (.getfield 35, 3) := dchk_at dall_X7_rule_40_pub05_0 (k := 1) rfl
theorem dX7_rule_4 : decode cX7_rule 4 = .ok (.invokevirtual 110, 3) := dchk_at dall_X7_rule_40_pub05_0 (k := 2) rfl
theorem dX7_rule_7 : decode cX7_rule 7 = .ok (.ifCond .ne 6, 3) := dchk_at dall_X7_rule_40_pub05_0 (k := 3) rfl
theorem dX7_rule_13 : decode cX7_rule 13 = .ok (.iload_n 1, 1) := dchk_at dall_X7_rule_40_pub05_0 (k := 4) rfl
theorem dX7_rule_14 : decode cX7_rule 14 = .ok (.tableswitch 68 0 3 #[30, 40, 50, 60], 30) := dchk_at dall_X7_rule_40_pub05_0 (k := 5) rfl
theorem dX7_rule_44 : decode cX7_rule 44 = .ok (.aload_n 0, 1) := dchk_at dall_X7_rule_40_pub05_0 (k := 6) rfl
theorem dX7_rule_45 : decode cX7_rule 45 = .ok (.getfield 35, 3) := dchk_at dall_X7_rule_40_pub05_0 (k := 7) rfl
theorem dX7_rule_48 : decode cX7_rule 48 = .ok (.getfield 114, 3) := dchk_at dall_X7_rule_40_pub05_0 (k := 8) rfl
theorem dX7_rule_51 : decode cX7_rule 51 = .ok (.iconst 0, 1) := dchk_at dall_X7_rule_40_pub05_0 (k := 9) rfl
theorem dX7_rule_52 : decode cX7_rule 52 = .ok (.iaload, 1) := dchk_at dall_X7_rule_40_pub05_0 (k := 10) rfl
theorem dX7_rule_53 : decode cX7_rule 53 = .ok (.ireturn, 1) := dchk_at dall_X7_rule_40_pub05_0 (k := 11) rfl
theorem dX7_rule_54 : decode cX7_rule 54 = .ok (.aload_n 0, 1) := dchk_at dall_X7_rule_40_pub05_0 (k := 12) rfl
theorem dX7_rule_55 : decode cX7_rule 55 = .ok (.getfield 35, 3) := dchk_at dall_X7_rule_40_pub05_0 (k := 13) rfl
theorem dX7_rule_58 : decode cX7_rule 58 = .ok (.getfield 114, 3) := dchk_at dall_X7_rule_40_pub05_0 (k := 14) rfl
theorem dX7_rule_61 : decode cX7_rule 61 = .ok (.iconst 1, 1) := dchk_at dall_X7_rule_40_pub05_0 (k := 15) rfl
theorem dX7_rule_62 : decode cX7_rule 62 = .ok (.iaload, 1) := dchk_at dall_X7_rule_40_pub05_0 (k := 16) rfl
theorem dX7_rule_63 : decode cX7_rule 63 = .ok (.ireturn, 1) := dchk_at dall_X7_rule_40_pub05_0 (k := 17) rfl
theorem dX7_rule_64 : decode cX7_rule 64 = .ok (.aload_n 0, 1) := dchk_at dall_X7_rule_40_pub05_0 (k := 18) rfl
theorem dX7_rule_65 : decode cX7_rule 65 = .ok (.getfield 35, 3) := dchk_at dall_X7_rule_40_pub05_0 (k := 19) rfl
theorem dX7_rule_68 : decode cX7_rule 68 = .ok (.getfield 114, 3) := dchk_at dall_X7_rule_40_pub05_0 (k := 20) rfl
theorem dX7_rule_71 : decode cX7_rule 71 = .ok (.iconst 2, 1) := dchk_at dall_X7_rule_40_pub05_0 (k := 21) rfl
theorem dX7_rule_72 : decode cX7_rule 72 = .ok (.iaload, 1) := dchk_at dall_X7_rule_40_pub05_0 (k := 22) rfl
theorem dX7_rule_73 : decode cX7_rule 73 = .ok (.ireturn, 1) := dchk_at dall_X7_rule_40_pub05_0 (k := 23) rfl
theorem dX7_rule_74 : decode cX7_rule 74 = .ok (.aload_n 0, 1) := dchk_at dall_X7_rule_40_pub05_0 (k := 24) rfl
theorem dX7_rule_75 : decode cX7_rule 75 = .ok (.getfield 35, 3) := dchk_at dall_X7_rule_40_pub05_0 (k := 25) rfl
theorem dX7_rule_78 : decode cX7_rule 78 = .ok (.invokevirtual 117, 3) := dchk_at dall_X7_rule_40_pub05_0 (k := 26) rfl
theorem dX7_rule_81 : decode cX7_rule 81 = .ok (.ireturn, 1) := dchk_at dall_X7_rule_40_pub05_0 (k := 27) rfl
theorem dX7_rule_82 : decode cX7_rule 82 = .ok (.ldc 113, 2) := dchk_at dall_X7_rule_40_pub05_0 (k := 28) rfl
theorem dX7_rule_84 : decode cX7_rule 84 = .ok (.ireturn, 1) := dchk_at dall_X7_rule_40_pub05_0 (k := 29) rfl
theorem dX7_rule_10 : decode cX7_rule 10 = .ok (.ldc 113, 2) := dchk_at dall_X7_rule_40_pub05_0 (k := 30) rfl
theorem dX7_rule_12 : decode cX7_rule 12 = .ok (.ireturn, 1) := dchk_at dall_X7_rule_40_pub05_0 (k := 31) rfl
def B_X7_perform_34 (K : Nat) (p1 : Int32) (c_scripts_held : Int32) (c_scripts_steps : Nat → Int32) (c_scripts_counts : Nat → Int32) (x2 : Int32) (x3 : Int32) (c_now_row : Nat → Int32) (c_now_partners : Nat → Int32) (c_now_askedCount : Int32) (c_now_outcome : Int32) (c_now_share : Nat → Int32) (c_now_leftOver : Nat → Int32) (c_book_lines : Nat → Int32) (c_history_rows : Nat → Int32) (c_history_next : Int32) (c_history_held : Int32) (c_refused : Nat → Int32) : Option ((Int32 × (Nat → Int32) × (Nat → Int32) × Int32 × Int32 × (Nat → Int32) × (Nat → Int32) × (Nat → Int32) × (Nat → Int32) × Int32 × Int32 × (Nat → Int32)) ⊕ (Nat × Int32 × (Nat → Int32) × (Nat → Int32) × Int32 × Int32 × (Nat → Int32) × (Nat → Int32) × (Nat → Int32) × (Nat → Int32) × Int32 × Int32 × (Nat → Int32))) :=
  if x2 ≤ x3 then some (.inr (1, x3, c_now_row, c_now_partners, c_now_askedCount, c_now_outcome, c_now_share, c_now_leftOver, c_book_lines, c_history_rows, c_history_next, c_history_held, c_refused)) else bd1 (F_X4_sortOf p1 x3 c_scripts_steps c_scripts_counts c_scripts_held) (fun r_12 => bd1 (F_X4_read p1 x3 (1 : Int32) c_scripts_steps c_scripts_counts c_scripts_held) (fun r_14 => bd1 (F_X4_read p1 x3 (2 : Int32) c_scripts_steps c_scripts_counts c_scripts_held) (fun r_16 => bd1 (F_X4_read p1 x3 (3 : Int32) c_scripts_steps c_scripts_counts c_scripts_held) (fun r_18 => bd12 (F_X7_act K r_12 r_14 r_16 r_18 (0 : Int32) c_now_row c_now_partners c_now_askedCount c_now_outcome c_now_share c_now_leftOver c_book_lines c_history_rows c_history_next c_history_held c_refused) (fun r_20 w_21 w_22 w_23 w_24 w_25 w_26 w_27 w_28 w_29 w_30 w_31 => if r_20 = (-1 : Int32) then some (.inr (0, x3, w_21, w_22, w_23, w_24, w_25, w_26, w_27, w_28, w_29, w_30, w_31)) else some (.inl (x3 + (1 : Int32), w_21, w_22, w_23, w_24, w_25, w_26, w_27, w_28, w_29, w_30, w_31)))))))
def F_X7_perform (K : Nat) (p1 : Int32) (c_scripts_steps : Nat → Int32) (c_scripts_counts : Nat → Int32) (c_scripts_held : Int32) (c_now_row : Nat → Int32) (c_now_partners : Nat → Int32) (c_now_askedCount : Int32) (c_now_outcome : Int32) (c_now_share : Nat → Int32) (c_now_leftOver : Nat → Int32) (c_book_lines : Nat → Int32) (c_history_rows : Nat → Int32) (c_history_next : Int32) (c_history_held : Int32) (c_refused : Nat → Int32) : Option (Int32 × (Nat → Int32) × (Nat → Int32) × Int32 × Int32 × (Nat → Int32) × (Nat → Int32) × (Nat → Int32) × (Nat → Int32) × Int32 × Int32 × (Nat → Int32)) :=
  bd1 (F_X4_has p1 c_scripts_held) (fun r_1 => if r_1 = (0 : Int32) then some ((-1 : Int32), c_now_row, c_now_partners, c_now_askedCount, c_now_outcome, c_now_share, c_now_leftOver, c_book_lines, c_history_rows, c_history_next, c_history_held, c_refused) else bd1 (F_X5_stands c_now_row) (fun r_5 => if r_5 = (0 : Int32) then some ((-1 : Int32), c_now_row, c_now_partners, c_now_askedCount, c_now_outcome, c_now_share, c_now_leftOver, c_book_lines, c_history_rows, c_history_next, c_history_held, c_refused) else bd1 (F_X4_stepsOf p1 c_scripts_counts c_scripts_held) (fun r_9 => bd13 (lpF (fun u9 : Int32 × (Nat → Int32) × (Nat → Int32) × Int32 × Int32 × (Nat → Int32) × (Nat → Int32) × (Nat → Int32) × (Nat → Int32) × Int32 × Int32 × (Nat → Int32) => B_X7_perform_34 K p1 c_scripts_held c_scripts_steps c_scripts_counts r_9 u9.1 u9.2.1 u9.2.2.1 u9.2.2.2.1 u9.2.2.2.2.1 u9.2.2.2.2.2.1 u9.2.2.2.2.2.2.1 u9.2.2.2.2.2.2.2.1 u9.2.2.2.2.2.2.2.2.1 u9.2.2.2.2.2.2.2.2.2.1 u9.2.2.2.2.2.2.2.2.2.2.1 u9.2.2.2.2.2.2.2.2.2.2.2) K ((0 : Int32), c_now_row, c_now_partners, c_now_askedCount, c_now_outcome, c_now_share, c_now_leftOver, c_book_lines, c_history_rows, c_history_next, c_history_held, c_refused)) (fun t_34 x3_35 c_now_row_36 c_now_partners_37 c_now_askedCount_38 c_now_outcome_39 c_now_share_40 c_now_leftOver_41 c_book_lines_42 c_history_rows_43 c_history_next_44 c_history_held_45 c_refused_46 => if t_34 = 0 then some (x3_35, c_now_row_36, c_now_partners_37, c_now_askedCount_38, c_now_outcome_39, c_now_share_40, c_now_leftOver_41, c_book_lines_42, c_history_rows_43, c_history_next_44, c_history_held_45, c_refused_46) else if t_34 = 1 then some (r_9, c_now_row_36, c_now_partners_37, c_now_askedCount_38, c_now_outcome_39, c_now_share_40, c_now_leftOver_41, c_book_lines_42, c_history_rows_43, c_history_next_44, c_history_held_45, c_refused_46) else none))))
abbrev w_X7_perform (E : EE) (a_ a_tape a_reader a_scripts a_now a_trial a_kept a_book a_keptBook a_history a_draws a_refused a_scripts_steps a_scripts_counts a_now_row a_now_partners a_now_share a_now_leftOver a_book_lines a_history_rows : Nat) (c_hasImage : Int32) (c_scripts_held : Int32) (c_scripts_steps : Nat → Int32) (c_scripts_counts : Nat → Int32) (c_now_askedCount : Int32) (c_now_outcome : Int32) (c_now_row : Nat → Int32) (c_now_partners : Nat → Int32) (c_now_share : Nat → Int32) (c_now_leftOver : Nat → Int32) (c_book_lines : Nat → Int32) (c_history_next : Int32) (c_history_held : Int32) (c_history_rows : Nat → Int32) (c_refused : Nat → Int32) : va_W := [(a_, .inr (8, [.ref a_tape, .ref a_reader, .ref a_scripts, .ref a_now, .ref a_trial, .ref a_kept, .ref a_book, .ref a_keptBook, .ref a_history, .ref a_draws, .ref a_refused, .int c_hasImage])), (a_scripts, .inr (5, [.ref a_scripts_steps, .ref a_scripts_counts, .int c_scripts_held])), (a_scripts_steps, .inl (E.2.1, 192, .inl c_scripts_steps)), (a_scripts_counts, .inl (E.2.1, 4, .inl c_scripts_counts)), (a_now, .inr (6, [.ref a_now_row, .ref a_now_partners, .int c_now_askedCount, .int c_now_outcome, .ref a_now_share, .ref a_now_leftOver])), (a_now_row, .inl (E.2.1, 81, .inl c_now_row)), (a_now_partners, .inl (E.2.1, 8, .inl c_now_partners)), (a_now_share, .inl (E.2.1, 2, .inl c_now_share)), (a_now_leftOver, .inl (E.2.1, 2, .inl c_now_leftOver)), (a_book, .inr (1, [.ref a_book_lines])), (a_book_lines, .inl (E.2.1, 300, .inl c_book_lines)), (a_history, .inr (3, [.ref a_history_rows, .int c_history_next, .int c_history_held])), (a_history_rows, .inl (E.2.1, 3240, .inl c_history_rows)), (a_refused, .inl (E.2.1, 3, .inl c_refused))]
def v_f_X7_perform : List Cond := .code yX7_perform cX7_perform 5 (some .int) :: ([.fieldLink RX7 28 "HushWatch" "scripts" "LHushWatch$Scripts;", .fieldLink RX7 35 "HushWatch" "now" "LHushWatch$State;", .methodLink RX7 290 yX4_has, .instanceMethod yX4_has, .selects RX4 yX4_has yX4_has, .initialized RX4, .methodLink RX7 110 yX5_stands, .instanceMethod yX5_stands, .selects RX5 yX5_stands yX5_stands, .initialized RX5, .methodLink RX7 293 yX4_stepsOf, .instanceMethod yX4_stepsOf, .selects RX4 yX4_stepsOf yX4_stepsOf, .methodLink RX7 299 yX4_sortOf, .instanceMethod yX4_sortOf, .selects RX4 yX4_sortOf yX4_sortOf, .methodLink RX7 288 yX4_read, .instanceMethod yX4_read, .selects RX4 yX4_read yX4_read, .methodLink RX7 163 yX7_act, .instanceMethod yX7_act, .selects RX7 yX7_act yX7_act, .initialized RX7] ++ (wsX70 ++ (v_f_X4_has ++ (v_f_X5_stands ++ (v_f_X4_stepsOf ++ (v_f_X4_sortOf ++ (v_f_X4_read ++ (v_f_X7_act ++ ([])))))))))
theorem gw_f_X7_perform : v_f_X7_perform.all goodWord = true := by decide +kernel
theorem i_f_X7_perform_X7 : ∀ w ∈ wsX70, w ∈ v_f_X7_perform := fun _ h => List.mem_cons_of_mem _ (List.mem_append_right _ (List.mem_append_left _ h))
theorem g_f_X7_perform_f_X4_has_290 : GoodIn v_f_X7_perform (wsV RX7 290 RX4 yX4_has v_f_X4_has) := goodIn_app (goodIn_of _ (by decide +kernel)) (goodIn_sub (fun _ h => List.mem_cons_of_mem _ (List.mem_append_right _ (List.mem_append_right _ (List.mem_append_left _ h)))) gw_f_X4_has)
theorem g_f_X7_perform_f_X5_stands_110 : GoodIn v_f_X7_perform (wsV RX7 110 RX5 yX5_stands v_f_X5_stands) := goodIn_app (goodIn_of _ (by decide +kernel)) (goodIn_sub (fun _ h => List.mem_cons_of_mem _ (List.mem_append_right _ (List.mem_append_right _ (List.mem_append_right _ (List.mem_append_left _ h))))) gw_f_X5_stands)
theorem g_f_X7_perform_f_X4_stepsOf_293 : GoodIn v_f_X7_perform (wsV RX7 293 RX4 yX4_stepsOf v_f_X4_stepsOf) := goodIn_app (goodIn_of _ (by decide +kernel)) (goodIn_sub (fun _ h => List.mem_cons_of_mem _ (List.mem_append_right _ (List.mem_append_right _ (List.mem_append_right _ (List.mem_append_right _ (List.mem_append_left _ h)))))) gw_f_X4_stepsOf)
theorem g_f_X7_perform_f_X4_sortOf_299 : GoodIn v_f_X7_perform (wsV RX7 299 RX4 yX4_sortOf v_f_X4_sortOf) := goodIn_app (goodIn_of _ (by decide +kernel)) (goodIn_sub (fun _ h => List.mem_cons_of_mem _ (List.mem_append_right _ (List.mem_append_right _ (List.mem_append_right _ (List.mem_append_right _ (List.mem_append_right _ (List.mem_append_left _ h))))))) gw_f_X4_sortOf)
theorem g_f_X7_perform_f_X4_read_288 : GoodIn v_f_X7_perform (wsV RX7 288 RX4 yX4_read v_f_X4_read) := goodIn_app (goodIn_of _ (by decide +kernel)) (goodIn_sub (fun _ h => List.mem_cons_of_mem _ (List.mem_append_right _ (List.mem_append_right _ (List.mem_append_right _ (List.mem_append_right _ (List.mem_append_right _ (List.mem_append_right _ (List.mem_append_left _ h)))))))) gw_f_X4_read)
theorem g_f_X7_perform_f_X7_act_163 : GoodIn v_f_X7_perform (wsV RX7 163 RX7 yX7_act v_f_X7_act) := goodIn_app (goodIn_of _ (by decide +kernel)) (goodIn_sub (fun _ h => List.mem_cons_of_mem _ (List.mem_append_right _ (List.mem_append_right _ (List.mem_append_right _ (List.mem_append_right _ (List.mem_append_right _ (List.mem_append_right _ (List.mem_append_right _ (List.mem_append_left _ h))))))))) gw_f_X7_act)
theorem hd_X7_perform : yX7_perform.cls = RX7 ∧ yX7_perform.cls ≠ "java/lang/invoke/MethodHandle" ∧ yX7_perform.cls ≠ "java/lang/invoke/VarHandle" ∧ (parseMethodDescriptor yX7_perform.desc).map (fun d => d.parameters.length) = some 1 := by decide +kernel
set_option maxHeartbeats 4000000 in
set_option maxRecDepth 100000 in
theorem wb_X7_perform_34 {p : Program} (l : Launch) {e : Env} {s : State} {m : MethodId} {below : List Frame} {meth : Method} {c : Code} {Q : State → Prop} (E : EE) (K : Nat) {z9 : Nat → Nat} {a_ a_tape a_reader a_scripts a_now a_trial a_kept a_book a_keptBook a_history a_draws a_refused a_scripts_steps a_scripts_counts a_now_row a_now_partners a_now_share a_now_leftOver a_book_lines a_history_rows : Nat} {p1 : Int32} {c_hasImage : Int32} {c_scripts_held : Int32} {c_scripts_steps : Nat → Int32} {c_scripts_counts : Nat → Int32} {x2 : Int32} {x3 : Int32} {c_now_row : Nat → Int32} {c_now_partners : Nat → Int32} {c_now_askedCount : Int32} {c_now_outcome : Int32} {c_now_share : Nat → Int32} {c_now_leftOver : Nat → Int32} {c_book_lines : Nat → Int32} {c_history_rows : Nat → Int32} {c_history_next : Int32} {c_history_held : Int32} {c_refused : Nat → Int32} (hx : p.tables.exec = Jvm.exec) (hb : c.code = cX7_perform) (hml : c.maxLocals = 5) (hown : s.vm.findClass RX7 = some m.cls) (hts : ∀ w ∈ v_f_X7_perform, w.before #[Value.ref a_, Value.int p1] s = true) (hK : va_K E.1 vwCl (TY E) s) (hN : NX s) {A : Nat → Prop} (hA : ∀ q : Nat, s.heap.size ≤ q → A q) (hZ : ZZ z9 A s s.heap) {xx : (Int32 × (Nat → Int32) × (Nat → Int32) × Int32 × Int32 × (Nat → Int32) × (Nat → Int32) × (Nat → Int32) × (Nat → Int32) × Int32 × Int32 × (Nat → Int32)) ⊕ (Nat × Int32 × (Nat → Int32) × (Nat → Int32) × Int32 × Int32 × (Nat → Int32) × (Nat → Int32) × (Nat → Int32) × (Nat → Int32) × Int32 × Int32 × (Nat → Int32))} (hC : ∀ (x3 : Int32), ∀ (c_now_row : Nat → Int32), ∀ (c_now_partners : Nat → Int32), ∀ (c_now_askedCount : Int32), ∀ (c_now_outcome : Int32), ∀ (c_now_share : Nat → Int32), ∀ (c_now_leftOver : Nat → Int32), ∀ (c_book_lines : Nat → Int32), ∀ (c_history_rows : Nat → Int32), ∀ (c_history_next : Int32), ∀ (c_history_held : Int32), ∀ (c_refused : Nat → Int32), xx = .inl (x3, c_now_row, c_now_partners, c_now_askedCount, c_now_outcome, c_now_share, c_now_leftOver, c_book_lines, c_history_rows, c_history_next, c_history_held, c_refused) → ∀ (H : Heap) (locs : List Loc) (ls : Array Slot), va_P E.1 vwCl (w_X7_perform E a_ a_tape a_reader a_scripts a_now a_trial a_kept a_book a_keptBook a_history a_draws a_refused a_scripts_steps a_scripts_counts a_now_row a_now_partners a_now_share a_now_leftOver a_book_lines a_history_rows c_hasImage c_scripts_held c_scripts_steps c_scripts_counts c_now_askedCount c_now_outcome c_now_row c_now_partners c_now_share c_now_leftOver c_book_lines c_history_next c_history_held c_history_rows c_refused) H → va_D A (w_X7_perform E a_ a_tape a_reader a_scripts a_now a_trial a_kept a_book a_keptBook a_history a_draws a_refused a_scripts_steps a_scripts_counts a_now_row a_now_partners a_now_share a_now_leftOver a_book_lines a_history_rows c_hasImage c_scripts_held c_scripts_steps c_scripts_counts c_now_askedCount c_now_outcome c_now_row c_now_partners c_now_share c_now_leftOver c_book_lines c_history_next c_history_held c_history_rows c_refused) → va_S A s.heap H locs → lv_has ls 5 [(0, .ref a_), (1, .int p1), (2, .int x2), (3, .int x3)] → W p l e ({ frames := 6, cells := 0, slots := 0, locals := 151 } : Room) s m #[Value.ref a_, Value.int p1] below meth c H locs 0 0 Q (F0 m 34 ls [])) (hE : ∀ (t9 : Nat), ∀ (x3 : Int32), ∀ (c_now_row : Nat → Int32), ∀ (c_now_partners : Nat → Int32), ∀ (c_now_askedCount : Int32), ∀ (c_now_outcome : Int32), ∀ (c_now_share : Nat → Int32), ∀ (c_now_leftOver : Nat → Int32), ∀ (c_book_lines : Nat → Int32), ∀ (c_history_rows : Nat → Int32), ∀ (c_history_next : Int32), ∀ (c_history_held : Int32), ∀ (c_refused : Nat → Int32), xx = .inr (t9, x3, c_now_row, c_now_partners, c_now_askedCount, c_now_outcome, c_now_share, c_now_leftOver, c_book_lines, c_history_rows, c_history_next, c_history_held, c_refused) → ((t9 = 0 → ∀ (H : Heap) (locs : List Loc) (ls : Array Slot), va_P E.1 vwCl (w_X7_perform E a_ a_tape a_reader a_scripts a_now a_trial a_kept a_book a_keptBook a_history a_draws a_refused a_scripts_steps a_scripts_counts a_now_row a_now_partners a_now_share a_now_leftOver a_book_lines a_history_rows c_hasImage c_scripts_held c_scripts_steps c_scripts_counts c_now_askedCount c_now_outcome c_now_row c_now_partners c_now_share c_now_leftOver c_book_lines c_history_next c_history_held c_history_rows c_refused) H → va_D A (w_X7_perform E a_ a_tape a_reader a_scripts a_now a_trial a_kept a_book a_keptBook a_history a_draws a_refused a_scripts_steps a_scripts_counts a_now_row a_now_partners a_now_share a_now_leftOver a_book_lines a_history_rows c_hasImage c_scripts_held c_scripts_steps c_scripts_counts c_now_askedCount c_now_outcome c_now_row c_now_partners c_now_share c_now_leftOver c_book_lines c_history_next c_history_held c_history_rows c_refused) → va_S A s.heap H locs → lv_has ls 5 [(3, .int x3)] → W p l e ({ frames := 6, cells := 0, slots := 0, locals := 151 } : Room) s m #[Value.ref a_, Value.int p1] below meth c H locs 0 0 Q (F0 m 91 ls [])) ∧ (t9 = 1 → ∀ (H : Heap) (locs : List Loc) (ls : Array Slot), va_P E.1 vwCl (w_X7_perform E a_ a_tape a_reader a_scripts a_now a_trial a_kept a_book a_keptBook a_history a_draws a_refused a_scripts_steps a_scripts_counts a_now_row a_now_partners a_now_share a_now_leftOver a_book_lines a_history_rows c_hasImage c_scripts_held c_scripts_steps c_scripts_counts c_now_askedCount c_now_outcome c_now_row c_now_partners c_now_share c_now_leftOver c_book_lines c_history_next c_history_held c_history_rows c_refused) H → va_D A (w_X7_perform E a_ a_tape a_reader a_scripts a_now a_trial a_kept a_book a_keptBook a_history a_draws a_refused a_scripts_steps a_scripts_counts a_now_row a_now_partners a_now_share a_now_leftOver a_book_lines a_history_rows c_hasImage c_scripts_held c_scripts_steps c_scripts_counts c_now_askedCount c_now_outcome c_now_row c_now_partners c_now_share c_now_leftOver c_book_lines c_history_next c_history_held c_history_rows c_refused) → va_S A s.heap H locs → lv_has ls 5 [(2, .int x2)] → W p l e ({ frames := 6, cells := 0, slots := 0, locals := 151 } : Room) s m #[Value.ref a_, Value.int p1] below meth c H locs 0 0 Q (F0 m 99 ls [])))) (hF : B_X7_perform_34 K p1 c_scripts_held c_scripts_steps c_scripts_counts x2 x3 c_now_row c_now_partners c_now_askedCount c_now_outcome c_now_share c_now_leftOver c_book_lines c_history_rows c_history_next c_history_held c_refused = some xx) : ∀ (H : Heap) (locs : List Loc) (ls : Array Slot), va_P E.1 vwCl (w_X7_perform E a_ a_tape a_reader a_scripts a_now a_trial a_kept a_book a_keptBook a_history a_draws a_refused a_scripts_steps a_scripts_counts a_now_row a_now_partners a_now_share a_now_leftOver a_book_lines a_history_rows c_hasImage c_scripts_held c_scripts_steps c_scripts_counts c_now_askedCount c_now_outcome c_now_row c_now_partners c_now_share c_now_leftOver c_book_lines c_history_next c_history_held c_history_rows c_refused) H → va_D A (w_X7_perform E a_ a_tape a_reader a_scripts a_now a_trial a_kept a_book a_keptBook a_history a_draws a_refused a_scripts_steps a_scripts_counts a_now_row a_now_partners a_now_share a_now_leftOver a_book_lines a_history_rows c_hasImage c_scripts_held c_scripts_steps c_scripts_counts c_now_askedCount c_now_outcome c_now_row c_now_partners c_now_share c_now_leftOver c_book_lines c_history_next c_history_held c_history_rows c_refused) → va_S A s.heap H locs → lv_has ls 5 [(0, .ref a_), (1, .int p1), (2, .int x2), (3, .int x3)] → W p l e ({ frames := 6, cells := 0, slots := 0, locals := 151 } : Room) s m #[Value.ref a_, Value.int p1] below meth c H locs 0 0 Q (F0 m 34 ls []) := by
  unfold B_X7_perform_34 at hF
  intro H locs ls hP hD hS hl
  replace hP : va_P E.1 vwCl [(a_, .inr (8, [.ref a_tape, .ref a_reader, .ref a_scripts, .ref a_now, .ref a_trial, .ref a_kept, .ref a_book, .ref a_keptBook, .ref a_history, .ref a_draws, .ref a_refused, .int c_hasImage])), (a_scripts, .inr (5, [.ref a_scripts_steps, .ref a_scripts_counts, .int c_scripts_held])), (a_scripts_steps, .inl (E.2.1, 192, .inl c_scripts_steps)), (a_scripts_counts, .inl (E.2.1, 4, .inl c_scripts_counts)), (a_now, .inr (6, [.ref a_now_row, .ref a_now_partners, .int c_now_askedCount, .int c_now_outcome, .ref a_now_share, .ref a_now_leftOver])), (a_now_row, .inl (E.2.1, 81, .inl c_now_row)), (a_now_partners, .inl (E.2.1, 8, .inl c_now_partners)), (a_now_share, .inl (E.2.1, 2, .inl c_now_share)), (a_now_leftOver, .inl (E.2.1, 2, .inl c_now_leftOver)), (a_book, .inr (1, [.ref a_book_lines])), (a_book_lines, .inl (E.2.1, 300, .inl c_book_lines)), (a_history, .inr (3, [.ref a_history_rows, .int c_history_next, .int c_history_held])), (a_history_rows, .inl (E.2.1, 3240, .inl c_history_rows)), (a_refused, .inl (E.2.1, 3, .inl c_refused))] H := hP
  replace hD : va_D A [(a_, .inr (8, [.ref a_tape, .ref a_reader, .ref a_scripts, .ref a_now, .ref a_trial, .ref a_kept, .ref a_book, .ref a_keptBook, .ref a_history, .ref a_draws, .ref a_refused, .int c_hasImage])), (a_scripts, .inr (5, [.ref a_scripts_steps, .ref a_scripts_counts, .int c_scripts_held])), (a_scripts_steps, .inl (E.2.1, 192, .inl c_scripts_steps)), (a_scripts_counts, .inl (E.2.1, 4, .inl c_scripts_counts)), (a_now, .inr (6, [.ref a_now_row, .ref a_now_partners, .int c_now_askedCount, .int c_now_outcome, .ref a_now_share, .ref a_now_leftOver])), (a_now_row, .inl (E.2.1, 81, .inl c_now_row)), (a_now_partners, .inl (E.2.1, 8, .inl c_now_partners)), (a_now_share, .inl (E.2.1, 2, .inl c_now_share)), (a_now_leftOver, .inl (E.2.1, 2, .inl c_now_leftOver)), (a_book, .inr (1, [.ref a_book_lines])), (a_book_lines, .inl (E.2.1, 300, .inl c_book_lines)), (a_history, .inr (3, [.ref a_history_rows, .int c_history_next, .int c_history_held])), (a_history_rows, .inl (E.2.1, 3240, .inl c_history_rows)), (a_refused, .inl (E.2.1, 3, .inl c_refused))] := hD
  refine lv_iload_n hx hb dX7_perform_34 rfl (lv_at hl 3 rfl) ?_
  refine lv_iload_n hx hb dX7_perform_35 rfl (lv_at hl 2 rfl) ?_
  refine lv_icmp_ge (tgt := 99) hx hb dX7_perform_36 (by decide) (fun c_11 => ?_) (fun c_11 => ?_)
  ·
    replace hF := ip c_11 hF
    cases hF
    exact (hE 1 x3 c_now_row c_now_partners c_now_askedCount c_now_outcome c_now_share c_now_leftOver c_book_lines c_history_rows c_history_next c_history_held c_refused rfl).2 rfl H locs ls (hP.sub [0, 1, 2, 3, 4, 5, 6, 7, 8, 9, 10, 11, 12, 13] rfl) (hD.sub [0, 1, 2, 3, 4, 5, 6, 7, 8, 9, 10, 11, 12, 13] (by decide) rfl) hS (lv_sub hl [2] rfl)
  ·
    replace hF := inn c_11 hF
    refine lv_aload_n hx hb dX7_perform_39 rfl (lv_at hl 0 rfl) ?_
    refine lv_aload_n hx hb dX7_perform_40 rfl (lv_at hl 0 rfl) ?_
    refine gt_X7_2 (v := .ref a_scripts) hx hb hts i_f_X7_perform_X7 hown hK hP 0 rfl (hts (.fieldLink RX7 28 "HushWatch" "scripts" "LHushWatch$Scripts;") (List.mem_of_getElem? (i := 1) rfl)) rfl dX7_perform_41 ?_
    refine lv_iload_n hx hb dX7_perform_44 rfl (lv_at hl 1 rfl) ?_
    refine lv_iload_n hx hb dX7_perform_45 rfl (lv_at hl 3 rfl) ?_
    replace hF := bd1_s hF
    obtain ⟨r_12, hc_13, hF⟩ := hF
    have hPc : va_P E.1 vwCl (w_X4_sortOf E a_scripts a_scripts_steps a_scripts_counts c_scripts_held c_scripts_steps c_scripts_counts) H := hP.sub (ws' := [(a_scripts, .inr (5, [.ref a_scripts_steps, .ref a_scripts_counts, .int c_scripts_held])), (a_scripts_steps, .inl (E.2.1, 192, .inl c_scripts_steps)), (a_scripts_counts, .inl (E.2.1, 4, .inl c_scripts_counts))]) [1, 2, 3] rfl
    have hrc := va_recv hK hPc (ci := 5) (q0 := 0) rfl rfl
    refine pE_i (va_runV (As := [.int p1, .int x3]) (rest := [.ref a_])  ⟨hx, hb, hml, hown, hts⟩ (f_X4_sortOf l E z9 (a_ := a_scripts) (a_steps := a_scripts_steps) (a_counts := a_scripts_counts) (p1 := p1) (p2 := x3) (c_held := c_scripts_held) (c_steps := c_scripts_steps) (c_counts := c_scripts_counts) hc_13) (cwV 2 hts g_f_X7_perform_f_X4_sortOf_299 rfl rfl rfl hd_X4_sortOf ⟨Nat.le_of_ble_eq_true rfl, Nat.le_of_ble_eq_true rfl⟩) ⟨qPZ.blind, hrc, (qPZ.pre ⟨hK, hN⟩ hPc hZ hS)⟩ rfl rfl hl.1 rfl (lv_room (Nat.le_of_ble_eq_true rfl)) dX7_perform_46 ⟨Nat.le_of_ble_eq_true rfl, Nat.le_of_ble_eq_true rfl⟩) ?_
    refine lv_aload_n hx hb dX7_perform_49 rfl (lv_at hl 0 rfl) ?_
    refine gt_X7_2 (v := .ref a_scripts) hx hb hts i_f_X7_perform_X7 hown hK hP 0 rfl (hts (.fieldLink RX7 28 "HushWatch" "scripts" "LHushWatch$Scripts;") (List.mem_of_getElem? (i := 1) rfl)) rfl dX7_perform_50 ?_
    refine lv_iload_n hx hb dX7_perform_53 rfl (lv_at hl 1 rfl) ?_
    refine lv_iload_n hx hb dX7_perform_54 rfl (lv_at hl 3 rfl) ?_
    refine lv_iconst (v := 1) hx hb dX7_perform_55 (by decide) ?_
    replace hF := bd1_s hF
    obtain ⟨r_14, hc_15, hF⟩ := hF
    have hPc : va_P E.1 vwCl (w_X4_read E a_scripts a_scripts_steps a_scripts_counts c_scripts_held c_scripts_steps c_scripts_counts) H := hP.sub (ws' := [(a_scripts, .inr (5, [.ref a_scripts_steps, .ref a_scripts_counts, .int c_scripts_held])), (a_scripts_steps, .inl (E.2.1, 192, .inl c_scripts_steps)), (a_scripts_counts, .inl (E.2.1, 4, .inl c_scripts_counts))]) [1, 2, 3] rfl
    have hrc := va_recv hK hPc (ci := 5) (q0 := 0) rfl rfl
    refine pE_i (va_runV (As := [.int p1, .int x3, .int (1 : Int32)]) (rest := [.int r_12, .ref a_])  ⟨hx, hb, hml, hown, hts⟩ (f_X4_read l E (a_ := a_scripts) (a_steps := a_scripts_steps) (a_counts := a_scripts_counts) (p1 := p1) (p2 := x3) (p3 := (1 : Int32)) (c_held := c_scripts_held) (c_steps := c_scripts_steps) (c_counts := c_scripts_counts) hc_15) (cwV 3 hts g_f_X7_perform_f_X4_read_288 rfl rfl rfl hd_X4_read ⟨Nat.le_of_ble_eq_true rfl, Nat.le_of_ble_eq_true rfl⟩) ⟨pP.blind, hrc, (pP.pre ⟨hK, hN⟩ hPc)⟩ rfl rfl hl.1 rfl (lv_room (Nat.le_of_ble_eq_true rfl)) dX7_perform_56 ⟨Nat.le_of_ble_eq_true rfl, Nat.le_of_ble_eq_true rfl⟩) ?_
    refine lv_aload_n hx hb dX7_perform_59 rfl (lv_at hl 0 rfl) ?_
    refine gt_X7_2 (v := .ref a_scripts) hx hb hts i_f_X7_perform_X7 hown hK hP 0 rfl (hts (.fieldLink RX7 28 "HushWatch" "scripts" "LHushWatch$Scripts;") (List.mem_of_getElem? (i := 1) rfl)) rfl dX7_perform_60 ?_
    refine lv_iload_n hx hb dX7_perform_63 rfl (lv_at hl 1 rfl) ?_
    refine lv_iload_n hx hb dX7_perform_64 rfl (lv_at hl 3 rfl) ?_
    refine lv_iconst (v := 2) hx hb dX7_perform_65 (by decide) ?_
    replace hF := bd1_s hF
    obtain ⟨r_16, hc_17, hF⟩ := hF
    have hPc : va_P E.1 vwCl (w_X4_read E a_scripts a_scripts_steps a_scripts_counts c_scripts_held c_scripts_steps c_scripts_counts) H := hP.sub (ws' := [(a_scripts, .inr (5, [.ref a_scripts_steps, .ref a_scripts_counts, .int c_scripts_held])), (a_scripts_steps, .inl (E.2.1, 192, .inl c_scripts_steps)), (a_scripts_counts, .inl (E.2.1, 4, .inl c_scripts_counts))]) [1, 2, 3] rfl
    have hrc := va_recv hK hPc (ci := 5) (q0 := 0) rfl rfl
    refine pE_i (va_runV (As := [.int p1, .int x3, .int (2 : Int32)]) (rest := [.int r_14, .int r_12, .ref a_])  ⟨hx, hb, hml, hown, hts⟩ (f_X4_read l E (a_ := a_scripts) (a_steps := a_scripts_steps) (a_counts := a_scripts_counts) (p1 := p1) (p2 := x3) (p3 := (2 : Int32)) (c_held := c_scripts_held) (c_steps := c_scripts_steps) (c_counts := c_scripts_counts) hc_17) (cwV 3 hts g_f_X7_perform_f_X4_read_288 rfl rfl rfl hd_X4_read ⟨Nat.le_of_ble_eq_true rfl, Nat.le_of_ble_eq_true rfl⟩) ⟨pP.blind, hrc, (pP.pre ⟨hK, hN⟩ hPc)⟩ rfl rfl hl.1 rfl (lv_room (Nat.le_of_ble_eq_true rfl)) dX7_perform_66 ⟨Nat.le_of_ble_eq_true rfl, Nat.le_of_ble_eq_true rfl⟩) ?_
    refine lv_aload_n hx hb dX7_perform_69 rfl (lv_at hl 0 rfl) ?_
    refine gt_X7_2 (v := .ref a_scripts) hx hb hts i_f_X7_perform_X7 hown hK hP 0 rfl (hts (.fieldLink RX7 28 "HushWatch" "scripts" "LHushWatch$Scripts;") (List.mem_of_getElem? (i := 1) rfl)) rfl dX7_perform_70 ?_
    refine lv_iload_n hx hb dX7_perform_73 rfl (lv_at hl 1 rfl) ?_
    refine lv_iload_n hx hb dX7_perform_74 rfl (lv_at hl 3 rfl) ?_
    refine lv_iconst (v := 3) hx hb dX7_perform_75 (by decide) ?_
    replace hF := bd1_s hF
    obtain ⟨r_18, hc_19, hF⟩ := hF
    have hPc : va_P E.1 vwCl (w_X4_read E a_scripts a_scripts_steps a_scripts_counts c_scripts_held c_scripts_steps c_scripts_counts) H := hP.sub (ws' := [(a_scripts, .inr (5, [.ref a_scripts_steps, .ref a_scripts_counts, .int c_scripts_held])), (a_scripts_steps, .inl (E.2.1, 192, .inl c_scripts_steps)), (a_scripts_counts, .inl (E.2.1, 4, .inl c_scripts_counts))]) [1, 2, 3] rfl
    have hrc := va_recv hK hPc (ci := 5) (q0 := 0) rfl rfl
    refine pE_i (va_runV (As := [.int p1, .int x3, .int (3 : Int32)]) (rest := [.int r_16, .int r_14, .int r_12, .ref a_])  ⟨hx, hb, hml, hown, hts⟩ (f_X4_read l E (a_ := a_scripts) (a_steps := a_scripts_steps) (a_counts := a_scripts_counts) (p1 := p1) (p2 := x3) (p3 := (3 : Int32)) (c_held := c_scripts_held) (c_steps := c_scripts_steps) (c_counts := c_scripts_counts) hc_19) (cwV 3 hts g_f_X7_perform_f_X4_read_288 rfl rfl rfl hd_X4_read ⟨Nat.le_of_ble_eq_true rfl, Nat.le_of_ble_eq_true rfl⟩) ⟨pP.blind, hrc, (pP.pre ⟨hK, hN⟩ hPc)⟩ rfl rfl hl.1 rfl (lv_room (Nat.le_of_ble_eq_true rfl)) dX7_perform_76 ⟨Nat.le_of_ble_eq_true rfl, Nat.le_of_ble_eq_true rfl⟩) ?_
    refine lv_iconst (v := 0) hx hb dX7_perform_79 (by decide) ?_
    replace hF := bd12_s hF
    obtain ⟨r_20, w_21, w_22, w_23, w_24, w_25, w_26, w_27, w_28, w_29, w_30, w_31, hc_32, hF⟩ := hF
    obtain ⟨hPc, hDc, hFc⟩ := wcut (wc := (w_X7_act E a_ a_tape a_reader a_scripts a_now a_trial a_kept a_book a_keptBook a_history a_draws a_refused a_now_row a_now_partners a_now_share a_now_leftOver a_book_lines a_history_rows c_hasImage c_now_askedCount c_now_outcome c_now_row c_now_partners c_now_share c_now_leftOver c_book_lines c_history_next c_history_held c_history_rows c_refused)) hP hD hS hA [0, 4, 5, 6, 7, 8, 9, 10, 11, 12, 13] (by decide) rfl
    have hrc := va_recv hK hPc (ci := 8) (q0 := 0) rfl rfl
    refine cE_i (wc := (w_X7_act E a_ a_tape a_reader a_scripts a_now a_trial a_kept a_book a_keptBook a_history a_draws a_refused a_now_row a_now_partners a_now_share a_now_leftOver a_book_lines a_history_rows c_hasImage c_now_askedCount c_now_outcome c_now_row c_now_partners c_now_share c_now_leftOver c_book_lines c_history_next c_history_held c_history_rows c_refused)) (wr := [(a_scripts, .inr (5, [.ref a_scripts_steps, .ref a_scripts_counts, .int c_scripts_held])), (a_scripts_steps, .inl (E.2.1, 192, .inl c_scripts_steps)), (a_scripts_counts, .inl (E.2.1, 4, .inl c_scripts_counts))]) (w1 := (w_X7_act E a_ a_tape a_reader a_scripts a_now a_trial a_kept a_book a_keptBook a_history a_draws a_refused a_now_row a_now_partners a_now_share a_now_leftOver a_book_lines a_history_rows c_hasImage w_23 w_24 w_21 w_22 w_25 w_26 w_27 w_29 w_30 w_28 w_31)) (va_runV (As := [.int r_12, .int r_14, .int r_16, .int r_18, .int (0 : Int32)]) (rest := [])  ⟨hx, hb, hml, hown, hts⟩ (f_X7_act l E H.size K (a_ := a_) (a_tape := a_tape) (a_reader := a_reader) (a_scripts := a_scripts) (a_now := a_now) (a_trial := a_trial) (a_kept := a_kept) (a_book := a_book) (a_keptBook := a_keptBook) (a_history := a_history) (a_draws := a_draws) (a_refused := a_refused) (a_now_row := a_now_row) (a_now_partners := a_now_partners) (a_now_share := a_now_share) (a_now_leftOver := a_now_leftOver) (a_book_lines := a_book_lines) (a_history_rows := a_history_rows) (p1 := r_12) (p2 := r_14) (p3 := r_16) (p4 := r_18) (p5 := (0 : Int32)) (c_hasImage := c_hasImage) (c_now_askedCount := c_now_askedCount) (c_now_outcome := c_now_outcome) (c_now_row := c_now_row) (c_now_partners := c_now_partners) (c_now_share := c_now_share) (c_now_leftOver := c_now_leftOver) (c_book_lines := c_book_lines) (c_history_next := c_history_next) (c_history_held := c_history_held) (c_history_rows := c_history_rows) (c_refused := c_refused) hc_32) (cwV 5 hts g_f_X7_perform_f_X7_act_163 rfl rfl rfl hd_X7_act ⟨Nat.le_of_ble_eq_true rfl, Nat.le_of_ble_eq_true rfl⟩) ⟨pW.blind, hrc, (pW.pre ⟨hK, hN⟩ hPc hDc)⟩ rfl rfl hl.1 rfl (lv_room (Nat.le_of_ble_eq_true rfl)) dX7_perform_80 ⟨Nat.le_of_ble_eq_true rfl, Nat.le_of_ble_eq_true rfl⟩) hS hFc hP hD [0, 4, 5, 6, 7, 8, 9, 10, 11, 12, 13] [1, 2, 3] rfl rfl (by decide) (by decide) (fun H locs hP hD hS => ?_)
    replace hP : va_P E.1 vwCl [(a_scripts, .inr (5, [.ref a_scripts_steps, .ref a_scripts_counts, .int c_scripts_held])), (a_scripts_steps, .inl (E.2.1, 192, .inl c_scripts_steps)), (a_scripts_counts, .inl (E.2.1, 4, .inl c_scripts_counts)), (a_, .inr (8, [.ref a_tape, .ref a_reader, .ref a_scripts, .ref a_now, .ref a_trial, .ref a_kept, .ref a_book, .ref a_keptBook, .ref a_history, .ref a_draws, .ref a_refused, .int c_hasImage])), (a_now, .inr (6, [.ref a_now_row, .ref a_now_partners, .int w_23, .int w_24, .ref a_now_share, .ref a_now_leftOver])), (a_now_row, .inl (E.2.1, 81, .inl w_21)), (a_now_partners, .inl (E.2.1, 8, .inl w_22)), (a_now_share, .inl (E.2.1, 2, .inl w_25)), (a_now_leftOver, .inl (E.2.1, 2, .inl w_26)), (a_book, .inr (1, [.ref a_book_lines])), (a_book_lines, .inl (E.2.1, 300, .inl w_27)), (a_history, .inr (3, [.ref a_history_rows, .int w_29, .int w_30])), (a_history_rows, .inl (E.2.1, 3240, .inl w_28)), (a_refused, .inl (E.2.1, 3, .inl w_31))] H := hP
    replace hD : va_D A [(a_scripts, .inr (5, [.ref a_scripts_steps, .ref a_scripts_counts, .int c_scripts_held])), (a_scripts_steps, .inl (E.2.1, 192, .inl c_scripts_steps)), (a_scripts_counts, .inl (E.2.1, 4, .inl c_scripts_counts)), (a_, .inr (8, [.ref a_tape, .ref a_reader, .ref a_scripts, .ref a_now, .ref a_trial, .ref a_kept, .ref a_book, .ref a_keptBook, .ref a_history, .ref a_draws, .ref a_refused, .int c_hasImage])), (a_now, .inr (6, [.ref a_now_row, .ref a_now_partners, .int w_23, .int w_24, .ref a_now_share, .ref a_now_leftOver])), (a_now_row, .inl (E.2.1, 81, .inl w_21)), (a_now_partners, .inl (E.2.1, 8, .inl w_22)), (a_now_share, .inl (E.2.1, 2, .inl w_25)), (a_now_leftOver, .inl (E.2.1, 2, .inl w_26)), (a_book, .inr (1, [.ref a_book_lines])), (a_book_lines, .inl (E.2.1, 300, .inl w_27)), (a_history, .inr (3, [.ref a_history_rows, .int w_29, .int w_30])), (a_history_rows, .inl (E.2.1, 3240, .inl w_28)), (a_refused, .inl (E.2.1, 3, .inl w_31))] := hD
    refine lv_istore (lv' := [(4, .int r_20), (0, .ref a_), (1, .int p1), (2, .int x2), (3, .int x3)]) hx hb dX7_perform_83 hl (by decide) rfl (fun ls hl => ?_)
    refine lv_iload hx hb dX7_perform_85 (lv_at hl 0 rfl) ?_
    refine lv_iconst (v := -1) hx hb dX7_perform_87 (by decide) ?_
    refine lv_icmp_ne (tgt := 93) hx hb dX7_perform_88 (by decide) (fun c_33 => ?_) (fun c_33 => ?_)
    ·
      replace hF := inn c_33 hF
      refine lv_iinc (v := x3 + (1 : Int32)) (lv' := [(3, .int (x3 + (1 : Int32))), (4, .int r_20), (0, .ref a_), (1, .int p1), (2, .int x2)]) hx hb dX7_perform_93 hl (k := 4) rfl (rfl) (by decide) rfl (fun ls hl => ?_)
      refine lv_goto (tgt := 34) hx hb dX7_perform_96 (by decide) ?_
      cases hF
      exact hC (x3 + (1 : Int32)) w_21 w_22 w_23 w_24 w_25 w_26 w_27 w_28 w_29 w_30 w_31 rfl H locs ls (hP.sub [3, 0, 1, 2, 4, 5, 6, 7, 8, 9, 10, 11, 12, 13] rfl) (hD.sub [3, 0, 1, 2, 4, 5, 6, 7, 8, 9, 10, 11, 12, 13] (by decide) rfl) hS (lv_sub hl [2, 3, 4, 0] rfl)
    ·
      replace hF := ip c_33 hF
      cases hF
      exact (hE 0 x3 w_21 w_22 w_23 w_24 w_25 w_26 w_27 w_28 w_29 w_30 w_31 rfl).1 rfl H locs ls (hP.sub [3, 0, 1, 2, 4, 5, 6, 7, 8, 9, 10, 11, 12, 13] rfl) (hD.sub [3, 0, 1, 2, 4, 5, 6, 7, 8, 9, 10, 11, 12, 13] (by decide) rfl) hS (lv_sub hl [4] rfl)

set_option maxHeartbeats 4000000 in
set_option maxRecDepth 100000 in
theorem lw_X7_perform_34 {p : Program} (l : Launch) {e : Env} {s : State} {m : MethodId} {below : List Frame} {meth : Method} {c : Code} {Q : State → Prop} (E : EE) (K : Nat) {z9 : Nat → Nat} {a_ a_tape a_reader a_scripts a_now a_trial a_kept a_book a_keptBook a_history a_draws a_refused a_scripts_steps a_scripts_counts a_now_row a_now_partners a_now_share a_now_leftOver a_book_lines a_history_rows : Nat} {p1 : Int32} {c_hasImage : Int32} {c_scripts_held : Int32} {c_scripts_steps : Nat → Int32} {c_scripts_counts : Nat → Int32} {x2 : Int32} (hx : p.tables.exec = Jvm.exec) (hb : c.code = cX7_perform) (hml : c.maxLocals = 5) (hown : s.vm.findClass RX7 = some m.cls) (hts : ∀ w ∈ v_f_X7_perform, w.before #[Value.ref a_, Value.int p1] s = true) (hK : va_K E.1 vwCl (TY E) s) (hN : NX s) {A : Nat → Prop} (hA : ∀ q : Nat, s.heap.size ≤ q → A q) (hZ : ZZ z9 A s s.heap) (j9 : Nat) (x3 : Int32) (c_now_row : Nat → Int32) (c_now_partners : Nat → Int32) (c_now_askedCount : Int32) (c_now_outcome : Int32) (c_now_share : Nat → Int32) (c_now_leftOver : Nat → Int32) (c_book_lines : Nat → Int32) (c_history_rows : Nat → Int32) (c_history_next : Int32) (c_history_held : Int32) (c_refused : Nat → Int32) (t9' : Nat) (x3' : Int32) (c_now_row' : Nat → Int32) (c_now_partners' : Nat → Int32) (c_now_askedCount' : Int32) (c_now_outcome' : Int32) (c_now_share' : Nat → Int32) (c_now_leftOver' : Nat → Int32) (c_book_lines' : Nat → Int32) (c_history_rows' : Nat → Int32) (c_history_next' : Int32) (c_history_held' : Int32) (c_refused' : Nat → Int32) (hL : lpF (fun u9 : Int32 × (Nat → Int32) × (Nat → Int32) × Int32 × Int32 × (Nat → Int32) × (Nat → Int32) × (Nat → Int32) × (Nat → Int32) × Int32 × Int32 × (Nat → Int32) => B_X7_perform_34 K p1 c_scripts_held c_scripts_steps c_scripts_counts x2 u9.1 u9.2.1 u9.2.2.1 u9.2.2.2.1 u9.2.2.2.2.1 u9.2.2.2.2.2.1 u9.2.2.2.2.2.2.1 u9.2.2.2.2.2.2.2.1 u9.2.2.2.2.2.2.2.2.1 u9.2.2.2.2.2.2.2.2.2.1 u9.2.2.2.2.2.2.2.2.2.2.1 u9.2.2.2.2.2.2.2.2.2.2.2) j9 (x3, c_now_row, c_now_partners, c_now_askedCount, c_now_outcome, c_now_share, c_now_leftOver, c_book_lines, c_history_rows, c_history_next, c_history_held, c_refused) = some (t9', x3', c_now_row', c_now_partners', c_now_askedCount', c_now_outcome', c_now_share', c_now_leftOver', c_book_lines', c_history_rows', c_history_next', c_history_held', c_refused')) (hX : (t9' = 0 → ∀ (H : Heap) (locs : List Loc) (ls : Array Slot), va_P E.1 vwCl (w_X7_perform E a_ a_tape a_reader a_scripts a_now a_trial a_kept a_book a_keptBook a_history a_draws a_refused a_scripts_steps a_scripts_counts a_now_row a_now_partners a_now_share a_now_leftOver a_book_lines a_history_rows c_hasImage c_scripts_held c_scripts_steps c_scripts_counts c_now_askedCount' c_now_outcome' c_now_row' c_now_partners' c_now_share' c_now_leftOver' c_book_lines' c_history_next' c_history_held' c_history_rows' c_refused') H → va_D A (w_X7_perform E a_ a_tape a_reader a_scripts a_now a_trial a_kept a_book a_keptBook a_history a_draws a_refused a_scripts_steps a_scripts_counts a_now_row a_now_partners a_now_share a_now_leftOver a_book_lines a_history_rows c_hasImage c_scripts_held c_scripts_steps c_scripts_counts c_now_askedCount' c_now_outcome' c_now_row' c_now_partners' c_now_share' c_now_leftOver' c_book_lines' c_history_next' c_history_held' c_history_rows' c_refused') → va_S A s.heap H locs → lv_has ls 5 [(3, .int x3')] → W p l e ({ frames := 6, cells := 0, slots := 0, locals := 151 } : Room) s m #[Value.ref a_, Value.int p1] below meth c H locs 0 0 Q (F0 m 91 ls [])) ∧ (t9' = 1 → ∀ (H : Heap) (locs : List Loc) (ls : Array Slot), va_P E.1 vwCl (w_X7_perform E a_ a_tape a_reader a_scripts a_now a_trial a_kept a_book a_keptBook a_history a_draws a_refused a_scripts_steps a_scripts_counts a_now_row a_now_partners a_now_share a_now_leftOver a_book_lines a_history_rows c_hasImage c_scripts_held c_scripts_steps c_scripts_counts c_now_askedCount' c_now_outcome' c_now_row' c_now_partners' c_now_share' c_now_leftOver' c_book_lines' c_history_next' c_history_held' c_history_rows' c_refused') H → va_D A (w_X7_perform E a_ a_tape a_reader a_scripts a_now a_trial a_kept a_book a_keptBook a_history a_draws a_refused a_scripts_steps a_scripts_counts a_now_row a_now_partners a_now_share a_now_leftOver a_book_lines a_history_rows c_hasImage c_scripts_held c_scripts_steps c_scripts_counts c_now_askedCount' c_now_outcome' c_now_row' c_now_partners' c_now_share' c_now_leftOver' c_book_lines' c_history_next' c_history_held' c_history_rows' c_refused') → va_S A s.heap H locs → lv_has ls 5 [(2, .int x2)] → W p l e ({ frames := 6, cells := 0, slots := 0, locals := 151 } : Room) s m #[Value.ref a_, Value.int p1] below meth c H locs 0 0 Q (F0 m 99 ls []))) : ∀ (H : Heap) (locs : List Loc) (ls : Array Slot), va_P E.1 vwCl (w_X7_perform E a_ a_tape a_reader a_scripts a_now a_trial a_kept a_book a_keptBook a_history a_draws a_refused a_scripts_steps a_scripts_counts a_now_row a_now_partners a_now_share a_now_leftOver a_book_lines a_history_rows c_hasImage c_scripts_held c_scripts_steps c_scripts_counts c_now_askedCount c_now_outcome c_now_row c_now_partners c_now_share c_now_leftOver c_book_lines c_history_next c_history_held c_history_rows c_refused) H → va_D A (w_X7_perform E a_ a_tape a_reader a_scripts a_now a_trial a_kept a_book a_keptBook a_history a_draws a_refused a_scripts_steps a_scripts_counts a_now_row a_now_partners a_now_share a_now_leftOver a_book_lines a_history_rows c_hasImage c_scripts_held c_scripts_steps c_scripts_counts c_now_askedCount c_now_outcome c_now_row c_now_partners c_now_share c_now_leftOver c_book_lines c_history_next c_history_held c_history_rows c_refused) → va_S A s.heap H locs → lv_has ls 5 [(0, .ref a_), (1, .int p1), (2, .int x2), (3, .int x3)] → W p l e ({ frames := 6, cells := 0, slots := 0, locals := 151 } : Room) s m #[Value.ref a_, Value.int p1] below meth c H locs 0 0 Q (F0 m 34 ls []) := by
  exact lp_rule (P := (fun u9 : Int32 × (Nat → Int32) × (Nat → Int32) × Int32 × Int32 × (Nat → Int32) × (Nat → Int32) × (Nat → Int32) × (Nat → Int32) × Int32 × Int32 × (Nat → Int32) => ∀ (H : Heap) (locs : List Loc) (ls : Array Slot), va_P E.1 vwCl (w_X7_perform E a_ a_tape a_reader a_scripts a_now a_trial a_kept a_book a_keptBook a_history a_draws a_refused a_scripts_steps a_scripts_counts a_now_row a_now_partners a_now_share a_now_leftOver a_book_lines a_history_rows c_hasImage c_scripts_held c_scripts_steps c_scripts_counts u9.2.2.2.1 u9.2.2.2.2.1 u9.2.1 u9.2.2.1 u9.2.2.2.2.2.1 u9.2.2.2.2.2.2.1 u9.2.2.2.2.2.2.2.1 u9.2.2.2.2.2.2.2.2.2.1 u9.2.2.2.2.2.2.2.2.2.2.1 u9.2.2.2.2.2.2.2.2.1 u9.2.2.2.2.2.2.2.2.2.2.2) H → va_D A (w_X7_perform E a_ a_tape a_reader a_scripts a_now a_trial a_kept a_book a_keptBook a_history a_draws a_refused a_scripts_steps a_scripts_counts a_now_row a_now_partners a_now_share a_now_leftOver a_book_lines a_history_rows c_hasImage c_scripts_held c_scripts_steps c_scripts_counts u9.2.2.2.1 u9.2.2.2.2.1 u9.2.1 u9.2.2.1 u9.2.2.2.2.2.1 u9.2.2.2.2.2.2.1 u9.2.2.2.2.2.2.2.1 u9.2.2.2.2.2.2.2.2.2.1 u9.2.2.2.2.2.2.2.2.2.2.1 u9.2.2.2.2.2.2.2.2.1 u9.2.2.2.2.2.2.2.2.2.2.2) → va_S A s.heap H locs → lv_has ls 5 [(0, .ref a_), (1, .int p1), (2, .int x2), (3, .int u9.1)] → W p l e ({ frames := 6, cells := 0, slots := 0, locals := 151 } : Room) s m #[Value.ref a_, Value.int p1] below meth c H locs 0 0 Q (F0 m 34 ls []))) (R := (fun r9 : Nat × Int32 × (Nat → Int32) × (Nat → Int32) × Int32 × Int32 × (Nat → Int32) × (Nat → Int32) × (Nat → Int32) × (Nat → Int32) × Int32 × Int32 × (Nat → Int32) => (r9.1 = 0 → ∀ (H : Heap) (locs : List Loc) (ls : Array Slot), va_P E.1 vwCl (w_X7_perform E a_ a_tape a_reader a_scripts a_now a_trial a_kept a_book a_keptBook a_history a_draws a_refused a_scripts_steps a_scripts_counts a_now_row a_now_partners a_now_share a_now_leftOver a_book_lines a_history_rows c_hasImage c_scripts_held c_scripts_steps c_scripts_counts r9.2.2.2.2.1 r9.2.2.2.2.2.1 r9.2.2.1 r9.2.2.2.1 r9.2.2.2.2.2.2.1 r9.2.2.2.2.2.2.2.1 r9.2.2.2.2.2.2.2.2.1 r9.2.2.2.2.2.2.2.2.2.2.1 r9.2.2.2.2.2.2.2.2.2.2.2.1 r9.2.2.2.2.2.2.2.2.2.1 r9.2.2.2.2.2.2.2.2.2.2.2.2) H → va_D A (w_X7_perform E a_ a_tape a_reader a_scripts a_now a_trial a_kept a_book a_keptBook a_history a_draws a_refused a_scripts_steps a_scripts_counts a_now_row a_now_partners a_now_share a_now_leftOver a_book_lines a_history_rows c_hasImage c_scripts_held c_scripts_steps c_scripts_counts r9.2.2.2.2.1 r9.2.2.2.2.2.1 r9.2.2.1 r9.2.2.2.1 r9.2.2.2.2.2.2.1 r9.2.2.2.2.2.2.2.1 r9.2.2.2.2.2.2.2.2.1 r9.2.2.2.2.2.2.2.2.2.2.1 r9.2.2.2.2.2.2.2.2.2.2.2.1 r9.2.2.2.2.2.2.2.2.2.1 r9.2.2.2.2.2.2.2.2.2.2.2.2) → va_S A s.heap H locs → lv_has ls 5 [(3, .int r9.2.1)] → W p l e ({ frames := 6, cells := 0, slots := 0, locals := 151 } : Room) s m #[Value.ref a_, Value.int p1] below meth c H locs 0 0 Q (F0 m 91 ls [])) ∧ (r9.1 = 1 → ∀ (H : Heap) (locs : List Loc) (ls : Array Slot), va_P E.1 vwCl (w_X7_perform E a_ a_tape a_reader a_scripts a_now a_trial a_kept a_book a_keptBook a_history a_draws a_refused a_scripts_steps a_scripts_counts a_now_row a_now_partners a_now_share a_now_leftOver a_book_lines a_history_rows c_hasImage c_scripts_held c_scripts_steps c_scripts_counts r9.2.2.2.2.1 r9.2.2.2.2.2.1 r9.2.2.1 r9.2.2.2.1 r9.2.2.2.2.2.2.1 r9.2.2.2.2.2.2.2.1 r9.2.2.2.2.2.2.2.2.1 r9.2.2.2.2.2.2.2.2.2.2.1 r9.2.2.2.2.2.2.2.2.2.2.2.1 r9.2.2.2.2.2.2.2.2.2.1 r9.2.2.2.2.2.2.2.2.2.2.2.2) H → va_D A (w_X7_perform E a_ a_tape a_reader a_scripts a_now a_trial a_kept a_book a_keptBook a_history a_draws a_refused a_scripts_steps a_scripts_counts a_now_row a_now_partners a_now_share a_now_leftOver a_book_lines a_history_rows c_hasImage c_scripts_held c_scripts_steps c_scripts_counts r9.2.2.2.2.1 r9.2.2.2.2.2.1 r9.2.2.1 r9.2.2.2.1 r9.2.2.2.2.2.2.1 r9.2.2.2.2.2.2.2.1 r9.2.2.2.2.2.2.2.2.1 r9.2.2.2.2.2.2.2.2.2.2.1 r9.2.2.2.2.2.2.2.2.2.2.2.1 r9.2.2.2.2.2.2.2.2.2.1 r9.2.2.2.2.2.2.2.2.2.2.2.2) → va_S A s.heap H locs → lv_has ls 5 [(2, .int x2)] → W p l e ({ frames := 6, cells := 0, slots := 0, locals := 151 } : Room) s m #[Value.ref a_, Value.int p1] below meth c H locs 0 0 Q (F0 m 99 ls [])))) (fun u9 xx hF hC hE => wb_X7_perform_34 l E K (p1 := p1) (c_hasImage := c_hasImage) (c_scripts_held := c_scripts_held) (c_scripts_steps := c_scripts_steps) (c_scripts_counts := c_scripts_counts) (x2 := x2) (x3 := u9.1) (c_now_row := u9.2.1) (c_now_partners := u9.2.2.1) (c_now_askedCount := u9.2.2.2.1) (c_now_outcome := u9.2.2.2.2.1) (c_now_share := u9.2.2.2.2.2.1) (c_now_leftOver := u9.2.2.2.2.2.2.1) (c_book_lines := u9.2.2.2.2.2.2.2.1) (c_history_rows := u9.2.2.2.2.2.2.2.2.1) (c_history_next := u9.2.2.2.2.2.2.2.2.2.1) (c_history_held := u9.2.2.2.2.2.2.2.2.2.2.1) (c_refused := u9.2.2.2.2.2.2.2.2.2.2.2) hx hb hml hown hts hK hN hA hZ (fun x3 c_now_row c_now_partners c_now_askedCount c_now_outcome c_now_share c_now_leftOver c_book_lines c_history_rows c_history_next c_history_held c_refused q9 => hC _ q9) (fun t9 x3 c_now_row c_now_partners c_now_askedCount c_now_outcome c_now_share c_now_leftOver c_book_lines c_history_rows c_history_next c_history_held c_refused q9 => hE _ q9) hF) j9 (x3, c_now_row, c_now_partners, c_now_askedCount, c_now_outcome, c_now_share, c_now_leftOver, c_book_lines, c_history_rows, c_history_next, c_history_held, c_refused) (t9', x3', c_now_row', c_now_partners', c_now_askedCount', c_now_outcome', c_now_share', c_now_leftOver', c_book_lines', c_history_rows', c_history_next', c_history_held', c_refused') hL hX

set_option maxHeartbeats 4000000 in
set_option maxRecDepth 100000 in
theorem f_X7_perform (l : Launch) (E : EE) (sz : Nat) (K : Nat) (z9 : Nat → Nat) {a_ a_tape a_reader a_scripts a_now a_trial a_kept a_book a_keptBook a_history a_draws a_refused a_scripts_steps a_scripts_counts a_now_row a_now_partners a_now_share a_now_leftOver a_book_lines a_history_rows : Nat} {p1 : Int32} {c_hasImage : Int32} {c_scripts_held : Int32} {c_scripts_steps : Nat → Int32} {c_scripts_counts : Nat → Int32} {c_now_askedCount : Int32} {c_now_outcome : Int32} {c_now_row : Nat → Int32} {c_now_partners : Nat → Int32} {c_now_share : Nat → Int32} {c_now_leftOver : Nat → Int32} {c_book_lines : Nat → Int32} {c_history_next : Int32} {c_history_held : Int32} {c_history_rows : Nat → Int32} {c_refused : Nat → Int32} {rr : Int32} {n_now_row : Nat → Int32} {n_now_partners : Nat → Int32} {n_now_askedCount : Int32} {n_now_outcome : Int32} {n_now_share : Nat → Int32} {n_now_leftOver : Nat → Int32} {n_book_lines : Nat → Int32} {n_history_rows : Nat → Int32} {n_history_next : Int32} {n_history_held : Int32} {n_refused : Nat → Int32} (hF : F_X7_perform K p1 c_scripts_steps c_scripts_counts c_scripts_held c_now_row c_now_partners c_now_askedCount c_now_outcome c_now_share c_now_leftOver c_book_lines c_history_rows c_history_next c_history_held c_refused = some (rr, n_now_row, n_now_partners, n_now_askedCount, n_now_outcome, n_now_share, n_now_leftOver, n_book_lines, n_history_rows, n_history_next, n_history_held, n_refused)) : Met l yX7_perform v_f_X7_perform (({ frames := 6, cells := 0, slots := 0, locals := 151 } : Room)) (va_Pc [.ref a_, .int p1] (qWZ E z9 sz (w_X7_perform E a_ a_tape a_reader a_scripts a_now a_trial a_kept a_book a_keptBook a_history a_draws a_refused a_scripts_steps a_scripts_counts a_now_row a_now_partners a_now_share a_now_leftOver a_book_lines a_history_rows c_hasImage c_scripts_held c_scripts_steps c_scripts_counts c_now_askedCount c_now_outcome c_now_row c_now_partners c_now_share c_now_leftOver c_book_lines c_history_next c_history_held c_history_rows c_refused))) (va_Qi (fun (q : Int32) (_u : Unit) => q = rr) (fun (_u : Unit) tt => va_P E.1 vwCl (w_X7_perform E a_ a_tape a_reader a_scripts a_now a_trial a_kept a_book a_keptBook a_history a_draws a_refused a_scripts_steps a_scripts_counts a_now_row a_now_partners a_now_share a_now_leftOver a_book_lines a_history_rows c_hasImage c_scripts_held c_scripts_steps c_scripts_counts n_now_askedCount n_now_outcome n_now_row n_now_partners n_now_share n_now_leftOver n_book_lines n_history_next n_history_held n_history_rows n_refused) tt.heap ∧ va_D (va_A (w_X7_perform E a_ a_tape a_reader a_scripts a_now a_trial a_kept a_book a_keptBook a_history a_draws a_refused a_scripts_steps a_scripts_counts a_now_row a_now_partners a_now_share a_now_leftOver a_book_lines a_history_rows c_hasImage c_scripts_held c_scripts_steps c_scripts_counts c_now_askedCount c_now_outcome c_now_row c_now_partners c_now_share c_now_leftOver c_book_lines c_history_next c_history_held c_history_rows c_refused) sz) (w_X7_perform E a_ a_tape a_reader a_scripts a_now a_trial a_kept a_book a_keptBook a_history a_draws a_refused a_scripts_steps a_scripts_counts a_now_row a_now_partners a_now_share a_now_leftOver a_book_lines a_history_rows c_hasImage c_scripts_held c_scripts_steps c_scripts_counts n_now_askedCount n_now_outcome n_now_row n_now_partners n_now_share n_now_leftOver n_book_lines n_history_next n_history_held n_history_rows n_refused)) (va_A (w_X7_perform E a_ a_tape a_reader a_scripts a_now a_trial a_kept a_book a_keptBook a_history a_draws a_refused a_scripts_steps a_scripts_counts a_now_row a_now_partners a_now_share a_now_leftOver a_book_lines a_history_rows c_hasImage c_scripts_held c_scripts_steps c_scripts_counts c_now_askedCount c_now_outcome c_now_row c_now_partners c_now_share c_now_leftOver c_book_lines c_history_next c_history_held c_history_rows c_refused) sz)) 0 0 (va_A (w_X7_perform E a_ a_tape a_reader a_scripts a_now a_trial a_kept a_book a_keptBook a_history a_draws a_refused a_scripts_steps a_scripts_counts a_now_row a_now_partners a_now_share a_now_leftOver a_book_lines a_history_rows c_hasImage c_scripts_held c_scripts_steps c_scripts_counts c_now_askedCount c_now_outcome c_now_row c_now_partners c_now_share c_now_leftOver c_book_lines c_history_next c_history_held c_history_rows c_refused) sz) := by
  refine Met.ofW (cc := cX7_perform) (maxL := 5) (ret := (some .int)) (by decide) rfl ?_
  intro p e s m args below meth c s₁ B hml hv
  obtain ⟨rfl, hsz, ⟨hK, hN⟩, hP, hD0, hZ⟩ := hv
  have hx := B.exec
  have hb := B.bytes
  have hr := B.returns
  have hts := atoms_spec (ws := v_f_X7_perform) B.pre
  have hown : s.vm.findClass RX7 = some m.cls := own_of hd_X7_perform.1 (findClass_of_methodNamed B.named)
  have hlocks : meth.locks = false := B.notSynchronized
  subst hsz
  have hD := hD0.self (sz := s.heap.size)
  generalize hAe : va_A (w_X7_perform E a_ a_tape a_reader a_scripts a_now a_trial a_kept a_book a_keptBook a_history a_draws a_refused a_scripts_steps a_scripts_counts a_now_row a_now_partners a_now_share a_now_leftOver a_book_lines a_history_rows c_hasImage c_scripts_held c_scripts_steps c_scripts_counts c_now_askedCount c_now_outcome c_now_row c_now_partners c_now_share c_now_leftOver c_book_lines c_history_next c_history_held c_history_rows c_refused) s.heap.size = A at hD hZ ⊢
  have hA : ∀ q : Nat, s.heap.size ≤ q → A q := fun q h => by rw [← hAe]; exact Or.inr h
  have hS : va_S A s.heap s.heap [] := va_S.rf
  have hl := lv_entry ([.ref a_, .int p1]) (n := 5) (Nat.le_of_ble_eq_true rfl)
  rw [lg_entry_eq]
  generalize (lg_sl ([.ref a_, .int p1]) ++ List.replicate (5 - (lg_sl ([.ref a_, .int p1])).length) Slot.unset).toArray = ls at hl ⊢
  have hl : lv_has ls 5 [(0, .ref a_), (1, .int p1)] := hl
  obtain ⟨Q, hQ⟩ : ∃ Q : State → Prop, Q = MQ below (va_Qi (fun (q : Int32) (_u : Unit) => q = rr) (fun (_u : Unit) tt => va_P E.1 vwCl (w_X7_perform E a_ a_tape a_reader a_scripts a_now a_trial a_kept a_book a_keptBook a_history a_draws a_refused a_scripts_steps a_scripts_counts a_now_row a_now_partners a_now_share a_now_leftOver a_book_lines a_history_rows c_hasImage c_scripts_held c_scripts_steps c_scripts_counts n_now_askedCount n_now_outcome n_now_row n_now_partners n_now_share n_now_leftOver n_book_lines n_history_next n_history_held n_history_rows n_refused) tt.heap ∧ va_D A (w_X7_perform E a_ a_tape a_reader a_scripts a_now a_trial a_kept a_book a_keptBook a_history a_draws a_refused a_scripts_steps a_scripts_counts a_now_row a_now_partners a_now_share a_now_leftOver a_book_lines a_history_rows c_hasImage c_scripts_held c_scripts_steps c_scripts_counts n_now_askedCount n_now_outcome n_now_row n_now_partners n_now_share n_now_leftOver n_book_lines n_history_next n_history_held n_history_rows n_refused)) A) #[Value.ref a_, Value.int p1] s 0 0 A := ⟨_, rfl⟩
  rw [← hQ]
  change W p l e ({ frames := 6, cells := 0, slots := 0, locals := 151 } : Room) s m #[Value.ref a_, Value.int p1] below meth c s.heap [] 0 0 Q (F0 m 0 ls [])
  suffices hh9 : ∀ (H : Heap) (locs : List Loc), va_P E.1 vwCl (w_X7_perform E a_ a_tape a_reader a_scripts a_now a_trial a_kept a_book a_keptBook a_history a_draws a_refused a_scripts_steps a_scripts_counts a_now_row a_now_partners a_now_share a_now_leftOver a_book_lines a_history_rows c_hasImage c_scripts_held c_scripts_steps c_scripts_counts c_now_askedCount c_now_outcome c_now_row c_now_partners c_now_share c_now_leftOver c_book_lines c_history_next c_history_held c_history_rows c_refused) H → va_D A (w_X7_perform E a_ a_tape a_reader a_scripts a_now a_trial a_kept a_book a_keptBook a_history a_draws a_refused a_scripts_steps a_scripts_counts a_now_row a_now_partners a_now_share a_now_leftOver a_book_lines a_history_rows c_hasImage c_scripts_held c_scripts_steps c_scripts_counts c_now_askedCount c_now_outcome c_now_row c_now_partners c_now_share c_now_leftOver c_book_lines c_history_next c_history_held c_history_rows c_refused) → va_S A s.heap H locs → W p l e ({ frames := 6, cells := 0, slots := 0, locals := 151 } : Room) s m #[Value.ref a_, Value.int p1] below meth c H locs 0 0 Q (F0 m 0 ls []) from hh9 s.heap [] hP hD hS
  clear hP hD hS
  intro H locs hP hD hS
  replace hP : va_P E.1 vwCl [(a_, .inr (8, [.ref a_tape, .ref a_reader, .ref a_scripts, .ref a_now, .ref a_trial, .ref a_kept, .ref a_book, .ref a_keptBook, .ref a_history, .ref a_draws, .ref a_refused, .int c_hasImage])), (a_scripts, .inr (5, [.ref a_scripts_steps, .ref a_scripts_counts, .int c_scripts_held])), (a_scripts_steps, .inl (E.2.1, 192, .inl c_scripts_steps)), (a_scripts_counts, .inl (E.2.1, 4, .inl c_scripts_counts)), (a_now, .inr (6, [.ref a_now_row, .ref a_now_partners, .int c_now_askedCount, .int c_now_outcome, .ref a_now_share, .ref a_now_leftOver])), (a_now_row, .inl (E.2.1, 81, .inl c_now_row)), (a_now_partners, .inl (E.2.1, 8, .inl c_now_partners)), (a_now_share, .inl (E.2.1, 2, .inl c_now_share)), (a_now_leftOver, .inl (E.2.1, 2, .inl c_now_leftOver)), (a_book, .inr (1, [.ref a_book_lines])), (a_book_lines, .inl (E.2.1, 300, .inl c_book_lines)), (a_history, .inr (3, [.ref a_history_rows, .int c_history_next, .int c_history_held])), (a_history_rows, .inl (E.2.1, 3240, .inl c_history_rows)), (a_refused, .inl (E.2.1, 3, .inl c_refused))] H := hP
  replace hD : va_D A [(a_, .inr (8, [.ref a_tape, .ref a_reader, .ref a_scripts, .ref a_now, .ref a_trial, .ref a_kept, .ref a_book, .ref a_keptBook, .ref a_history, .ref a_draws, .ref a_refused, .int c_hasImage])), (a_scripts, .inr (5, [.ref a_scripts_steps, .ref a_scripts_counts, .int c_scripts_held])), (a_scripts_steps, .inl (E.2.1, 192, .inl c_scripts_steps)), (a_scripts_counts, .inl (E.2.1, 4, .inl c_scripts_counts)), (a_now, .inr (6, [.ref a_now_row, .ref a_now_partners, .int c_now_askedCount, .int c_now_outcome, .ref a_now_share, .ref a_now_leftOver])), (a_now_row, .inl (E.2.1, 81, .inl c_now_row)), (a_now_partners, .inl (E.2.1, 8, .inl c_now_partners)), (a_now_share, .inl (E.2.1, 2, .inl c_now_share)), (a_now_leftOver, .inl (E.2.1, 2, .inl c_now_leftOver)), (a_book, .inr (1, [.ref a_book_lines])), (a_book_lines, .inl (E.2.1, 300, .inl c_book_lines)), (a_history, .inr (3, [.ref a_history_rows, .int c_history_next, .int c_history_held])), (a_history_rows, .inl (E.2.1, 3240, .inl c_history_rows)), (a_refused, .inl (E.2.1, 3, .inl c_refused))] := hD
  unfold F_X7_perform at hF
  refine lv_aload_n hx hb dX7_perform_0 rfl (lv_at hl 0 rfl) ?_
  refine gt_X7_2 (v := .ref a_scripts) hx hb hts i_f_X7_perform_X7 hown hK hP 0 rfl (hts (.fieldLink RX7 28 "HushWatch" "scripts" "LHushWatch$Scripts;") (List.mem_of_getElem? (i := 1) rfl)) rfl dX7_perform_1 ?_
  refine lv_iload_n hx hb dX7_perform_4 rfl (lv_at hl 1 rfl) ?_
  replace hF := bd1_s hF
  obtain ⟨r_1, hc_2, hF⟩ := hF
  have hPc : va_P E.1 vwCl (w_X4_has E a_scripts a_scripts_steps a_scripts_counts c_scripts_held) H := hP.sub (ws' := [(a_scripts, .inr (5, [.ref a_scripts_steps, .ref a_scripts_counts, .int c_scripts_held]))]) [1] rfl
  have hrc := va_recv hK hPc (ci := 5) (q0 := 0) rfl rfl
  refine pE_z (va_runV (As := [.int p1]) (rest := [])  ⟨hx, hb, hml, hown, hts⟩ (f_X4_has l E (a_ := a_scripts) (a_steps := a_scripts_steps) (a_counts := a_scripts_counts) (p1 := p1) (c_held := c_scripts_held) hc_2) (cwV 1 hts g_f_X7_perform_f_X4_has_290 rfl rfl rfl hd_X4_has ⟨Nat.le_of_ble_eq_true rfl, Nat.le_of_ble_eq_true rfl⟩) ⟨pP.blind, hrc, (pP.pre ⟨hK, hN⟩ hPc)⟩ rfl rfl hl.1 rfl (lv_room (Nat.le_of_ble_eq_true rfl)) dX7_perform_5 ⟨Nat.le_of_ble_eq_true rfl, Nat.le_of_ble_eq_true rfl⟩) (fun hb_3 => ?_)
  refine lv_if_eq (tgt := 21) hx hb dX7_perform_8 (by decide) (fun c_4 => ?_) (fun c_4 => ?_)
  ·
    replace hF := ip c_4 hF
    refine lv_iconst (v := -1) hx hb dX7_perform_21 (by decide) ?_
    rw [hQ]
    have h9 := fin9 (P := fun u9 : Int32 × (Nat → Int32) × (Nat → Int32) × Int32 × Int32 × (Nat → Int32) × (Nat → Int32) × (Nat → Int32) × (Nat → Int32) × Int32 × Int32 × (Nat → Int32) => (-1 : Int32) = u9.1 ∧ va_P E.1 vwCl (w_X7_perform E a_ a_tape a_reader a_scripts a_now a_trial a_kept a_book a_keptBook a_history a_draws a_refused a_scripts_steps a_scripts_counts a_now_row a_now_partners a_now_share a_now_leftOver a_book_lines a_history_rows c_hasImage c_scripts_held c_scripts_steps c_scripts_counts u9.2.2.2.1 u9.2.2.2.2.1 u9.2.1 u9.2.2.1 u9.2.2.2.2.2.1 u9.2.2.2.2.2.2.1 u9.2.2.2.2.2.2.2.1 u9.2.2.2.2.2.2.2.2.2.1 u9.2.2.2.2.2.2.2.2.2.2.1 u9.2.2.2.2.2.2.2.2.1 u9.2.2.2.2.2.2.2.2.2.2.2) H ∧ va_D A (w_X7_perform E a_ a_tape a_reader a_scripts a_now a_trial a_kept a_book a_keptBook a_history a_draws a_refused a_scripts_steps a_scripts_counts a_now_row a_now_partners a_now_share a_now_leftOver a_book_lines a_history_rows c_hasImage c_scripts_held c_scripts_steps c_scripts_counts u9.2.2.2.1 u9.2.2.2.2.1 u9.2.1 u9.2.2.1 u9.2.2.2.2.2.1 u9.2.2.2.2.2.2.1 u9.2.2.2.2.2.2.2.1 u9.2.2.2.2.2.2.2.2.2.1 u9.2.2.2.2.2.2.2.2.2.2.1 u9.2.2.2.2.2.2.2.2.1 u9.2.2.2.2.2.2.2.2.2.2.2)) hF ⟨rfl, hP, hD⟩
    obtain ⟨e9_0, hP9, hD9⟩ := h9
    exact W.iret (v := (-1 : Int32)) hx hb hr (fun tt ht hW => ⟨⟨_, (), rfl, e9_0, ht ▸ hP9, hD9⟩, hS.F ht⟩) hS.2.2 dX7_perform_22
  ·
    replace hF := inn c_4 hF
    refine lv_aload_n hx hb dX7_perform_11 rfl (lv_at hl 0 rfl) ?_
    refine gt_X7_3 (v := .ref a_now) hx hb hts i_f_X7_perform_X7 hown hK hP 0 rfl (hts (.fieldLink RX7 35 "HushWatch" "now" "LHushWatch$State;") (List.mem_of_getElem? (i := 2) rfl)) rfl dX7_perform_12 ?_
    replace hF := bd1_s hF
    obtain ⟨r_5, hc_6, hF⟩ := hF
    have hPc : va_P E.1 vwCl (w_X5_stands E a_now a_now_row a_now_partners a_now_share a_now_leftOver c_now_askedCount c_now_outcome c_now_row) H := hP.sub (ws' := [(a_now, .inr (6, [.ref a_now_row, .ref a_now_partners, .int c_now_askedCount, .int c_now_outcome, .ref a_now_share, .ref a_now_leftOver])), (a_now_row, .inl (E.2.1, 81, .inl c_now_row))]) [4, 5] rfl
    have hrc := va_recv hK hPc (ci := 6) (q0 := 0) rfl rfl
    refine pE_z (va_runV (As := []) (rest := [])  ⟨hx, hb, hml, hown, hts⟩ (f_X5_stands l E (a_ := a_now) (a_row := a_now_row) (a_partners := a_now_partners) (a_share := a_now_share) (a_leftOver := a_now_leftOver) (c_askedCount := c_now_askedCount) (c_outcome := c_now_outcome) (c_row := c_now_row) hc_6) (cwV 0 hts g_f_X7_perform_f_X5_stands_110 rfl rfl rfl hd_X5_stands ⟨Nat.le_of_ble_eq_true rfl, Nat.le_of_ble_eq_true rfl⟩) ⟨pP.blind, hrc, (pP.pre ⟨hK, hN⟩ hPc)⟩ rfl rfl hl.1 rfl (lv_room (Nat.le_of_ble_eq_true rfl)) dX7_perform_15 ⟨Nat.le_of_ble_eq_true rfl, Nat.le_of_ble_eq_true rfl⟩) (fun hb_7 => ?_)
    refine lv_if_ne (tgt := 23) hx hb dX7_perform_18 (by decide) (fun c_8 => ?_) (fun c_8 => ?_)
    ·
      replace hF := inn c_8 hF
      refine lv_aload_n hx hb dX7_perform_23 rfl (lv_at hl 0 rfl) ?_
      refine gt_X7_2 (v := .ref a_scripts) hx hb hts i_f_X7_perform_X7 hown hK hP 0 rfl (hts (.fieldLink RX7 28 "HushWatch" "scripts" "LHushWatch$Scripts;") (List.mem_of_getElem? (i := 1) rfl)) rfl dX7_perform_24 ?_
      refine lv_iload_n hx hb dX7_perform_27 rfl (lv_at hl 1 rfl) ?_
      replace hF := bd1_s hF
      obtain ⟨r_9, hc_10, hF⟩ := hF
      have hPc : va_P E.1 vwCl (w_X4_stepsOf E a_scripts a_scripts_steps a_scripts_counts c_scripts_held c_scripts_counts) H := hP.sub (ws' := [(a_scripts, .inr (5, [.ref a_scripts_steps, .ref a_scripts_counts, .int c_scripts_held])), (a_scripts_counts, .inl (E.2.1, 4, .inl c_scripts_counts))]) [1, 3] rfl
      have hrc := va_recv hK hPc (ci := 5) (q0 := 0) rfl rfl
      refine pE_i (va_runV (As := [.int p1]) (rest := [])  ⟨hx, hb, hml, hown, hts⟩ (f_X4_stepsOf l E (a_ := a_scripts) (a_steps := a_scripts_steps) (a_counts := a_scripts_counts) (p1 := p1) (c_held := c_scripts_held) (c_counts := c_scripts_counts) hc_10) (cwV 1 hts g_f_X7_perform_f_X4_stepsOf_293 rfl rfl rfl hd_X4_stepsOf ⟨Nat.le_of_ble_eq_true rfl, Nat.le_of_ble_eq_true rfl⟩) ⟨pP.blind, hrc, (pP.pre ⟨hK, hN⟩ hPc)⟩ rfl rfl hl.1 rfl (lv_room (Nat.le_of_ble_eq_true rfl)) dX7_perform_28 ⟨Nat.le_of_ble_eq_true rfl, Nat.le_of_ble_eq_true rfl⟩) ?_
      refine lv_istore_n (lv' := [(2, .int r_9), (0, .ref a_), (1, .int p1)]) hx hb dX7_perform_31 rfl hl (by decide) rfl (fun ls hl => ?_)
      refine lv_iconst (v := 0) hx hb dX7_perform_32 (by decide) ?_
      refine lv_istore_n (lv' := [(3, .int (0 : Int32)), (2, .int r_9), (0, .ref a_), (1, .int p1)]) hx hb dX7_perform_33 rfl hl (by decide) rfl (fun ls hl => ?_)
      replace hF := bd13_s hF
      obtain ⟨t_34, x3_35, c_now_row_36, c_now_partners_37, c_now_askedCount_38, c_now_outcome_39, c_now_share_40, c_now_leftOver_41, c_book_lines_42, c_history_rows_43, c_history_next_44, c_history_held_45, c_refused_46, hL_47, hF⟩ := hF
      refine lw_X7_perform_34 l E K (p1 := p1) (c_hasImage := c_hasImage) (c_scripts_held := c_scripts_held) (c_scripts_steps := c_scripts_steps) (c_scripts_counts := c_scripts_counts) (x2 := r_9) hx hb hml hown hts hK hN hA hZ K (0 : Int32) c_now_row c_now_partners c_now_askedCount c_now_outcome c_now_share c_now_leftOver c_book_lines c_history_rows c_history_next c_history_held c_refused t_34 x3_35 c_now_row_36 c_now_partners_37 c_now_askedCount_38 c_now_outcome_39 c_now_share_40 c_now_leftOver_41 c_book_lines_42 c_history_rows_43 c_history_next_44 c_history_held_45 c_refused_46 hL_47 ⟨?_, ?_⟩ H locs ls (hP.sub [0, 1, 2, 3, 4, 5, 6, 7, 8, 9, 10, 11, 12, 13] rfl) (hD.sub [0, 1, 2, 3, 4, 5, 6, 7, 8, 9, 10, 11, 12, 13] (by decide) rfl) hS (lv_sub hl [2, 3, 1, 0] rfl)
      ·
        intro t9
        replace hF := ip t9 hF
        intro H locs ls hP hD hS hl
        replace hP : va_P E.1 vwCl [(a_, .inr (8, [.ref a_tape, .ref a_reader, .ref a_scripts, .ref a_now, .ref a_trial, .ref a_kept, .ref a_book, .ref a_keptBook, .ref a_history, .ref a_draws, .ref a_refused, .int c_hasImage])), (a_scripts, .inr (5, [.ref a_scripts_steps, .ref a_scripts_counts, .int c_scripts_held])), (a_scripts_steps, .inl (E.2.1, 192, .inl c_scripts_steps)), (a_scripts_counts, .inl (E.2.1, 4, .inl c_scripts_counts)), (a_now, .inr (6, [.ref a_now_row, .ref a_now_partners, .int c_now_askedCount_38, .int c_now_outcome_39, .ref a_now_share, .ref a_now_leftOver])), (a_now_row, .inl (E.2.1, 81, .inl c_now_row_36)), (a_now_partners, .inl (E.2.1, 8, .inl c_now_partners_37)), (a_now_share, .inl (E.2.1, 2, .inl c_now_share_40)), (a_now_leftOver, .inl (E.2.1, 2, .inl c_now_leftOver_41)), (a_book, .inr (1, [.ref a_book_lines])), (a_book_lines, .inl (E.2.1, 300, .inl c_book_lines_42)), (a_history, .inr (3, [.ref a_history_rows, .int c_history_next_44, .int c_history_held_45])), (a_history_rows, .inl (E.2.1, 3240, .inl c_history_rows_43)), (a_refused, .inl (E.2.1, 3, .inl c_refused_46))] H := hP
        replace hD : va_D A [(a_, .inr (8, [.ref a_tape, .ref a_reader, .ref a_scripts, .ref a_now, .ref a_trial, .ref a_kept, .ref a_book, .ref a_keptBook, .ref a_history, .ref a_draws, .ref a_refused, .int c_hasImage])), (a_scripts, .inr (5, [.ref a_scripts_steps, .ref a_scripts_counts, .int c_scripts_held])), (a_scripts_steps, .inl (E.2.1, 192, .inl c_scripts_steps)), (a_scripts_counts, .inl (E.2.1, 4, .inl c_scripts_counts)), (a_now, .inr (6, [.ref a_now_row, .ref a_now_partners, .int c_now_askedCount_38, .int c_now_outcome_39, .ref a_now_share, .ref a_now_leftOver])), (a_now_row, .inl (E.2.1, 81, .inl c_now_row_36)), (a_now_partners, .inl (E.2.1, 8, .inl c_now_partners_37)), (a_now_share, .inl (E.2.1, 2, .inl c_now_share_40)), (a_now_leftOver, .inl (E.2.1, 2, .inl c_now_leftOver_41)), (a_book, .inr (1, [.ref a_book_lines])), (a_book_lines, .inl (E.2.1, 300, .inl c_book_lines_42)), (a_history, .inr (3, [.ref a_history_rows, .int c_history_next_44, .int c_history_held_45])), (a_history_rows, .inl (E.2.1, 3240, .inl c_history_rows_43)), (a_refused, .inl (E.2.1, 3, .inl c_refused_46))] := hD
        refine lv_iload_n hx hb dX7_perform_91 rfl (lv_at hl 0 rfl) ?_
        rw [hQ]
        have h9 := fin9 (P := fun u9 : Int32 × (Nat → Int32) × (Nat → Int32) × Int32 × Int32 × (Nat → Int32) × (Nat → Int32) × (Nat → Int32) × (Nat → Int32) × Int32 × Int32 × (Nat → Int32) => x3_35 = u9.1 ∧ va_P E.1 vwCl (w_X7_perform E a_ a_tape a_reader a_scripts a_now a_trial a_kept a_book a_keptBook a_history a_draws a_refused a_scripts_steps a_scripts_counts a_now_row a_now_partners a_now_share a_now_leftOver a_book_lines a_history_rows c_hasImage c_scripts_held c_scripts_steps c_scripts_counts u9.2.2.2.1 u9.2.2.2.2.1 u9.2.1 u9.2.2.1 u9.2.2.2.2.2.1 u9.2.2.2.2.2.2.1 u9.2.2.2.2.2.2.2.1 u9.2.2.2.2.2.2.2.2.2.1 u9.2.2.2.2.2.2.2.2.2.2.1 u9.2.2.2.2.2.2.2.2.1 u9.2.2.2.2.2.2.2.2.2.2.2) H ∧ va_D A (w_X7_perform E a_ a_tape a_reader a_scripts a_now a_trial a_kept a_book a_keptBook a_history a_draws a_refused a_scripts_steps a_scripts_counts a_now_row a_now_partners a_now_share a_now_leftOver a_book_lines a_history_rows c_hasImage c_scripts_held c_scripts_steps c_scripts_counts u9.2.2.2.1 u9.2.2.2.2.1 u9.2.1 u9.2.2.1 u9.2.2.2.2.2.1 u9.2.2.2.2.2.2.1 u9.2.2.2.2.2.2.2.1 u9.2.2.2.2.2.2.2.2.2.1 u9.2.2.2.2.2.2.2.2.2.2.1 u9.2.2.2.2.2.2.2.2.1 u9.2.2.2.2.2.2.2.2.2.2.2)) hF ⟨rfl, hP, hD⟩
        obtain ⟨e9_0, hP9, hD9⟩ := h9
        exact W.iret (v := x3_35) hx hb hr (fun tt ht hW => ⟨⟨_, (), rfl, e9_0, ht ▸ hP9, hD9⟩, hS.F ht⟩) hS.2.2 dX7_perform_92
      ·
        intro t9
        replace hF := inn (show ¬ t_34 = 0 by omega) hF
        replace hF := ip t9 hF
        intro H locs ls hP hD hS hl
        replace hP : va_P E.1 vwCl [(a_, .inr (8, [.ref a_tape, .ref a_reader, .ref a_scripts, .ref a_now, .ref a_trial, .ref a_kept, .ref a_book, .ref a_keptBook, .ref a_history, .ref a_draws, .ref a_refused, .int c_hasImage])), (a_scripts, .inr (5, [.ref a_scripts_steps, .ref a_scripts_counts, .int c_scripts_held])), (a_scripts_steps, .inl (E.2.1, 192, .inl c_scripts_steps)), (a_scripts_counts, .inl (E.2.1, 4, .inl c_scripts_counts)), (a_now, .inr (6, [.ref a_now_row, .ref a_now_partners, .int c_now_askedCount_38, .int c_now_outcome_39, .ref a_now_share, .ref a_now_leftOver])), (a_now_row, .inl (E.2.1, 81, .inl c_now_row_36)), (a_now_partners, .inl (E.2.1, 8, .inl c_now_partners_37)), (a_now_share, .inl (E.2.1, 2, .inl c_now_share_40)), (a_now_leftOver, .inl (E.2.1, 2, .inl c_now_leftOver_41)), (a_book, .inr (1, [.ref a_book_lines])), (a_book_lines, .inl (E.2.1, 300, .inl c_book_lines_42)), (a_history, .inr (3, [.ref a_history_rows, .int c_history_next_44, .int c_history_held_45])), (a_history_rows, .inl (E.2.1, 3240, .inl c_history_rows_43)), (a_refused, .inl (E.2.1, 3, .inl c_refused_46))] H := hP
        replace hD : va_D A [(a_, .inr (8, [.ref a_tape, .ref a_reader, .ref a_scripts, .ref a_now, .ref a_trial, .ref a_kept, .ref a_book, .ref a_keptBook, .ref a_history, .ref a_draws, .ref a_refused, .int c_hasImage])), (a_scripts, .inr (5, [.ref a_scripts_steps, .ref a_scripts_counts, .int c_scripts_held])), (a_scripts_steps, .inl (E.2.1, 192, .inl c_scripts_steps)), (a_scripts_counts, .inl (E.2.1, 4, .inl c_scripts_counts)), (a_now, .inr (6, [.ref a_now_row, .ref a_now_partners, .int c_now_askedCount_38, .int c_now_outcome_39, .ref a_now_share, .ref a_now_leftOver])), (a_now_row, .inl (E.2.1, 81, .inl c_now_row_36)), (a_now_partners, .inl (E.2.1, 8, .inl c_now_partners_37)), (a_now_share, .inl (E.2.1, 2, .inl c_now_share_40)), (a_now_leftOver, .inl (E.2.1, 2, .inl c_now_leftOver_41)), (a_book, .inr (1, [.ref a_book_lines])), (a_book_lines, .inl (E.2.1, 300, .inl c_book_lines_42)), (a_history, .inr (3, [.ref a_history_rows, .int c_history_next_44, .int c_history_held_45])), (a_history_rows, .inl (E.2.1, 3240, .inl c_history_rows_43)), (a_refused, .inl (E.2.1, 3, .inl c_refused_46))] := hD
        refine lv_iload_n hx hb dX7_perform_99 rfl (lv_at hl 0 rfl) ?_
        rw [hQ]
        have h9 := fin9 (P := fun u9 : Int32 × (Nat → Int32) × (Nat → Int32) × Int32 × Int32 × (Nat → Int32) × (Nat → Int32) × (Nat → Int32) × (Nat → Int32) × Int32 × Int32 × (Nat → Int32) => r_9 = u9.1 ∧ va_P E.1 vwCl (w_X7_perform E a_ a_tape a_reader a_scripts a_now a_trial a_kept a_book a_keptBook a_history a_draws a_refused a_scripts_steps a_scripts_counts a_now_row a_now_partners a_now_share a_now_leftOver a_book_lines a_history_rows c_hasImage c_scripts_held c_scripts_steps c_scripts_counts u9.2.2.2.1 u9.2.2.2.2.1 u9.2.1 u9.2.2.1 u9.2.2.2.2.2.1 u9.2.2.2.2.2.2.1 u9.2.2.2.2.2.2.2.1 u9.2.2.2.2.2.2.2.2.2.1 u9.2.2.2.2.2.2.2.2.2.2.1 u9.2.2.2.2.2.2.2.2.1 u9.2.2.2.2.2.2.2.2.2.2.2) H ∧ va_D A (w_X7_perform E a_ a_tape a_reader a_scripts a_now a_trial a_kept a_book a_keptBook a_history a_draws a_refused a_scripts_steps a_scripts_counts a_now_row a_now_partners a_now_share a_now_leftOver a_book_lines a_history_rows c_hasImage c_scripts_held c_scripts_steps c_scripts_counts u9.2.2.2.1 u9.2.2.2.2.1 u9.2.1 u9.2.2.1 u9.2.2.2.2.2.1 u9.2.2.2.2.2.2.1 u9.2.2.2.2.2.2.2.1 u9.2.2.2.2.2.2.2.2.2.1 u9.2.2.2.2.2.2.2.2.2.2.1 u9.2.2.2.2.2.2.2.2.1 u9.2.2.2.2.2.2.2.2.2.2.2)) hF ⟨rfl, hP, hD⟩
        obtain ⟨e9_0, hP9, hD9⟩ := h9
        exact W.iret (v := r_9) hx hb hr (fun tt ht hW => ⟨⟨_, (), rfl, e9_0, ht ▸ hP9, hD9⟩, hS.F ht⟩) hS.2.2 dX7_perform_100
    ·
      replace hF := ip c_8 hF
      refine lv_iconst (v := -1) hx hb dX7_perform_21 (by decide) ?_
      rw [hQ]
      have h9 := fin9 (P := fun u9 : Int32 × (Nat → Int32) × (Nat → Int32) × Int32 × Int32 × (Nat → Int32) × (Nat → Int32) × (Nat → Int32) × (Nat → Int32) × Int32 × Int32 × (Nat → Int32) => (-1 : Int32) = u9.1 ∧ va_P E.1 vwCl (w_X7_perform E a_ a_tape a_reader a_scripts a_now a_trial a_kept a_book a_keptBook a_history a_draws a_refused a_scripts_steps a_scripts_counts a_now_row a_now_partners a_now_share a_now_leftOver a_book_lines a_history_rows c_hasImage c_scripts_held c_scripts_steps c_scripts_counts u9.2.2.2.1 u9.2.2.2.2.1 u9.2.1 u9.2.2.1 u9.2.2.2.2.2.1 u9.2.2.2.2.2.2.1 u9.2.2.2.2.2.2.2.1 u9.2.2.2.2.2.2.2.2.2.1 u9.2.2.2.2.2.2.2.2.2.2.1 u9.2.2.2.2.2.2.2.2.1 u9.2.2.2.2.2.2.2.2.2.2.2) H ∧ va_D A (w_X7_perform E a_ a_tape a_reader a_scripts a_now a_trial a_kept a_book a_keptBook a_history a_draws a_refused a_scripts_steps a_scripts_counts a_now_row a_now_partners a_now_share a_now_leftOver a_book_lines a_history_rows c_hasImage c_scripts_held c_scripts_steps c_scripts_counts u9.2.2.2.1 u9.2.2.2.2.1 u9.2.1 u9.2.2.1 u9.2.2.2.2.2.1 u9.2.2.2.2.2.2.1 u9.2.2.2.2.2.2.2.1 u9.2.2.2.2.2.2.2.2.2.1 u9.2.2.2.2.2.2.2.2.2.2.1 u9.2.2.2.2.2.2.2.2.1 u9.2.2.2.2.2.2.2.2.2.2.2)) hF ⟨rfl, hP, hD⟩
      obtain ⟨e9_0, hP9, hD9⟩ := h9
      exact W.iret (v := (-1 : Int32)) hx hb hr (fun tt ht hW => ⟨⟨_, (), rfl, e9_0, ht ▸ hP9, hD9⟩, hS.F ht⟩) hS.2.2 dX7_perform_22

def B_X7_race_46 (p1 : Int32) (p2 : Int32) (c_now_row : Nat → Int32) (x5 : Int32) (x4 : Int32) (x6 : Int32) : Option ((Int32 × Int32) ⊕ (Nat × Int32 × Int32)) :=
  bd1 (F_X5_sites c_now_row) (fun r_12 => if r_12 ≤ x6 then some (.inr (2, x4, x6)) else bd1 (F_X5_isFrozen x6 c_now_row) (fun r_15 => if r_15 = (0 : Int32) then bd1 (F_X5_hasRoom x6 (x5 * p1) (x5 * p2) c_now_row) (fun r_19 => if r_19 = (0 : Int32) then some (.inr (0, x4, x6)) else bd1 (F_X5_isQuietWith x6 (x5 * p1) (x5 * p2) c_now_row) (fun r_23 => if r_23 = (0 : Int32) then some (.inr (1, x4 + (1 : Int32), x6)) else some (.inl (x4 + (1 : Int32), x6 + (1 : Int32))))) else some (.inl (x4, x6 + (1 : Int32)))))
def B_X7_race_35 (K : Nat) (p1 : Int32) (p2 : Int32) (c_now_row : Nat → Int32) (x4 : Int32) (x5 : Int32) : Option ((Int32 × Int32) ⊕ (Nat × Int32 × Int32)) :=
  if (200 : Int32) < x5 then some (.inr (2, x4, (0 : Int32))) else bd3 (lpF (fun u9 : Int32 × Int32 => B_X7_race_46 p1 p2 c_now_row x5 u9.1 u9.2) K (x4, (0 : Int32))) (fun t_27 x4_28 x6_29 => if t_27 = 0 then some (.inr (0, (0 : Int32), (0 : Int32))) else if t_27 = 1 then some (.inr (1, x4_28, x6_29)) else if t_27 = 2 then some (.inl (x4_28, x5 + (1 : Int32))) else none)
def F_X7_race (K : Nat) (p1 : Int32) (p2 : Int32) (p3 : Int32) (c_now_row : Nat → Int32) : Option (Int32) :=
  bd1 (F_X5_stands c_now_row) (fun r_1 => if r_1 = (0 : Int32) then some (-1 : Int32) else bd1 (F_X7_isWay p1 p2) (fun r_5 => if r_5 = (0 : Int32) then some (-1 : Int32) else if p3 < (0 : Int32) then some (-1 : Int32) else if p3 ≤ (1 : Int32) then bd3 (lpF (fun u9 : Int32 × Int32 => B_X7_race_35 K p1 p2 c_now_row u9.1 u9.2) K ((0 : Int32), (1 : Int32))) (fun t_31 x4_32 x6_33 => if t_31 = 0 then some (-1 : Int32) else if t_31 = 1 then if p3 = (0 : Int32) then some x6_33 else some x4_32 else if t_31 = 2 then some (-1 : Int32) else none) else some (-1 : Int32)))
abbrev w_X7_race (E : EE) (a_ a_tape a_reader a_scripts a_now a_trial a_kept a_book a_keptBook a_history a_draws a_refused a_now_row a_now_partners a_now_share a_now_leftOver : Nat) (c_hasImage : Int32) (c_now_askedCount : Int32) (c_now_outcome : Int32) (c_now_row : Nat → Int32) : va_W := [(a_, .inr (8, [.ref a_tape, .ref a_reader, .ref a_scripts, .ref a_now, .ref a_trial, .ref a_kept, .ref a_book, .ref a_keptBook, .ref a_history, .ref a_draws, .ref a_refused, .int c_hasImage])), (a_now, .inr (6, [.ref a_now_row, .ref a_now_partners, .int c_now_askedCount, .int c_now_outcome, .ref a_now_share, .ref a_now_leftOver])), (a_now_row, .inl (E.2.1, 81, .inl c_now_row))]
def v_f_X7_race : List Cond := .code yX7_race cX7_race 7 (some .int) :: ([.fieldLink RX7 35 "HushWatch" "now" "LHushWatch$State;", .methodLink RX7 110 yX5_stands, .instanceMethod yX5_stands, .selects RX5 yX5_stands yX5_stands, .initialized RX5, .methodLink RX7 210 yX7_isWay, .static yX7_isWay, .initialized RX7, .methodLink RX7 117 yX5_sites, .instanceMethod yX5_sites, .selects RX5 yX5_sites yX5_sites, .methodLink RX7 143 yX5_isFrozen, .instanceMethod yX5_isFrozen, .selects RX5 yX5_isFrozen yX5_isFrozen, .methodLink RX7 213 yX5_hasRoom, .instanceMethod yX5_hasRoom, .selects RX5 yX5_hasRoom yX5_hasRoom, .methodLink RX7 217 yX5_isQuietWith, .instanceMethod yX5_isQuietWith, .selects RX5 yX5_isQuietWith yX5_isQuietWith] ++ (wsX70 ++ (v_f_X5_stands ++ (v_f_X7_isWay ++ (v_f_X5_sites ++ (v_f_X5_isFrozen ++ (v_f_X5_hasRoom ++ (v_f_X5_isQuietWith ++ ([])))))))))
theorem gw_f_X7_race : v_f_X7_race.all goodWord = true := by decide +kernel
theorem i_f_X7_race_X7 : ∀ w ∈ wsX70, w ∈ v_f_X7_race := fun _ h => List.mem_cons_of_mem _ (List.mem_append_right _ (List.mem_append_left _ h))
theorem g_f_X7_race_f_X5_stands_110 : GoodIn v_f_X7_race (wsV RX7 110 RX5 yX5_stands v_f_X5_stands) := goodIn_app (goodIn_of _ (by decide +kernel)) (goodIn_sub (fun _ h => List.mem_cons_of_mem _ (List.mem_append_right _ (List.mem_append_right _ (List.mem_append_left _ h)))) gw_f_X5_stands)
theorem g_f_X7_race_f_X7_isWay_210 : GoodIn v_f_X7_race (va_wsS RX7 210 yX7_isWay v_f_X7_isWay) := goodIn_app (goodIn_of _ (by decide +kernel)) (goodIn_sub (fun _ h => List.mem_cons_of_mem _ (List.mem_append_right _ (List.mem_append_right _ (List.mem_append_right _ (List.mem_append_left _ h))))) gw_f_X7_isWay)
theorem g_f_X7_race_f_X5_sites_117 : GoodIn v_f_X7_race (wsV RX7 117 RX5 yX5_sites v_f_X5_sites) := goodIn_app (goodIn_of _ (by decide +kernel)) (goodIn_sub (fun _ h => List.mem_cons_of_mem _ (List.mem_append_right _ (List.mem_append_right _ (List.mem_append_right _ (List.mem_append_right _ (List.mem_append_left _ h)))))) gw_f_X5_sites)
theorem g_f_X7_race_f_X5_isFrozen_143 : GoodIn v_f_X7_race (wsV RX7 143 RX5 yX5_isFrozen v_f_X5_isFrozen) := goodIn_app (goodIn_of _ (by decide +kernel)) (goodIn_sub (fun _ h => List.mem_cons_of_mem _ (List.mem_append_right _ (List.mem_append_right _ (List.mem_append_right _ (List.mem_append_right _ (List.mem_append_right _ (List.mem_append_left _ h))))))) gw_f_X5_isFrozen)
theorem g_f_X7_race_f_X5_hasRoom_213 : GoodIn v_f_X7_race (wsV RX7 213 RX5 yX5_hasRoom v_f_X5_hasRoom) := goodIn_app (goodIn_of _ (by decide +kernel)) (goodIn_sub (fun _ h => List.mem_cons_of_mem _ (List.mem_append_right _ (List.mem_append_right _ (List.mem_append_right _ (List.mem_append_right _ (List.mem_append_right _ (List.mem_append_right _ (List.mem_append_left _ h)))))))) gw_f_X5_hasRoom)
theorem g_f_X7_race_f_X5_isQuietWith_217 : GoodIn v_f_X7_race (wsV RX7 217 RX5 yX5_isQuietWith v_f_X5_isQuietWith) := goodIn_app (goodIn_of _ (by decide +kernel)) (goodIn_sub (fun _ h => List.mem_cons_of_mem _ (List.mem_append_right _ (List.mem_append_right _ (List.mem_append_right _ (List.mem_append_right _ (List.mem_append_right _ (List.mem_append_right _ (List.mem_append_right _ (List.mem_append_left _ h))))))))) gw_f_X5_isQuietWith)
theorem hd_X7_race : yX7_race.cls = RX7 ∧ yX7_race.cls ≠ "java/lang/invoke/MethodHandle" ∧ yX7_race.cls ≠ "java/lang/invoke/VarHandle" ∧ (parseMethodDescriptor yX7_race.desc).map (fun d => d.parameters.length) = some 3 := by decide +kernel
set_option maxHeartbeats 4000000 in
set_option maxRecDepth 100000 in
theorem wb_X7_race_46 {p : Program} (l : Launch) {e : Env} {s : State} {m : MethodId} {below : List Frame} {meth : Method} {c : Code} {Q : State → Prop} (E : EE) (K : Nat) {a_ a_tape a_reader a_scripts a_now a_trial a_kept a_book a_keptBook a_history a_draws a_refused a_now_row a_now_partners a_now_share a_now_leftOver : Nat} {p1 : Int32} {p2 : Int32} {p3 : Int32} {c_hasImage : Int32} {c_now_askedCount : Int32} {c_now_outcome : Int32} {c_now_row : Nat → Int32} {x4 : Int32} {x5 : Int32} {x6 : Int32} (hx : p.tables.exec = Jvm.exec) (hb : c.code = cX7_race) (hml : c.maxLocals = 7) (hown : s.vm.findClass RX7 = some m.cls) (hts : ∀ w ∈ v_f_X7_race, w.before #[Value.ref a_, Value.int p1, Value.int p2, Value.int p3] s = true) (hK : va_K E.1 vwCl (TY E) s) (hN : NX s) {xx : (Int32 × Int32) ⊕ (Nat × Int32 × Int32)} (hC : ∀ (x4 : Int32), ∀ (x6 : Int32), xx = .inl (x4, x6) → ∀ (ls : Array Slot), lv_has ls 7 [(0, .ref a_), (1, .int p1), (2, .int p2), (3, .int p3), (4, .int x4), (5, .int x5), (6, .int x6)] → W p l e ({ frames := 3, cells := 0, slots := 0, locals := 73 } : Room) s m #[Value.ref a_, Value.int p1, Value.int p2, Value.int p3] below meth c s.heap [] 0 0 Q (F0 m 46 ls [])) (hE : ∀ (t9 : Nat), ∀ (x4 : Int32), ∀ (x6 : Int32), xx = .inr (t9, x4, x6) → ((t9 = 0 → ∀ (ls : Array Slot), lv_has ls 7 [] → W p l e ({ frames := 3, cells := 0, slots := 0, locals := 73 } : Room) s m #[Value.ref a_, Value.int p1, Value.int p2, Value.int p3] below meth c s.heap [] 0 0 Q (F0 m 93 ls [])) ∧ (t9 = 1 → ∀ (ls : Array Slot), lv_has ls 7 [(3, .int p3), (4, .int x4), (6, .int x6)] → W p l e ({ frames := 3, cells := 0, slots := 0, locals := 73 } : Room) s m #[Value.ref a_, Value.int p1, Value.int p2, Value.int p3] below meth c s.heap [] 0 0 Q (F0 m 118 ls [])) ∧ (t9 = 2 → ∀ (ls : Array Slot), lv_has ls 7 [(0, .ref a_), (1, .int p1), (2, .int p2), (3, .int p3), (4, .int x4), (5, .int x5)] → W p l e ({ frames := 3, cells := 0, slots := 0, locals := 73 } : Room) s m #[Value.ref a_, Value.int p1, Value.int p2, Value.int p3] below meth c s.heap [] 0 0 Q (F0 m 136 ls [])))) (hF : B_X7_race_46 p1 p2 c_now_row x5 x4 x6 = some xx) (hP : va_P E.1 vwCl (w_X7_race E a_ a_tape a_reader a_scripts a_now a_trial a_kept a_book a_keptBook a_history a_draws a_refused a_now_row a_now_partners a_now_share a_now_leftOver c_hasImage c_now_askedCount c_now_outcome c_now_row) s.heap) : ∀ (ls : Array Slot), lv_has ls 7 [(0, .ref a_), (1, .int p1), (2, .int p2), (3, .int p3), (4, .int x4), (5, .int x5), (6, .int x6)] → W p l e ({ frames := 3, cells := 0, slots := 0, locals := 73 } : Room) s m #[Value.ref a_, Value.int p1, Value.int p2, Value.int p3] below meth c s.heap [] 0 0 Q (F0 m 46 ls []) := by
  unfold B_X7_race_46 at hF
  replace hP : va_P E.1 vwCl [(a_, .inr (8, [.ref a_tape, .ref a_reader, .ref a_scripts, .ref a_now, .ref a_trial, .ref a_kept, .ref a_book, .ref a_keptBook, .ref a_history, .ref a_draws, .ref a_refused, .int c_hasImage])), (a_now, .inr (6, [.ref a_now_row, .ref a_now_partners, .int c_now_askedCount, .int c_now_outcome, .ref a_now_share, .ref a_now_leftOver])), (a_now_row, .inl (E.2.1, 81, .inl c_now_row))] s.heap := hP
  intro ls hl
  refine lv_iload hx hb dX7_race_46 (lv_at hl 6 rfl) ?_
  refine lv_aload_n hx hb dX7_race_48 rfl (lv_at hl 0 rfl) ?_
  refine gt_X7_3 (v := .ref a_now) hx hb hts i_f_X7_race_X7 hown hK hP 0 rfl (hts (.fieldLink RX7 35 "HushWatch" "now" "LHushWatch$State;") (List.mem_of_getElem? (i := 1) rfl)) rfl dX7_race_49 ?_
  replace hF := bd1_s hF
  obtain ⟨r_12, hc_13, hF⟩ := hF
  have hPc : va_P E.1 vwCl (w_X5_sites E a_now a_now_row a_now_partners a_now_share a_now_leftOver c_now_askedCount c_now_outcome c_now_row) s.heap := hP.sub (ws' := [(a_now, .inr (6, [.ref a_now_row, .ref a_now_partners, .int c_now_askedCount, .int c_now_outcome, .ref a_now_share, .ref a_now_leftOver])), (a_now_row, .inl (E.2.1, 81, .inl c_now_row))]) [1, 2] rfl
  have hrc := va_recv hK hPc (ci := 6) (q0 := 0) rfl rfl
  refine pE_i (va_runV (As := []) (rest := [.int x6])  ⟨hx, hb, hml, hown, hts⟩ (f_X5_sites l E (a_ := a_now) (a_row := a_now_row) (a_partners := a_now_partners) (a_share := a_now_share) (a_leftOver := a_now_leftOver) (c_askedCount := c_now_askedCount) (c_outcome := c_now_outcome) (c_row := c_now_row) hc_13) (cwV 0 hts g_f_X7_race_f_X5_sites_117 rfl rfl rfl hd_X5_sites ⟨Nat.le_of_ble_eq_true rfl, Nat.le_of_ble_eq_true rfl⟩) ⟨pP.blind, hrc, (pP.pre ⟨hK, hN⟩ hPc)⟩ rfl rfl hl.1 rfl (lv_room (Nat.le_of_ble_eq_true rfl)) dX7_race_52 ⟨Nat.le_of_ble_eq_true rfl, Nat.le_of_ble_eq_true rfl⟩) ?_
  refine lv_icmp_ge (tgt := 136) hx hb dX7_race_55 (by decide) (fun c_14 => ?_) (fun c_14 => ?_)
  ·
    replace hF := ip c_14 hF
    cases hF
    exact (hE 2 x4 x6 rfl).2.2 rfl ls (lv_sub hl [0, 1, 2, 3, 4, 5] rfl)
  ·
    replace hF := inn c_14 hF
    refine lv_aload_n hx hb dX7_race_58 rfl (lv_at hl 0 rfl) ?_
    refine gt_X7_3 (v := .ref a_now) hx hb hts i_f_X7_race_X7 hown hK hP 0 rfl (hts (.fieldLink RX7 35 "HushWatch" "now" "LHushWatch$State;") (List.mem_of_getElem? (i := 1) rfl)) rfl dX7_race_59 ?_
    refine lv_iload hx hb dX7_race_62 (lv_at hl 6 rfl) ?_
    replace hF := bd1_s hF
    obtain ⟨r_15, hc_16, hF⟩ := hF
    have hPc : va_P E.1 vwCl (w_X5_isFrozen E a_now a_now_row a_now_partners a_now_share a_now_leftOver c_now_askedCount c_now_outcome c_now_row) s.heap := hP.sub (ws' := [(a_now, .inr (6, [.ref a_now_row, .ref a_now_partners, .int c_now_askedCount, .int c_now_outcome, .ref a_now_share, .ref a_now_leftOver])), (a_now_row, .inl (E.2.1, 81, .inl c_now_row))]) [1, 2] rfl
    have hrc := va_recv hK hPc (ci := 6) (q0 := 0) rfl rfl
    refine pE_z (va_runV (As := [.int x6]) (rest := [])  ⟨hx, hb, hml, hown, hts⟩ (f_X5_isFrozen l E (a_ := a_now) (a_row := a_now_row) (a_partners := a_now_partners) (a_share := a_now_share) (a_leftOver := a_now_leftOver) (p1 := x6) (c_askedCount := c_now_askedCount) (c_outcome := c_now_outcome) (c_row := c_now_row) hc_16) (cwV 1 hts g_f_X7_race_f_X5_isFrozen_143 rfl rfl rfl hd_X5_isFrozen ⟨Nat.le_of_ble_eq_true rfl, Nat.le_of_ble_eq_true rfl⟩) ⟨pP.blind, hrc, (pP.pre ⟨hK, hN⟩ hPc)⟩ rfl rfl hl.1 rfl (lv_room (Nat.le_of_ble_eq_true rfl)) dX7_race_64 ⟨Nat.le_of_ble_eq_true rfl, Nat.le_of_ble_eq_true rfl⟩) (fun hb_17 => ?_)
    refine lv_if_eq (tgt := 73) hx hb dX7_race_67 (by decide) (fun c_18 => ?_) (fun c_18 => ?_)
    ·
      replace hF := ip c_18 hF
      refine lv_aload_n hx hb dX7_race_73 rfl (lv_at hl 0 rfl) ?_
      refine gt_X7_3 (v := .ref a_now) hx hb hts i_f_X7_race_X7 hown hK hP 0 rfl (hts (.fieldLink RX7 35 "HushWatch" "now" "LHushWatch$State;") (List.mem_of_getElem? (i := 1) rfl)) rfl dX7_race_74 ?_
      refine lv_iload hx hb dX7_race_77 (lv_at hl 6 rfl) ?_
      refine lv_iload hx hb dX7_race_79 (lv_at hl 5 rfl) ?_
      refine lv_iload_n hx hb dX7_race_81 rfl (lv_at hl 1 rfl) ?_
      refine lv_imul hx hb dX7_race_82 ?_
      refine lv_iload hx hb dX7_race_83 (lv_at hl 5 rfl) ?_
      refine lv_iload_n hx hb dX7_race_85 rfl (lv_at hl 2 rfl) ?_
      refine lv_imul hx hb dX7_race_86 ?_
      replace hF := bd1_s hF
      obtain ⟨r_19, hc_20, hF⟩ := hF
      have hPc : va_P E.1 vwCl (w_X5_hasRoom E a_now a_now_row a_now_partners a_now_share a_now_leftOver c_now_askedCount c_now_outcome c_now_row) s.heap := hP.sub (ws' := [(a_now, .inr (6, [.ref a_now_row, .ref a_now_partners, .int c_now_askedCount, .int c_now_outcome, .ref a_now_share, .ref a_now_leftOver])), (a_now_row, .inl (E.2.1, 81, .inl c_now_row))]) [1, 2] rfl
      have hrc := va_recv hK hPc (ci := 6) (q0 := 0) rfl rfl
      refine pE_z (va_runV (As := [.int x6, .int (x5 * p1), .int (x5 * p2)]) (rest := [])  ⟨hx, hb, hml, hown, hts⟩ (f_X5_hasRoom l E (a_ := a_now) (a_row := a_now_row) (a_partners := a_now_partners) (a_share := a_now_share) (a_leftOver := a_now_leftOver) (p1 := x6) (p2 := x5 * p1) (p3 := x5 * p2) (c_askedCount := c_now_askedCount) (c_outcome := c_now_outcome) (c_row := c_now_row) hc_20) (cwV 3 hts g_f_X7_race_f_X5_hasRoom_213 rfl rfl rfl hd_X5_hasRoom ⟨Nat.le_of_ble_eq_true rfl, Nat.le_of_ble_eq_true rfl⟩) ⟨pP.blind, hrc, (pP.pre ⟨hK, hN⟩ hPc)⟩ rfl rfl hl.1 rfl (lv_room (Nat.le_of_ble_eq_true rfl)) dX7_race_87 ⟨Nat.le_of_ble_eq_true rfl, Nat.le_of_ble_eq_true rfl⟩) (fun hb_21 => ?_)
      refine lv_if_ne (tgt := 95) hx hb dX7_race_90 (by decide) (fun c_22 => ?_) (fun c_22 => ?_)
      ·
        replace hF := inn c_22 hF
        refine lv_iinc (v := x4 + (1 : Int32)) (lv' := [(4, .int (x4 + (1 : Int32))), (0, .ref a_), (1, .int p1), (2, .int p2), (3, .int p3), (5, .int x5), (6, .int x6)]) hx hb dX7_race_95 hl (k := 4) rfl (rfl) (by decide) rfl (fun ls hl => ?_)
        refine lv_aload_n hx hb dX7_race_98 rfl (lv_at hl 1 rfl) ?_
        refine gt_X7_3 (v := .ref a_now) hx hb hts i_f_X7_race_X7 hown hK hP 0 rfl (hts (.fieldLink RX7 35 "HushWatch" "now" "LHushWatch$State;") (List.mem_of_getElem? (i := 1) rfl)) rfl dX7_race_99 ?_
        refine lv_iload hx hb dX7_race_102 (lv_at hl 6 rfl) ?_
        refine lv_iload hx hb dX7_race_104 (lv_at hl 5 rfl) ?_
        refine lv_iload_n hx hb dX7_race_106 rfl (lv_at hl 2 rfl) ?_
        refine lv_imul hx hb dX7_race_107 ?_
        refine lv_iload hx hb dX7_race_108 (lv_at hl 5 rfl) ?_
        refine lv_iload_n hx hb dX7_race_110 rfl (lv_at hl 3 rfl) ?_
        refine lv_imul hx hb dX7_race_111 ?_
        replace hF := bd1_s hF
        obtain ⟨r_23, hc_24, hF⟩ := hF
        have hPc : va_P E.1 vwCl (w_X5_isQuietWith E a_now a_now_row a_now_partners a_now_share a_now_leftOver c_now_askedCount c_now_outcome c_now_row) s.heap := hP.sub (ws' := [(a_now, .inr (6, [.ref a_now_row, .ref a_now_partners, .int c_now_askedCount, .int c_now_outcome, .ref a_now_share, .ref a_now_leftOver])), (a_now_row, .inl (E.2.1, 81, .inl c_now_row))]) [1, 2] rfl
        have hrc := va_recv hK hPc (ci := 6) (q0 := 0) rfl rfl
        refine pE_z (va_runV (As := [.int x6, .int (x5 * p1), .int (x5 * p2)]) (rest := [])  ⟨hx, hb, hml, hown, hts⟩ (f_X5_isQuietWith l E (a_ := a_now) (a_row := a_now_row) (a_partners := a_now_partners) (a_share := a_now_share) (a_leftOver := a_now_leftOver) (p1 := x6) (p2 := x5 * p1) (p3 := x5 * p2) (c_askedCount := c_now_askedCount) (c_outcome := c_now_outcome) (c_row := c_now_row) hc_24) (cwV 3 hts g_f_X7_race_f_X5_isQuietWith_217 rfl rfl rfl hd_X5_isQuietWith ⟨Nat.le_of_ble_eq_true rfl, Nat.le_of_ble_eq_true rfl⟩) ⟨pP.blind, hrc, (pP.pre ⟨hK, hN⟩ hPc)⟩ rfl rfl hl.1 rfl (lv_room (Nat.le_of_ble_eq_true rfl)) dX7_race_112 ⟨Nat.le_of_ble_eq_true rfl, Nat.le_of_ble_eq_true rfl⟩) (fun hb_25 => ?_)
        refine lv_if_ne (tgt := 130) hx hb dX7_race_115 (by decide) (fun c_26 => ?_) (fun c_26 => ?_)
        ·
          replace hF := inn c_26 hF
          refine lv_iinc (v := x6 + (1 : Int32)) (lv' := [(6, .int (x6 + (1 : Int32))), (4, .int (x4 + (1 : Int32))), (0, .ref a_), (1, .int p1), (2, .int p2), (3, .int p3), (5, .int x5)]) hx hb dX7_race_130 hl (k := 6) rfl (rfl) (by decide) rfl (fun ls hl => ?_)
          refine lv_goto (tgt := 46) hx hb dX7_race_133 (by decide) ?_
          cases hF
          exact hC (x4 + (1 : Int32)) (x6 + (1 : Int32)) rfl ls (lv_sub hl [2, 3, 4, 5, 1, 6, 0] rfl)
        ·
          replace hF := ip c_26 hF
          cases hF
          exact (hE 1 (x4 + (1 : Int32)) x6 rfl).2.1 rfl ls (lv_sub hl [4, 0, 6] rfl)
      ·
        replace hF := ip c_22 hF
        cases hF
        exact (hE 0 x4 x6 rfl).1 rfl ls (lv_sub hl [] rfl)
    ·
      replace hF := inn c_18 hF
      refine lv_goto (tgt := 130) hx hb dX7_race_70 (by decide) ?_
      refine lv_iinc (v := x6 + (1 : Int32)) (lv' := [(6, .int (x6 + (1 : Int32))), (0, .ref a_), (1, .int p1), (2, .int p2), (3, .int p3), (4, .int x4), (5, .int x5)]) hx hb dX7_race_130 hl (k := 6) rfl (rfl) (by decide) rfl (fun ls hl => ?_)
      refine lv_goto (tgt := 46) hx hb dX7_race_133 (by decide) ?_
      cases hF
      exact hC x4 (x6 + (1 : Int32)) rfl ls (lv_sub hl [1, 2, 3, 4, 5, 6, 0] rfl)

set_option maxHeartbeats 4000000 in
set_option maxRecDepth 100000 in
theorem lw_X7_race_46 {p : Program} (l : Launch) {e : Env} {s : State} {m : MethodId} {below : List Frame} {meth : Method} {c : Code} {Q : State → Prop} (E : EE) (K : Nat) {a_ a_tape a_reader a_scripts a_now a_trial a_kept a_book a_keptBook a_history a_draws a_refused a_now_row a_now_partners a_now_share a_now_leftOver : Nat} {p1 : Int32} {p2 : Int32} {p3 : Int32} {c_hasImage : Int32} {c_now_askedCount : Int32} {c_now_outcome : Int32} {c_now_row : Nat → Int32} {x5 : Int32} (hx : p.tables.exec = Jvm.exec) (hb : c.code = cX7_race) (hml : c.maxLocals = 7) (hown : s.vm.findClass RX7 = some m.cls) (hts : ∀ w ∈ v_f_X7_race, w.before #[Value.ref a_, Value.int p1, Value.int p2, Value.int p3] s = true) (hK : va_K E.1 vwCl (TY E) s) (hN : NX s) (hP : va_P E.1 vwCl (w_X7_race E a_ a_tape a_reader a_scripts a_now a_trial a_kept a_book a_keptBook a_history a_draws a_refused a_now_row a_now_partners a_now_share a_now_leftOver c_hasImage c_now_askedCount c_now_outcome c_now_row) s.heap) (j9 : Nat) (x4 : Int32) (x6 : Int32) (t9' : Nat) (x4' : Int32) (x6' : Int32) (hL : lpF (fun u9 : Int32 × Int32 => B_X7_race_46 p1 p2 c_now_row x5 u9.1 u9.2) j9 (x4, x6) = some (t9', x4', x6')) (hX : (t9' = 0 → ∀ (ls : Array Slot), lv_has ls 7 [] → W p l e ({ frames := 3, cells := 0, slots := 0, locals := 73 } : Room) s m #[Value.ref a_, Value.int p1, Value.int p2, Value.int p3] below meth c s.heap [] 0 0 Q (F0 m 93 ls [])) ∧ (t9' = 1 → ∀ (ls : Array Slot), lv_has ls 7 [(3, .int p3), (4, .int x4'), (6, .int x6')] → W p l e ({ frames := 3, cells := 0, slots := 0, locals := 73 } : Room) s m #[Value.ref a_, Value.int p1, Value.int p2, Value.int p3] below meth c s.heap [] 0 0 Q (F0 m 118 ls [])) ∧ (t9' = 2 → ∀ (ls : Array Slot), lv_has ls 7 [(0, .ref a_), (1, .int p1), (2, .int p2), (3, .int p3), (4, .int x4'), (5, .int x5)] → W p l e ({ frames := 3, cells := 0, slots := 0, locals := 73 } : Room) s m #[Value.ref a_, Value.int p1, Value.int p2, Value.int p3] below meth c s.heap [] 0 0 Q (F0 m 136 ls []))) : ∀ (ls : Array Slot), lv_has ls 7 [(0, .ref a_), (1, .int p1), (2, .int p2), (3, .int p3), (4, .int x4), (5, .int x5), (6, .int x6)] → W p l e ({ frames := 3, cells := 0, slots := 0, locals := 73 } : Room) s m #[Value.ref a_, Value.int p1, Value.int p2, Value.int p3] below meth c s.heap [] 0 0 Q (F0 m 46 ls []) := by
  exact lp_rule (P := (fun u9 : Int32 × Int32 => ∀ (ls : Array Slot), lv_has ls 7 [(0, .ref a_), (1, .int p1), (2, .int p2), (3, .int p3), (4, .int u9.1), (5, .int x5), (6, .int u9.2)] → W p l e ({ frames := 3, cells := 0, slots := 0, locals := 73 } : Room) s m #[Value.ref a_, Value.int p1, Value.int p2, Value.int p3] below meth c s.heap [] 0 0 Q (F0 m 46 ls []))) (R := (fun r9 : Nat × Int32 × Int32 => (r9.1 = 0 → ∀ (ls : Array Slot), lv_has ls 7 [] → W p l e ({ frames := 3, cells := 0, slots := 0, locals := 73 } : Room) s m #[Value.ref a_, Value.int p1, Value.int p2, Value.int p3] below meth c s.heap [] 0 0 Q (F0 m 93 ls [])) ∧ (r9.1 = 1 → ∀ (ls : Array Slot), lv_has ls 7 [(3, .int p3), (4, .int r9.2.1), (6, .int r9.2.2)] → W p l e ({ frames := 3, cells := 0, slots := 0, locals := 73 } : Room) s m #[Value.ref a_, Value.int p1, Value.int p2, Value.int p3] below meth c s.heap [] 0 0 Q (F0 m 118 ls [])) ∧ (r9.1 = 2 → ∀ (ls : Array Slot), lv_has ls 7 [(0, .ref a_), (1, .int p1), (2, .int p2), (3, .int p3), (4, .int r9.2.1), (5, .int x5)] → W p l e ({ frames := 3, cells := 0, slots := 0, locals := 73 } : Room) s m #[Value.ref a_, Value.int p1, Value.int p2, Value.int p3] below meth c s.heap [] 0 0 Q (F0 m 136 ls [])))) (fun u9 xx hF hC hE => wb_X7_race_46 l E K (p1 := p1) (p2 := p2) (p3 := p3) (c_hasImage := c_hasImage) (c_now_askedCount := c_now_askedCount) (c_now_outcome := c_now_outcome) (c_now_row := c_now_row) (x4 := u9.1) (x5 := x5) (x6 := u9.2) hx hb hml hown hts hK hN (fun x4 x6 q9 => hC _ q9) (fun t9 x4 x6 q9 => hE _ q9) hF hP) j9 (x4, x6) (t9', x4', x6') hL hX

set_option maxHeartbeats 4000000 in
set_option maxRecDepth 100000 in
theorem wb_X7_race_35 {p : Program} (l : Launch) {e : Env} {s : State} {m : MethodId} {below : List Frame} {meth : Method} {c : Code} {Q : State → Prop} (E : EE) (K : Nat) {a_ a_tape a_reader a_scripts a_now a_trial a_kept a_book a_keptBook a_history a_draws a_refused a_now_row a_now_partners a_now_share a_now_leftOver : Nat} {p1 : Int32} {p2 : Int32} {p3 : Int32} {c_hasImage : Int32} {c_now_askedCount : Int32} {c_now_outcome : Int32} {c_now_row : Nat → Int32} {x4 : Int32} {x5 : Int32} (hx : p.tables.exec = Jvm.exec) (hb : c.code = cX7_race) (hml : c.maxLocals = 7) (hown : s.vm.findClass RX7 = some m.cls) (hts : ∀ w ∈ v_f_X7_race, w.before #[Value.ref a_, Value.int p1, Value.int p2, Value.int p3] s = true) (hK : va_K E.1 vwCl (TY E) s) (hN : NX s) {xx : (Int32 × Int32) ⊕ (Nat × Int32 × Int32)} (hC : ∀ (x4 : Int32), ∀ (x5 : Int32), xx = .inl (x4, x5) → ∀ (ls : Array Slot), lv_has ls 7 [(0, .ref a_), (1, .int p1), (2, .int p2), (3, .int p3), (4, .int x4), (5, .int x5)] → W p l e ({ frames := 3, cells := 0, slots := 0, locals := 73 } : Room) s m #[Value.ref a_, Value.int p1, Value.int p2, Value.int p3] below meth c s.heap [] 0 0 Q (F0 m 35 ls [])) (hE : ∀ (t9 : Nat), ∀ (x4 : Int32), ∀ (x6 : Int32), xx = .inr (t9, x4, x6) → ((t9 = 0 → ∀ (ls : Array Slot), lv_has ls 7 [] → W p l e ({ frames := 3, cells := 0, slots := 0, locals := 73 } : Room) s m #[Value.ref a_, Value.int p1, Value.int p2, Value.int p3] below meth c s.heap [] 0 0 Q (F0 m 93 ls [])) ∧ (t9 = 1 → ∀ (ls : Array Slot), lv_has ls 7 [(3, .int p3), (4, .int x4), (6, .int x6)] → W p l e ({ frames := 3, cells := 0, slots := 0, locals := 73 } : Room) s m #[Value.ref a_, Value.int p1, Value.int p2, Value.int p3] below meth c s.heap [] 0 0 Q (F0 m 118 ls [])) ∧ (t9 = 2 → ∀ (ls : Array Slot), lv_has ls 7 [] → W p l e ({ frames := 3, cells := 0, slots := 0, locals := 73 } : Room) s m #[Value.ref a_, Value.int p1, Value.int p2, Value.int p3] below meth c s.heap [] 0 0 Q (F0 m 142 ls [])))) (hF : B_X7_race_35 K p1 p2 c_now_row x4 x5 = some xx) (hP : va_P E.1 vwCl (w_X7_race E a_ a_tape a_reader a_scripts a_now a_trial a_kept a_book a_keptBook a_history a_draws a_refused a_now_row a_now_partners a_now_share a_now_leftOver c_hasImage c_now_askedCount c_now_outcome c_now_row) s.heap) : ∀ (ls : Array Slot), lv_has ls 7 [(0, .ref a_), (1, .int p1), (2, .int p2), (3, .int p3), (4, .int x4), (5, .int x5)] → W p l e ({ frames := 3, cells := 0, slots := 0, locals := 73 } : Room) s m #[Value.ref a_, Value.int p1, Value.int p2, Value.int p3] below meth c s.heap [] 0 0 Q (F0 m 35 ls []) := by
  unfold B_X7_race_35 at hF
  replace hP : va_P E.1 vwCl [(a_, .inr (8, [.ref a_tape, .ref a_reader, .ref a_scripts, .ref a_now, .ref a_trial, .ref a_kept, .ref a_book, .ref a_keptBook, .ref a_history, .ref a_draws, .ref a_refused, .int c_hasImage])), (a_now, .inr (6, [.ref a_now_row, .ref a_now_partners, .int c_now_askedCount, .int c_now_outcome, .ref a_now_share, .ref a_now_leftOver])), (a_now_row, .inl (E.2.1, 81, .inl c_now_row))] s.heap := hP
  intro ls hl
  refine lv_iload hx hb dX7_race_35 (lv_at hl 5 rfl) ?_
  refine lv_sipush (v := 200) hx hb dX7_race_37 (by decide) ?_
  refine lv_icmp_gt (tgt := 142) hx hb dX7_race_40 (by decide) (fun c_11 => ?_) (fun c_11 => ?_)
  ·
    replace hF := ip c_11 hF
    cases hF
    exact (hE 2 x4 (0 : Int32) rfl).2.2 rfl ls (lv_sub hl [] rfl)
  ·
    replace hF := inn c_11 hF
    refine lv_iconst (v := 0) hx hb dX7_race_43 (by decide) ?_
    refine lv_istore (lv' := [(6, .int (0 : Int32)), (0, .ref a_), (1, .int p1), (2, .int p2), (3, .int p3), (4, .int x4), (5, .int x5)]) hx hb dX7_race_44 hl (by decide) rfl (fun ls hl => ?_)
    replace hF := bd3_s hF
    obtain ⟨t_27, x4_28, x6_29, hL_30, hF⟩ := hF
    refine lw_X7_race_46 l E K (p1 := p1) (p2 := p2) (p3 := p3) (c_hasImage := c_hasImage) (c_now_askedCount := c_now_askedCount) (c_now_outcome := c_now_outcome) (c_now_row := c_now_row) (x5 := x5) hx hb hml hown hts hK hN hP K x4 (0 : Int32) t_27 x4_28 x6_29 hL_30 ⟨?_, ?_, ?_⟩ ls (lv_sub hl [1, 2, 3, 4, 5, 6, 0] rfl)
    ·
      intro t9
      replace hF := ip t9 hF
      intro ls hl
      cases hF
      exact (hE 0 (0 : Int32) (0 : Int32) rfl).1 rfl ls (lv_sub hl [] rfl)
    ·
      intro t9
      replace hF := inn (show ¬ t_27 = 0 by omega) hF
      replace hF := ip t9 hF
      intro ls hl
      cases hF
      exact (hE 1 x4_28 x6_29 rfl).2.1 rfl ls (lv_sub hl [0, 1, 2] rfl)
    ·
      intro t9
      replace hF := inn (show ¬ t_27 = 0 by omega) hF
      replace hF := inn (show ¬ t_27 = 1 by omega) hF
      replace hF := ip t9 hF
      intro ls hl
      refine lv_iinc (v := x5 + (1 : Int32)) (lv' := [(5, .int (x5 + (1 : Int32))), (0, .ref a_), (1, .int p1), (2, .int p2), (3, .int p3), (4, .int x4_28)]) hx hb dX7_race_136 hl (k := 5) rfl (rfl) (by decide) rfl (fun ls hl => ?_)
      refine lv_goto (tgt := 35) hx hb dX7_race_139 (by decide) ?_
      cases hF
      exact hC x4_28 (x5 + (1 : Int32)) rfl ls (lv_sub hl [1, 2, 3, 4, 5, 0] rfl)

set_option maxHeartbeats 4000000 in
set_option maxRecDepth 100000 in
theorem lw_X7_race_35 {p : Program} (l : Launch) {e : Env} {s : State} {m : MethodId} {below : List Frame} {meth : Method} {c : Code} {Q : State → Prop} (E : EE) (K : Nat) {a_ a_tape a_reader a_scripts a_now a_trial a_kept a_book a_keptBook a_history a_draws a_refused a_now_row a_now_partners a_now_share a_now_leftOver : Nat} {p1 : Int32} {p2 : Int32} {p3 : Int32} {c_hasImage : Int32} {c_now_askedCount : Int32} {c_now_outcome : Int32} {c_now_row : Nat → Int32} (hx : p.tables.exec = Jvm.exec) (hb : c.code = cX7_race) (hml : c.maxLocals = 7) (hown : s.vm.findClass RX7 = some m.cls) (hts : ∀ w ∈ v_f_X7_race, w.before #[Value.ref a_, Value.int p1, Value.int p2, Value.int p3] s = true) (hK : va_K E.1 vwCl (TY E) s) (hN : NX s) (hP : va_P E.1 vwCl (w_X7_race E a_ a_tape a_reader a_scripts a_now a_trial a_kept a_book a_keptBook a_history a_draws a_refused a_now_row a_now_partners a_now_share a_now_leftOver c_hasImage c_now_askedCount c_now_outcome c_now_row) s.heap) (j9 : Nat) (x4 : Int32) (x5 : Int32) (t9' : Nat) (x4' : Int32) (x6' : Int32) (hL : lpF (fun u9 : Int32 × Int32 => B_X7_race_35 K p1 p2 c_now_row u9.1 u9.2) j9 (x4, x5) = some (t9', x4', x6')) (hX : (t9' = 0 → ∀ (ls : Array Slot), lv_has ls 7 [] → W p l e ({ frames := 3, cells := 0, slots := 0, locals := 73 } : Room) s m #[Value.ref a_, Value.int p1, Value.int p2, Value.int p3] below meth c s.heap [] 0 0 Q (F0 m 93 ls [])) ∧ (t9' = 1 → ∀ (ls : Array Slot), lv_has ls 7 [(3, .int p3), (4, .int x4'), (6, .int x6')] → W p l e ({ frames := 3, cells := 0, slots := 0, locals := 73 } : Room) s m #[Value.ref a_, Value.int p1, Value.int p2, Value.int p3] below meth c s.heap [] 0 0 Q (F0 m 118 ls [])) ∧ (t9' = 2 → ∀ (ls : Array Slot), lv_has ls 7 [] → W p l e ({ frames := 3, cells := 0, slots := 0, locals := 73 } : Room) s m #[Value.ref a_, Value.int p1, Value.int p2, Value.int p3] below meth c s.heap [] 0 0 Q (F0 m 142 ls []))) : ∀ (ls : Array Slot), lv_has ls 7 [(0, .ref a_), (1, .int p1), (2, .int p2), (3, .int p3), (4, .int x4), (5, .int x5)] → W p l e ({ frames := 3, cells := 0, slots := 0, locals := 73 } : Room) s m #[Value.ref a_, Value.int p1, Value.int p2, Value.int p3] below meth c s.heap [] 0 0 Q (F0 m 35 ls []) := by
  exact lp_rule (P := (fun u9 : Int32 × Int32 => ∀ (ls : Array Slot), lv_has ls 7 [(0, .ref a_), (1, .int p1), (2, .int p2), (3, .int p3), (4, .int u9.1), (5, .int u9.2)] → W p l e ({ frames := 3, cells := 0, slots := 0, locals := 73 } : Room) s m #[Value.ref a_, Value.int p1, Value.int p2, Value.int p3] below meth c s.heap [] 0 0 Q (F0 m 35 ls []))) (R := (fun r9 : Nat × Int32 × Int32 => (r9.1 = 0 → ∀ (ls : Array Slot), lv_has ls 7 [] → W p l e ({ frames := 3, cells := 0, slots := 0, locals := 73 } : Room) s m #[Value.ref a_, Value.int p1, Value.int p2, Value.int p3] below meth c s.heap [] 0 0 Q (F0 m 93 ls [])) ∧ (r9.1 = 1 → ∀ (ls : Array Slot), lv_has ls 7 [(3, .int p3), (4, .int r9.2.1), (6, .int r9.2.2)] → W p l e ({ frames := 3, cells := 0, slots := 0, locals := 73 } : Room) s m #[Value.ref a_, Value.int p1, Value.int p2, Value.int p3] below meth c s.heap [] 0 0 Q (F0 m 118 ls [])) ∧ (r9.1 = 2 → ∀ (ls : Array Slot), lv_has ls 7 [] → W p l e ({ frames := 3, cells := 0, slots := 0, locals := 73 } : Room) s m #[Value.ref a_, Value.int p1, Value.int p2, Value.int p3] below meth c s.heap [] 0 0 Q (F0 m 142 ls [])))) (fun u9 xx hF hC hE => wb_X7_race_35 l E K (p1 := p1) (p2 := p2) (p3 := p3) (c_hasImage := c_hasImage) (c_now_askedCount := c_now_askedCount) (c_now_outcome := c_now_outcome) (c_now_row := c_now_row) (x4 := u9.1) (x5 := u9.2) hx hb hml hown hts hK hN (fun x4 x5 q9 => hC _ q9) (fun t9 x4 x6 q9 => hE _ q9) hF hP) j9 (x4, x5) (t9', x4', x6') hL hX

set_option maxHeartbeats 4000000 in
set_option maxRecDepth 100000 in
theorem f_X7_race (l : Launch) (E : EE) (K : Nat) {a_ a_tape a_reader a_scripts a_now a_trial a_kept a_book a_keptBook a_history a_draws a_refused a_now_row a_now_partners a_now_share a_now_leftOver : Nat} {p1 : Int32} {p2 : Int32} {p3 : Int32} {c_hasImage : Int32} {c_now_askedCount : Int32} {c_now_outcome : Int32} {c_now_row : Nat → Int32} {rr : Int32} (hF : F_X7_race K p1 p2 p3 c_now_row = some rr) : Met l yX7_race v_f_X7_race (({ frames := 3, cells := 0, slots := 0, locals := 73 } : Room)) (va_Pc [.ref a_, .int p1, .int p2, .int p3] (pP E (w_X7_race E a_ a_tape a_reader a_scripts a_now a_trial a_kept a_book a_keptBook a_history a_draws a_refused a_now_row a_now_partners a_now_share a_now_leftOver c_hasImage c_now_askedCount c_now_outcome c_now_row))) (vp_Si (fun q : Int32 => q = rr)) 0 0 (fun _ => False) := by
  refine Met.ofW (cc := cX7_race) (maxL := 7) (ret := (some .int)) (by decide) rfl ?_
  intro p e s m args below meth c s₁ B hml hv
  obtain ⟨rfl, ⟨hK, hN⟩, hP⟩ := hv
  have hx := B.exec
  have hb := B.bytes
  have hr := B.returns
  have hts := atoms_spec (ws := v_f_X7_race) B.pre
  have hown : s.vm.findClass RX7 = some m.cls := own_of hd_X7_race.1 (findClass_of_methodNamed B.named)
  have hlocks : meth.locks = false := B.notSynchronized
  replace hP : va_P E.1 vwCl [(a_, .inr (8, [.ref a_tape, .ref a_reader, .ref a_scripts, .ref a_now, .ref a_trial, .ref a_kept, .ref a_book, .ref a_keptBook, .ref a_history, .ref a_draws, .ref a_refused, .int c_hasImage])), (a_now, .inr (6, [.ref a_now_row, .ref a_now_partners, .int c_now_askedCount, .int c_now_outcome, .ref a_now_share, .ref a_now_leftOver])), (a_now_row, .inl (E.2.1, 81, .inl c_now_row))] s.heap := hP
  have hl := lv_entry ([.ref a_, .int p1, .int p2, .int p3]) (n := 7) (Nat.le_of_ble_eq_true rfl)
  rw [lg_entry_eq]
  generalize (lg_sl ([.ref a_, .int p1, .int p2, .int p3]) ++ List.replicate (7 - (lg_sl ([.ref a_, .int p1, .int p2, .int p3])).length) Slot.unset).toArray = ls at hl ⊢
  have hl : lv_has ls 7 [(0, .ref a_), (1, .int p1), (2, .int p2), (3, .int p3)] := hl
  obtain ⟨Q, hQ⟩ : ∃ Q : State → Prop, Q = MQ below (vp_Si (fun q : Int32 => q = rr)) #[Value.ref a_, Value.int p1, Value.int p2, Value.int p3] s 0 0 (fun _ => False) := ⟨_, rfl⟩
  rw [← hQ]
  change W p l e ({ frames := 3, cells := 0, slots := 0, locals := 73 } : Room) s m #[Value.ref a_, Value.int p1, Value.int p2, Value.int p3] below meth c s.heap [] 0 0 Q (F0 m 0 ls [])
  unfold F_X7_race at hF
  refine lv_aload_n hx hb dX7_race_0 rfl (lv_at hl 0 rfl) ?_
  refine gt_X7_3 (v := .ref a_now) hx hb hts i_f_X7_race_X7 hown hK hP 0 rfl (hts (.fieldLink RX7 35 "HushWatch" "now" "LHushWatch$State;") (List.mem_of_getElem? (i := 1) rfl)) rfl dX7_race_1 ?_
  replace hF := bd1_s hF
  obtain ⟨r_1, hc_2, hF⟩ := hF
  have hPc : va_P E.1 vwCl (w_X5_stands E a_now a_now_row a_now_partners a_now_share a_now_leftOver c_now_askedCount c_now_outcome c_now_row) s.heap := hP.sub (ws' := [(a_now, .inr (6, [.ref a_now_row, .ref a_now_partners, .int c_now_askedCount, .int c_now_outcome, .ref a_now_share, .ref a_now_leftOver])), (a_now_row, .inl (E.2.1, 81, .inl c_now_row))]) [1, 2] rfl
  have hrc := va_recv hK hPc (ci := 6) (q0 := 0) rfl rfl
  refine pE_z (va_runV (As := []) (rest := [])  ⟨hx, hb, hml, hown, hts⟩ (f_X5_stands l E (a_ := a_now) (a_row := a_now_row) (a_partners := a_now_partners) (a_share := a_now_share) (a_leftOver := a_now_leftOver) (c_askedCount := c_now_askedCount) (c_outcome := c_now_outcome) (c_row := c_now_row) hc_2) (cwV 0 hts g_f_X7_race_f_X5_stands_110 rfl rfl rfl hd_X5_stands ⟨Nat.le_of_ble_eq_true rfl, Nat.le_of_ble_eq_true rfl⟩) ⟨pP.blind, hrc, (pP.pre ⟨hK, hN⟩ hPc)⟩ rfl rfl hl.1 rfl (lv_room (Nat.le_of_ble_eq_true rfl)) dX7_race_4 ⟨Nat.le_of_ble_eq_true rfl, Nat.le_of_ble_eq_true rfl⟩) (fun hb_3 => ?_)
  refine lv_if_eq (tgt := 27) hx hb dX7_race_7 (by decide) (fun c_4 => ?_) (fun c_4 => ?_)
  ·
    replace hF := ip c_4 hF
    refine lv_iconst (v := -1) hx hb dX7_race_27 (by decide) ?_
    rw [hQ]
    obtain e9_0 := inj1 hF
    exact W.iret (v := (-1 : Int32)) hx hb hr (fun tt ht hW => ⟨_, rfl, e9_0, ht⟩) (fun _ h => by cases h) dX7_race_28
  ·
    replace hF := inn c_4 hF
    refine lv_iload_n hx hb dX7_race_10 rfl (lv_at hl 1 rfl) ?_
    refine lv_iload_n hx hb dX7_race_11 rfl (lv_at hl 2 rfl) ?_
    replace hF := bd1_s hF
    obtain ⟨r_5, hc_6, hF⟩ := hF
    have hPc : va_P E.1 vwCl [] s.heap := fun k q h => by simp at h
    refine pE_z (va_runS (As := [.int p1, .int p2]) (rest := [])  ⟨hx, hb, hml, hown, hts⟩ (f_X7_isWay l E (p0 := p1) (p1 := p2) hc_6) (va_cwS 2 hts g_f_X7_race_f_X7_isWay_210 rfl rfl rfl hd_X7_isWay.2 ⟨Nat.le_of_ble_eq_true rfl, Nat.le_of_ble_eq_true rfl⟩) ⟨pP.blind, (pP.pre ⟨hK, hN⟩ hPc)⟩ rfl rfl hl.1 rfl (lv_room (Nat.le_of_ble_eq_true rfl)) dX7_race_12 ⟨Nat.le_of_ble_eq_true rfl, Nat.le_of_ble_eq_true rfl⟩) (fun hb_7 => ?_)
    refine lv_if_eq (tgt := 27) hx hb dX7_race_15 (by decide) (fun c_8 => ?_) (fun c_8 => ?_)
    ·
      replace hF := ip c_8 hF
      refine lv_iconst (v := -1) hx hb dX7_race_27 (by decide) ?_
      rw [hQ]
      obtain e9_0 := inj1 hF
      exact W.iret (v := (-1 : Int32)) hx hb hr (fun tt ht hW => ⟨_, rfl, e9_0, ht⟩) (fun _ h => by cases h) dX7_race_28
    ·
      replace hF := inn c_8 hF
      refine lv_iload_n hx hb dX7_race_18 rfl (lv_at hl 3 rfl) ?_
      refine lv_if_lt (tgt := 27) hx hb dX7_race_19 (by decide) (fun c_9 => ?_) (fun c_9 => ?_)
      ·
        replace hF := ip c_9 hF
        refine lv_iconst (v := -1) hx hb dX7_race_27 (by decide) ?_
        rw [hQ]
        obtain e9_0 := inj1 hF
        exact W.iret (v := (-1 : Int32)) hx hb hr (fun tt ht hW => ⟨_, rfl, e9_0, ht⟩) (fun _ h => by cases h) dX7_race_28
      ·
        replace hF := inn c_9 hF
        refine lv_iload_n hx hb dX7_race_22 rfl (lv_at hl 3 rfl) ?_
        refine lv_iconst (v := 1) hx hb dX7_race_23 (by decide) ?_
        refine lv_icmp_le (tgt := 29) hx hb dX7_race_24 (by decide) (fun c_10 => ?_) (fun c_10 => ?_)
        ·
          replace hF := ip c_10 hF
          refine lv_iconst (v := 0) hx hb dX7_race_29 (by decide) ?_
          refine lv_istore (lv' := [(4, .int (0 : Int32)), (0, .ref a_), (1, .int p1), (2, .int p2), (3, .int p3)]) hx hb dX7_race_30 hl (by decide) rfl (fun ls hl => ?_)
          refine lv_iconst (v := 1) hx hb dX7_race_32 (by decide) ?_
          refine lv_istore (lv' := [(5, .int (1 : Int32)), (4, .int (0 : Int32)), (0, .ref a_), (1, .int p1), (2, .int p2), (3, .int p3)]) hx hb dX7_race_33 hl (by decide) rfl (fun ls hl => ?_)
          replace hF := bd3_s hF
          obtain ⟨t_31, x4_32, x6_33, hL_34, hF⟩ := hF
          refine lw_X7_race_35 l E K (p1 := p1) (p2 := p2) (p3 := p3) (c_hasImage := c_hasImage) (c_now_askedCount := c_now_askedCount) (c_now_outcome := c_now_outcome) (c_now_row := c_now_row) hx hb hml hown hts hK hN hP K (0 : Int32) (1 : Int32) t_31 x4_32 x6_33 hL_34 ⟨?_, ?_, ?_⟩ ls (lv_sub hl [2, 3, 4, 5, 1, 0] rfl)
          ·
            intro t9
            replace hF := ip t9 hF
            intro ls hl
            refine lv_iconst (v := -1) hx hb dX7_race_93 (by decide) ?_
            rw [hQ]
            obtain e9_0 := inj1 hF
            exact W.iret (v := (-1 : Int32)) hx hb hr (fun tt ht hW => ⟨_, rfl, e9_0, ht⟩) (fun _ h => by cases h) dX7_race_94
          ·
            intro t9
            replace hF := inn (show ¬ t_31 = 0 by omega) hF
            replace hF := ip t9 hF
            intro ls hl
            refine lv_iload_n hx hb dX7_race_118 rfl (lv_at hl 0 rfl) ?_
            refine lv_if_ne (tgt := 127) hx hb dX7_race_119 (by decide) (fun c_35 => ?_) (fun c_35 => ?_)
            ·
              replace hF := inn c_35 hF
              refine lv_iload hx hb dX7_race_127 (lv_at hl 1 rfl) ?_
              rw [hQ]
              obtain e9_0 := inj1 hF
              exact W.iret (v := x4_32) hx hb hr (fun tt ht hW => ⟨_, rfl, e9_0, ht⟩) (fun _ h => by cases h) dX7_race_129
            ·
              replace hF := ip c_35 hF
              refine lv_iload hx hb dX7_race_122 (lv_at hl 2 rfl) ?_
              refine lv_goto (tgt := 129) hx hb dX7_race_124 (by decide) ?_
              rw [hQ]
              obtain e9_0 := inj1 hF
              exact W.iret (v := x6_33) hx hb hr (fun tt ht hW => ⟨_, rfl, e9_0, ht⟩) (fun _ h => by cases h) dX7_race_129
          ·
            intro t9
            replace hF := inn (show ¬ t_31 = 0 by omega) hF
            replace hF := inn (show ¬ t_31 = 1 by omega) hF
            replace hF := ip t9 hF
            intro ls hl
            refine lv_iconst (v := -1) hx hb dX7_race_142 (by decide) ?_
            rw [hQ]
            obtain e9_0 := inj1 hF
            exact W.iret (v := (-1 : Int32)) hx hb hr (fun tt ht hW => ⟨_, rfl, e9_0, ht⟩) (fun _ h => by cases h) dX7_race_143
        ·
          replace hF := inn c_10 hF
          refine lv_iconst (v := -1) hx hb dX7_race_27 (by decide) ?_
          rw [hQ]
          obtain e9_0 := inj1 hF
          exact W.iret (v := (-1 : Int32)) hx hb hr (fun tt ht hW => ⟨_, rfl, e9_0, ht⟩) (fun _ h => by cases h) dX7_race_28

def F_X7_rule (p1 : Int32) (c_now_row : Nat → Int32) : Option (Int32) :=
  bd1 (F_X5_stands c_now_row) (fun r_1 => if r_1 = (0 : Int32) then some (-100000000 : Int32) else if p1 = (0 : Int32) then some (c_now_row 0) else if p1 = (1 : Int32) then some (c_now_row 1) else if p1 = (2 : Int32) then some (c_now_row 2) else if p1 = (3 : Int32) then bd1 (F_X5_sites c_now_row) (fun r_6 => some r_6) else some (-100000000 : Int32))
abbrev w_X7_rule (E : EE) (a_ a_tape a_reader a_scripts a_now a_trial a_kept a_book a_keptBook a_history a_draws a_refused a_now_row a_now_partners a_now_share a_now_leftOver : Nat) (c_hasImage : Int32) (c_now_askedCount : Int32) (c_now_outcome : Int32) (c_now_row : Nat → Int32) : va_W := [(a_, .inr (8, [.ref a_tape, .ref a_reader, .ref a_scripts, .ref a_now, .ref a_trial, .ref a_kept, .ref a_book, .ref a_keptBook, .ref a_history, .ref a_draws, .ref a_refused, .int c_hasImage])), (a_now, .inr (6, [.ref a_now_row, .ref a_now_partners, .int c_now_askedCount, .int c_now_outcome, .ref a_now_share, .ref a_now_leftOver])), (a_now_row, .inl (E.2.1, 81, .inl c_now_row))]
def v_f_X7_rule : List Cond := .code yX7_rule cX7_rule 2 (some .int) :: ([.fieldLink RX7 35 "HushWatch" "now" "LHushWatch$State;", .constant RX7 113 (-100000000), .methodLink RX7 110 yX5_stands, .instanceMethod yX5_stands, .selects RX5 yX5_stands yX5_stands, .initialized RX5, .methodLink RX7 117 yX5_sites, .instanceMethod yX5_sites, .selects RX5 yX5_sites yX5_sites] ++ (wsX70 ++ (v_f_X5_stands ++ (wsX50 ++ (v_f_X5_sites ++ ([]))))))
theorem gw_f_X7_rule : v_f_X7_rule.all goodWord = true := by decide +kernel
theorem i_f_X7_rule_X7 : ∀ w ∈ wsX70, w ∈ v_f_X7_rule := fun _ h => List.mem_cons_of_mem _ (List.mem_append_right _ (List.mem_append_left _ h))
theorem i_f_X7_rule_X5 : ∀ w ∈ wsX50, w ∈ v_f_X7_rule := fun _ h => List.mem_cons_of_mem _ (List.mem_append_right _ (List.mem_append_right _ (List.mem_append_right _ (List.mem_append_left _ h))))
theorem g_f_X7_rule_f_X5_stands_110 : GoodIn v_f_X7_rule (wsV RX7 110 RX5 yX5_stands v_f_X5_stands) := goodIn_app (goodIn_of _ (by decide +kernel)) (goodIn_sub (fun _ h => List.mem_cons_of_mem _ (List.mem_append_right _ (List.mem_append_right _ (List.mem_append_left _ h)))) gw_f_X5_stands)
theorem g_f_X7_rule_f_X5_sites_117 : GoodIn v_f_X7_rule (wsV RX7 117 RX5 yX5_sites v_f_X5_sites) := goodIn_app (goodIn_of _ (by decide +kernel)) (goodIn_sub (fun _ h => List.mem_cons_of_mem _ (List.mem_append_right _ (List.mem_append_right _ (List.mem_append_right _ (List.mem_append_right _ (List.mem_append_left _ h)))))) gw_f_X5_sites)
theorem hd_X7_rule : yX7_rule.cls = RX7 ∧ yX7_rule.cls ≠ "java/lang/invoke/MethodHandle" ∧ yX7_rule.cls ≠ "java/lang/invoke/VarHandle" ∧ (parseMethodDescriptor yX7_rule.desc).map (fun d => d.parameters.length) = some 1 := by decide +kernel
set_option maxHeartbeats 4000000 in
set_option maxRecDepth 100000 in
theorem f_X7_rule (l : Launch) (E : EE) {a_ a_tape a_reader a_scripts a_now a_trial a_kept a_book a_keptBook a_history a_draws a_refused a_now_row a_now_partners a_now_share a_now_leftOver : Nat} {p1 : Int32} {c_hasImage : Int32} {c_now_askedCount : Int32} {c_now_outcome : Int32} {c_now_row : Nat → Int32} {rr : Int32} (hF : F_X7_rule p1 c_now_row = some rr) : Met l yX7_rule v_f_X7_rule (({ frames := 1, cells := 0, slots := 0, locals := 20 } : Room)) (va_Pc [.ref a_, .int p1] (pP E (w_X7_rule E a_ a_tape a_reader a_scripts a_now a_trial a_kept a_book a_keptBook a_history a_draws a_refused a_now_row a_now_partners a_now_share a_now_leftOver c_hasImage c_now_askedCount c_now_outcome c_now_row))) (vp_Si (fun q : Int32 => q = rr)) 0 0 (fun _ => False) := by
  refine Met.ofW (cc := cX7_rule) (maxL := 2) (ret := (some .int)) (by decide) rfl ?_
  intro p e s m args below meth c s₁ B hml hv
  obtain ⟨rfl, ⟨hK, hN⟩, hP⟩ := hv
  have hx := B.exec
  have hb := B.bytes
  have hr := B.returns
  have hts := atoms_spec (ws := v_f_X7_rule) B.pre
  have hown : s.vm.findClass RX7 = some m.cls := own_of hd_X7_rule.1 (findClass_of_methodNamed B.named)
  have hlocks : meth.locks = false := B.notSynchronized
  replace hP : va_P E.1 vwCl [(a_, .inr (8, [.ref a_tape, .ref a_reader, .ref a_scripts, .ref a_now, .ref a_trial, .ref a_kept, .ref a_book, .ref a_keptBook, .ref a_history, .ref a_draws, .ref a_refused, .int c_hasImage])), (a_now, .inr (6, [.ref a_now_row, .ref a_now_partners, .int c_now_askedCount, .int c_now_outcome, .ref a_now_share, .ref a_now_leftOver])), (a_now_row, .inl (E.2.1, 81, .inl c_now_row))] s.heap := hP
  have hl := lv_entry ([.ref a_, .int p1]) (n := 2) (Nat.le_of_ble_eq_true rfl)
  rw [lg_entry_eq]
  generalize (lg_sl ([.ref a_, .int p1]) ++ List.replicate (2 - (lg_sl ([.ref a_, .int p1])).length) Slot.unset).toArray = ls at hl ⊢
  have hl : lv_has ls 2 [(0, .ref a_), (1, .int p1)] := hl
  obtain ⟨Q, hQ⟩ : ∃ Q : State → Prop, Q = MQ below (vp_Si (fun q : Int32 => q = rr)) #[Value.ref a_, Value.int p1] s 0 0 (fun _ => False) := ⟨_, rfl⟩
  rw [← hQ]
  change W p l e ({ frames := 1, cells := 0, slots := 0, locals := 20 } : Room) s m #[Value.ref a_, Value.int p1] below meth c s.heap [] 0 0 Q (F0 m 0 ls [])
  unfold F_X7_rule at hF
  refine lv_aload_n hx hb dX7_rule_0 rfl (lv_at hl 0 rfl) ?_
  refine gt_X7_3 (v := .ref a_now) hx hb hts i_f_X7_rule_X7 hown hK hP 0 rfl (hts (.fieldLink RX7 35 "HushWatch" "now" "LHushWatch$State;") (List.mem_of_getElem? (i := 1) rfl)) rfl dX7_rule_1 ?_
  replace hF := bd1_s hF
  obtain ⟨r_1, hc_2, hF⟩ := hF
  have hPc : va_P E.1 vwCl (w_X5_stands E a_now a_now_row a_now_partners a_now_share a_now_leftOver c_now_askedCount c_now_outcome c_now_row) s.heap := hP.sub (ws' := [(a_now, .inr (6, [.ref a_now_row, .ref a_now_partners, .int c_now_askedCount, .int c_now_outcome, .ref a_now_share, .ref a_now_leftOver])), (a_now_row, .inl (E.2.1, 81, .inl c_now_row))]) [1, 2] rfl
  have hrc := va_recv hK hPc (ci := 6) (q0 := 0) rfl rfl
  refine pE_z (va_runV (As := []) (rest := [])  ⟨hx, hb, hml, hown, hts⟩ (f_X5_stands l E (a_ := a_now) (a_row := a_now_row) (a_partners := a_now_partners) (a_share := a_now_share) (a_leftOver := a_now_leftOver) (c_askedCount := c_now_askedCount) (c_outcome := c_now_outcome) (c_row := c_now_row) hc_2) (cwV 0 hts g_f_X7_rule_f_X5_stands_110 rfl rfl rfl hd_X5_stands ⟨Nat.le_of_ble_eq_true rfl, Nat.le_of_ble_eq_true rfl⟩) ⟨pP.blind, hrc, (pP.pre ⟨hK, hN⟩ hPc)⟩ rfl rfl hl.1 rfl (lv_room (Nat.le_of_ble_eq_true rfl)) dX7_rule_4 ⟨Nat.le_of_ble_eq_true rfl, Nat.le_of_ble_eq_true rfl⟩) (fun hb_3 => ?_)
  refine lv_if_ne (tgt := 13) hx hb dX7_rule_7 (by decide) (fun c_4 => ?_) (fun c_4 => ?_)
  ·
    replace hF := inn c_4 hF
    refine lv_iload_n hx hb dX7_rule_13 rfl (lv_at hl 1 rfl) ?_
    rcases Classical.em (p1 = (0 : Int32)) with c_5_0 | c_5_0
    ·
      replace hF := ip c_5_0 hF
      refine lv_tableIn (off := 30) (tgt := 44) hx hb dX7_rule_14 (by rw [c_5_0]; decide) (by rw [c_5_0]; decide) (by rw [c_5_0]; decide) (by decide) ?_
      refine lv_aload_n hx hb dX7_rule_44 rfl (lv_at hl 0 rfl) ?_
      refine gt_X7_3 (v := .ref a_now) hx hb hts i_f_X7_rule_X7 hown hK hP 0 rfl (hts (.fieldLink RX7 35 "HushWatch" "now" "LHushWatch$State;") (List.mem_of_getElem? (i := 1) rfl)) rfl dX7_rule_45 ?_
      refine va_getN (D := E.1) (ci := 6) (v := .ref a_now_row) (C := RX5) (T := TX5) (N := 6) hx hb hts i_f_X7_rule_X5 hown hK hP 1 rfl rfl 0 (by decide) (nx hN 12 rfl) (fun _ h9 => h9) rfl dX7_rule_48 ?_
      refine lv_iconst (v := 0) hx hb dX7_rule_51 (by decide) ?_
      refine va_iald hx hb hK hP 2 0 rfl rfl (vin rfl) dX7_rule_52 ?_
      refine W.eq (g2 := F0 m 53 ls [.int (c_now_row 0)]) rfl ?_
      rw [hQ]
      obtain e9_0 := inj1 hF
      exact W.iret (v := c_now_row 0) hx hb hr (fun tt ht hW => ⟨_, rfl, e9_0, ht⟩) (fun _ h => by cases h) dX7_rule_53
    replace hF := inn c_5_0 hF
    rcases Classical.em (p1 = (1 : Int32)) with c_5_1 | c_5_1
    ·
      replace hF := ip c_5_1 hF
      refine lv_tableIn (off := 40) (tgt := 54) hx hb dX7_rule_14 (by rw [c_5_1]; decide) (by rw [c_5_1]; decide) (by rw [c_5_1]; decide) (by decide) ?_
      refine lv_aload_n hx hb dX7_rule_54 rfl (lv_at hl 0 rfl) ?_
      refine gt_X7_3 (v := .ref a_now) hx hb hts i_f_X7_rule_X7 hown hK hP 0 rfl (hts (.fieldLink RX7 35 "HushWatch" "now" "LHushWatch$State;") (List.mem_of_getElem? (i := 1) rfl)) rfl dX7_rule_55 ?_
      refine va_getN (D := E.1) (ci := 6) (v := .ref a_now_row) (C := RX5) (T := TX5) (N := 6) hx hb hts i_f_X7_rule_X5 hown hK hP 1 rfl rfl 0 (by decide) (nx hN 12 rfl) (fun _ h9 => h9) rfl dX7_rule_58 ?_
      refine lv_iconst (v := 1) hx hb dX7_rule_61 (by decide) ?_
      refine va_iald hx hb hK hP 2 0 rfl rfl (vin rfl) dX7_rule_62 ?_
      refine W.eq (g2 := F0 m 63 ls [.int (c_now_row 1)]) rfl ?_
      rw [hQ]
      obtain e9_0 := inj1 hF
      exact W.iret (v := c_now_row 1) hx hb hr (fun tt ht hW => ⟨_, rfl, e9_0, ht⟩) (fun _ h => by cases h) dX7_rule_63
    replace hF := inn c_5_1 hF
    rcases Classical.em (p1 = (2 : Int32)) with c_5_2 | c_5_2
    ·
      replace hF := ip c_5_2 hF
      refine lv_tableIn (off := 50) (tgt := 64) hx hb dX7_rule_14 (by rw [c_5_2]; decide) (by rw [c_5_2]; decide) (by rw [c_5_2]; decide) (by decide) ?_
      refine lv_aload_n hx hb dX7_rule_64 rfl (lv_at hl 0 rfl) ?_
      refine gt_X7_3 (v := .ref a_now) hx hb hts i_f_X7_rule_X7 hown hK hP 0 rfl (hts (.fieldLink RX7 35 "HushWatch" "now" "LHushWatch$State;") (List.mem_of_getElem? (i := 1) rfl)) rfl dX7_rule_65 ?_
      refine va_getN (D := E.1) (ci := 6) (v := .ref a_now_row) (C := RX5) (T := TX5) (N := 6) hx hb hts i_f_X7_rule_X5 hown hK hP 1 rfl rfl 0 (by decide) (nx hN 12 rfl) (fun _ h9 => h9) rfl dX7_rule_68 ?_
      refine lv_iconst (v := 2) hx hb dX7_rule_71 (by decide) ?_
      refine va_iald hx hb hK hP 2 0 rfl rfl (vin rfl) dX7_rule_72 ?_
      refine W.eq (g2 := F0 m 73 ls [.int (c_now_row 2)]) rfl ?_
      rw [hQ]
      obtain e9_0 := inj1 hF
      exact W.iret (v := c_now_row 2) hx hb hr (fun tt ht hW => ⟨_, rfl, e9_0, ht⟩) (fun _ h => by cases h) dX7_rule_73
    replace hF := inn c_5_2 hF
    rcases Classical.em (p1 = (3 : Int32)) with c_5_3 | c_5_3
    ·
      replace hF := ip c_5_3 hF
      refine lv_tableIn (off := 60) (tgt := 74) hx hb dX7_rule_14 (by rw [c_5_3]; decide) (by rw [c_5_3]; decide) (by rw [c_5_3]; decide) (by decide) ?_
      refine lv_aload_n hx hb dX7_rule_74 rfl (lv_at hl 0 rfl) ?_
      refine gt_X7_3 (v := .ref a_now) hx hb hts i_f_X7_rule_X7 hown hK hP 0 rfl (hts (.fieldLink RX7 35 "HushWatch" "now" "LHushWatch$State;") (List.mem_of_getElem? (i := 1) rfl)) rfl dX7_rule_75 ?_
      replace hF := bd1_s hF
      obtain ⟨r_6, hc_7, hF⟩ := hF
      have hPc : va_P E.1 vwCl (w_X5_sites E a_now a_now_row a_now_partners a_now_share a_now_leftOver c_now_askedCount c_now_outcome c_now_row) s.heap := hP.sub (ws' := [(a_now, .inr (6, [.ref a_now_row, .ref a_now_partners, .int c_now_askedCount, .int c_now_outcome, .ref a_now_share, .ref a_now_leftOver])), (a_now_row, .inl (E.2.1, 81, .inl c_now_row))]) [1, 2] rfl
      have hrc := va_recv hK hPc (ci := 6) (q0 := 0) rfl rfl
      refine pE_i (va_runV (As := []) (rest := [])  ⟨hx, hb, hml, hown, hts⟩ (f_X5_sites l E (a_ := a_now) (a_row := a_now_row) (a_partners := a_now_partners) (a_share := a_now_share) (a_leftOver := a_now_leftOver) (c_askedCount := c_now_askedCount) (c_outcome := c_now_outcome) (c_row := c_now_row) hc_7) (cwV 0 hts g_f_X7_rule_f_X5_sites_117 rfl rfl rfl hd_X5_sites ⟨Nat.le_of_ble_eq_true rfl, Nat.le_of_ble_eq_true rfl⟩) ⟨pP.blind, hrc, (pP.pre ⟨hK, hN⟩ hPc)⟩ rfl rfl hl.1 rfl (lv_room (Nat.le_of_ble_eq_true rfl)) dX7_rule_78 ⟨Nat.le_of_ble_eq_true rfl, Nat.le_of_ble_eq_true rfl⟩) ?_
      rw [hQ]
      obtain e9_0 := inj1 hF
      exact W.iret (v := r_6) hx hb hr (fun tt ht hW => ⟨_, rfl, e9_0, ht⟩) (fun _ h => by cases h) dX7_rule_81
    replace hF := inn c_5_3 hF
    refine lv_tableOut (tgt := 82) hx hb dX7_rule_14 (by have t0 : (0 : Int32).toInt = 0 := (by decide); have t1 : (1 : Int32).toInt = 1 := (by decide); have t2 : (2 : Int32).toInt = 2 := (by decide); have t3 : (3 : Int32).toInt = 3 := (by decide); simp only [← Int32.toInt_inj, t0, t1, t2, t3] at c_5_0 c_5_1 c_5_2 c_5_3; omega) (by decide) ?_
    refine lv_ldc (v := -100000000) hx hb hown (hts (.constant RX7 113 (-100000000)) (List.mem_of_getElem? (i := 2) rfl)) dX7_rule_82 ?_
    rw [hQ]
    obtain e9_0 := inj1 hF
    exact W.iret (v := (-100000000 : Int32)) hx hb hr (fun tt ht hW => ⟨_, rfl, e9_0, ht⟩) (fun _ h => by cases h) dX7_rule_84
  ·
    replace hF := ip c_4 hF
    refine lv_ldc (v := -100000000) hx hb hown (hts (.constant RX7 113 (-100000000)) (List.mem_of_getElem? (i := 2) rfl)) dX7_rule_10 ?_
    rw [hQ]
    obtain e9_0 := inj1 hF
    exact W.iret (v := (-100000000 : Int32)) hx hb hr (fun tt ht hW => ⟨_, rfl, e9_0, ht⟩) (fun _ h => by cases h) dX7_rule_12
