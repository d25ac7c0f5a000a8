def dl_X7_goal_40_pub03_0 : List (Nat × Instr × Nat) := [(0, .aload_n 0, 1), (1, .getfield 35, 3), (4, .getfield 114, 3), (7, .iconst 2, 1), (8, .iaload, 1), (9, .istore_n 2, 1), (10, .aload_n 0, 1), (11, .iconst 5, 1), (12, .iload_n 1, 1), (13, .iconst 0, 1), (14, .iconst 0, 1), (15, .iconst 1, 1), (16, .invokevirtual 163, 3), (19, .ifCond .ge 7, 3), (26, .iload_n 2, 1), (27, .ireturn, 1), (22, .iconst (-1), 1), (23, .goto 4, 3)]
set_option maxRecDepth 100000 in
theorem dall_X7_goal_40_pub03_0 : dchk cX7_goal dl_X7_goal_40_pub03_0 = true := by decide +kernel
theorem dX7_goal_0 : decode cX7_goal 0 = .ok (.aload_n 0, 1) := dchk_at dall_X7_goal_40_pub03_0 (k := 0) rfl
theorem dX7_goal_1 : decode cX7_goal 1 = .ok (.getfield 35, 3) := dchk_at dall_X7_goal_40_pub03_0 (k := 1) rfl
theorem dX7_goal_4 : decode cX7_goal 4 = .ok (.getfield 114, 3) := dchk_at dall_X7_goal_40_pub03_0 (k := 2) rfl
theorem dX7_goal_7 : decode cX7_goal 7 = .ok (.iconst 2, 1) := dchk_at dall_X7_goal_40_pub03_0 (k := 3) rfl
theorem dX7_goal_8 : decode cX7_goal 8 = .ok (.iaload, 1) := dchk_at dall_X7_goal_40_pub03_0 (k := 4) rfl
theorem dX7_goal_9 : decode cX7_goal 9 = .ok (.istore_n 2, 1) := dchk_at dall_X7_goal_40_pub03_0 (k := 5) rfl
theorem dX7_goal_10 : decode cX7_goal 10 = .ok (.aload_n 0, 1) := dchk_at dall_X7_goal_40_pub03_0 (k := 6) rfl
theorem dX7_goal_11 : decode cX7_goal 11 = .ok (.iconst 5, 1) := dchk_at dall_X7_goal_40_pub03_0 (k := 7) rfl
theorem dX7_goal_12 : decode cX7_goal 12 = .ok (.iload_n 1, 1) := dchk_at dall_X7_goal_40_pub03_0 (k := 8) rfl
theorem dX7_goal_13 : decode cX7_goal 13 = .ok (.iconst 0, 1) := dchk_at dall_X7_goal_40_pub03_0 (k := 9) rfl
theorem dX7_goal_14 : decode cX7_goal 14 = .ok (.iconst 0, 1) := dchk_at dall_X7_goal_40_pub03_0 (k := 10) rfl
theorem dX7_goal_15 : decode cX7_goal 15 = .ok (.iconst 1, 1) := dchk_at dall_X7_goal_40_pub03_0 (k := 11) rfl
theorem dX7_goal_16 : decode cX7_goal 16 = .ok (.invokevirtual 163, 3) := dchk_at dall_X7_goal_40_pub03_0 (k := 12) rfl
theorem dX7_goal_19 : decode cX7_goal 19 = .ok (.ifCond .ge 7, 3) := dchk_at dall_X7_goal_40_pub03_0 (k := 13) rfl
theorem dX7_goal_26 : decode cX7_goal 26 = .ok (.iload_n 2, 1) := dchk_at dall_X7_goal_40_pub03_0 (k := 14) rfl
theorem dX7_goal_27 : decode cX7_goal 27 = .ok (.ireturn, 1) := dchk_at dall_X7_goal_40_pub03_0 (k := 15) rfl
theorem dX7_goal_22 : decode cX7_goal 22 = .ok (.iconst (-1), 1) := dchk_at dall_X7_goal_40_pub03_0 (k := 16) rfl
theorem dX7_goal_23 : decode cX7_goal 23 = .ok (.goto 4, 3) := dchk_at dall_X7_goal_40_pub03_0 (k := 17) rfl
def dl_X7_goes_40_pub03_0 : List (Nat × Instr × Nat) := [(0, .aload_n 0, 1), (1, .getfield 35, 3), (4, .iload_n 1, 1), (5, .invokevirtual 120, 3), (8, .ifCond .eq 22, 3), (30, .iconst (-1), 1), (31, .ireturn, 1), (11, .iload_n 2, 1), (12, .ifCond .lt 18, 3), (15, .iload_n 2, 1), (16, .iconst 1, 1), (17, .if_icmp .gt 13, 3), (20, .aload_n 0, 1), (21, .getfield 35, 3), (24, .invokevirtual 170, 3), (27, .ifCond .eq 5, 3), (32, .aload_n 0, 1), (33, .getfield 35, 3), (36, .iload_n 1, 1), (37, .iload_n 2, 1), (38, .iconst 1, 1), (39, .if_icmp .ne 7, 3), (46, .iconst 0, 1), (47, .invokevirtual 258, 3), (50, .ireturn, 1), (42, .iconst 1, 1), (43, .goto 4, 3)]
set_option maxRecDepth 100000 in
theorem dall_X7_goes_40_pub03_0 : dchk cX7_goes dl_X7_goes_40_pub03_0 = true := by decide +kernel
theorem dX7_goes_0 : decode cX7_goes 0 = .ok (.aload_n 0, 1) := dchk_at dall_X7_goes_40_pub03_0 (k := 0) rfl
theorem dX7_goes_1 : decode cX7_goes 1 = .ok (.getfield 35, 3) := dchk_at dall_X7_goes_40_pub03_0 (k := 1) rfl
theorem dX7_goes_4 : decode cX7_goes 4 = .ok (.iload_n 1, 1) := dchk_at dall_X7_goes_40_pub03_0 (k := 2) rfl
theorem dX7_goes_5 : decode cX7_goes 5 = .ok (.invokevirtual 120, 3) := dchk_at dall_X7_goes_40_pub03_0 (k := 3) rfl
theorem dX7_goes_8 : decode cX7_goes 8 = .ok (.ifCond .eq 22, 3) := dchk_at dall_X7_goes_40_pub03_0 (k := 4) rfl
theorem dX7_goes_30 : decode cX7_goes 30 = .ok (.iconst (-1), 1) := dchk_at dall_X7_goes_40_pub03_0 (k := 5) rfl
theorem dX7_goes_31 : decode cX7_goes 31 = .ok (.ireturn, 1) := dchk_at dall_X7_goes_40_pub03_0 (k := 6) rfl
theorem dX7_goes_11 : decode cX7_goes 11 = .ok (.iload_n 2, 1) := dchk_at dall_X7_goes_40_pub03_0 (k := 7) rfl
theorem dX7_goes_12 : decode cX7_goes 12 = .ok (.ifCond .lt 18, 3) := dchk_at dall_X7_goes_40_pub03_0 (k := 8) rfl
theorem dX7_goes_15 : decode cX7_goes 15 = .ok (.iload_n 2, 1) := dchk_at dall_X7_goes_40_pub03_0 (k := 9) rfl
theorem dX7_goes_16 : decode cX7_goes 16 = .ok (.iconst 1, 1) := dchk_at dall_X7_goes_40_pub03_0 (k := 10) rfl
theorem dX7_goes_17 : decode cX7_goes 17 = .ok (.if_icmp .gt 13, 3) := dchk_at dall_X7_goes_40_pub03_0 (k := 11) rfl
theorem dX7_goes_20 : decode cX7_goes 20 = .ok (.aload_n 0, 1) := dchk_at dall_X7_goes_40_pub03_0 (k := 12) rfl
theorem dX7_goes_21 : decode cX7_goes 21 = .ok (.getfield 35, 3) := dchk_at dall_X7_goes_40_pub03_0 (k := 13) rfl
theorem dX7_goes_24 : decode cX7_goes 24 = .ok (.invokevirtual 170, 3) := dchk_at dall_X7_goes_40_pub03_0 (k := 14) rfl
theorem dX7_goes_27 : decode cX7_goes 27 = .ok (.ifCond .eq 5, 3) := dchk_at dall_X7_goes_40_pub03_0 (k := 15) rfl
theorem dX7_goes_32 : decode cX7_goes 32 = .ok (.aload_n 0, 1) := dchk_at dall_X7_goes_40_pub03_0 (k := 16) rfl
theorem dX7_goes_33 : decode cX7_goes 33 = .ok (.getfield 35, 3) := dchk_at dall_X7_goes_40_pub03_0 (k := 17) rfl
theorem dX7_goes_36 : decode cX7_goes 36 = .ok (.iload_n 1, 1) := dchk_at dall_X7_goes_40_pub03_0 (k := 18) rfl
theorem dX7_goes_37 : decode cX7_goes 37 = .ok (.iload_n 2, 1) := dchk_at dall_X7_goes_40_pub03_0 (k := 19) rfl
theorem dX7_goes_38 : decode cX7_goes 38 = .ok (.iconst 1, 1) := dchk_at dall_X7_goes_40_pub03_0 (k := 20) rfl
theorem dX7_goes_39 : decode cX7_goes 39 = .ok (.if_icmp .ne 7, 3) := dchk_at dall_X7_goes_40_pub03_0 (k := 21) rfl
theorem dX7_goes_46 : decode cX7_goes 46 = .ok (.iconst 0, 1) := dchk_at dall_X7_goes_40_pub03_0 (k := 22) rfl
theorem dX7_goes_47 : decode cX7_goes 47 = .ok (.invokevirtual 258, 3) := dchk_at dall_X7_goes_40_pub03_0 (k := 23) rfl
theorem dX7_goes_50 : decode cX7_goes 50 = .ok (.ireturn, 1) := dchk_at dall_X7_goes_40_pub03_0 (k := 24) rfl
theorem dX7_goes_42 : decode cX7_goes 42 = .ok (.iconst 1, 1) := dchk_at dall_X7_goes_40_pub03_0 (k := 25) rfl
theorem dX7_goes_43 : decode cX7_goes 43 = .ok (.goto 4, 3) := dchk_at dall_X7_goes_40_pub03_0 (k := 26) rfl
def dl_X7_loggedActs_40_pub03_0 : List (Nat × Instr × Nat) := [(0, .aload_n 0, 1), (1, .getfield 35, 3), (4, .getfield 114, 3), (7, .bipush 16, 2), (9, .iaload, 1), (10, .bipush 60, 2), (12, .invokestatic 327, 3), (15, .ireturn, 1)]
set_option maxRecDepth 100000 in
theorem dall_X7_loggedActs_40_pub03_0 : dchk cX7_loggedActs dl_X7_loggedActs_40_pub03_0 = true := by decide +kernel
theorem dX7_loggedActs_0 : decode cX7_loggedActs 0 = .ok (.aload_n 0, 1) := dchk_at dall_X7_loggedActs_40_pub03_0 (k := 0) rfl
theorem dX7_loggedActs_1 : decode cX7_loggedActs 1 = .ok (.getfield 35, 3) := dchk_at dall_X7_loggedActs_40_pub03_0 (k := 1) rfl
theorem dX7_loggedActs_4 : decode cX7_loggedActs 4 = .ok (.getfield 114, 3) := dchk_at dall_X7_loggedActs_40_pub03_0 (k := 2) rfl
theorem dX7_loggedActs_7 : decode cX7_loggedActs 7 = .ok (.bipush 16, 2) := dchk_at dall_X7_loggedActs_40_pub03_0 (k := 3) rfl
theorem dX7_loggedActs_9 : decode cX7_loggedActs 9 = .ok (.iaload, 1) := dchk_at dall_X7_loggedActs_40_pub03_0 (k := 4) rfl
theorem dX7_loggedActs_10 : decode cX7_loggedActs 10 = .ok (.bipush 60, 2) := dchk_at dall_X7_loggedActs_40_pub03_0 (k := 5) rfl
theorem dX7_loggedActs_12 : decode cX7_loggedActs 12 = .ok (.invokestatic 327, 3) := dchk_at dall_X7_loggedActs_40_pub03_0 (k := 6) rfl
theorem dX7_loggedActs_15 : decode cX7_loggedActs 15 = .ok (.ireturn, 1) := dchk_at dall_X7_loggedActs_40_pub03_0 (k := 7) rfl
def dl_X7_held_40_pub03_0 : List (Nat × Instr × Nat) := [(0, .iload_n 1, 1), (1, .tableswitch 72 0 4 #[35, 43, 51, 59, 64], 35), (36, .aload_n 0, 1), (37, .getfield 35, 3), (40, .invokevirtual 117, 3), (43, .ireturn, 1), (44, .aload_n 0, 1), (45, .getfield 28, 3), (48, .getfield 317, 3), (51, .ireturn, 1), (52, .aload_n 0, 1), (53, .getfield 10, 3), (56, .getfield 81, 3), (59, .ireturn, 1), (60, .aload_n 0, 1), (61, .invokevirtual 204, 3), (64, .ireturn, 1), (65, .aload_n 0, 1), (66, .getfield 58, 3), (69, .getfield 201, 3), (72, .ireturn, 1), (73, .ldc 113, 2), (75, .ireturn, 1)]
set_option maxRecDepth 100000 in
theorem dall_X7_held_40_pub03_0 : dchk cX7_held dl_X7_held_40_pub03_0 = true := by decide +kernel
theorem dX7_held_0 : decode cX7_held 0 = .ok (.iload_n 1, 1) := dchk_at dall_X7_held_40_pub03_0 (k := 0) rfl
theorem dX7_held_1 : decode cX7_held 1 = .ok (.tableswitch 72 0 4 #[35, 43, 51, 59, 64], 35) := dchk_at dall_X7_held_40_pub03_0 (k := 1) rfl
theorem dX7_held_36 : decode cX7_held 36 = .ok (.aload_n 0, 1) := dchk_at dall_X7_held_40_pub03_0 (k := 2) rfl
theorem dX7_held_37 : decode cX7_held 37 = .ok (.getfield 35, 3) := dchk_at dall_X7_held_40_pub03_0 (k := 3) rfl
theorem dX7_held_40 : decode cX7_held 40 = .ok (.invokevirtual 117, 3) := dchk_at dall_X7_held_40_pub03_0 (k := 4) rfl
theorem dX7_held_43 : decode cX7_held 43 = .ok (.ireturn, 1) := dchk_at dall_X7_held_40_pub03_0 (k := 5) rfl
theorem dX7_held_44 : decode cX7_held 44 = .ok (.aload_n 0, 1) := dchk_at dall_X7_held_40_pub03_0 (k := 6) rfl
theorem dX7_held_45 : decode cX7_held 45 = .ok (.getfield 28, 3) := dchk_at dall_X7_held_40_pub03_0 (k := 7) rfl
theorem dX7_held_48 : decode cX7_held 48 = .ok (.getfield 317, 3) := dchk_at dall_X7_held_40_pub03_0 (k := 8) rfl
theorem dX7_held_51 : decode cX7_held 51 = .ok (.ireturn, 1) := dchk_at dall_X7_held_40_pub03_0 (k := 9) rfl
theorem dX7_held_52 : decode cX7_held 52 = .ok (.aload_n 0, 1) := dchk_at dall_X7_held_40_pub03_0 (k := 10) rfl
theorem dX7_held_53 : decode cX7_held 53 = .ok (.getfield 10, 3) := dchk_at dall_X7_held_40_pub03_0 (k := 11) rfl
theorem dX7_held_56 : decode cX7_held 56 = .ok (.getfield 81, 3) := dchk_at dall_X7_held_40_pub03_0 (k := 12) rfl
theorem dX7_held_59 : decode cX7_held 59 = .ok (.ireturn, 1) := dchk_at dall_X7_held_40_pub03_0 (k := 13) rfl
theorem dX7_held_60 : decode cX7_held 60 = .ok (.aload_n 0, 1) := dchk_at dall_X7_held_40_pub03_0 (k := 14) rfl
theorem dX7_held_61 : decode cX7_held 61 = .ok (.invokevirtual 204, 3) := dchk_at dall_X7_held_40_pub03_0 (k := 15) rfl
theorem dX7_held_64 : decode cX7_held 64 = .ok (.ireturn, 1) := dchk_at dall_X7_held_40_pub03_0 (k := 16) rfl
theorem dX7_held_65 : decode cX7_held 65 = .ok (.aload_n 0, 1) := dchk_at dall_X7_held_40_pub03_0 (k := 17) rfl
theorem dX7_held_66 : decode cX7_held 66 = .ok (.getfield 58, 3) := dchk_at dall_X7_held_40_pub03_0 (k := 18) rfl
theorem dX7_held_69 : decode cX7_held 69 = .ok (.getfield 201, 3) := dchk_at dall_X7_held_40_pub03_0 (k := 19) rfl
theorem dX7_held_72 : decode cX7_held 72 = .ok (.ireturn, 1) := dchk_at dall_X7_held_40_pub03_0 (k := 20) rfl
theorem dX7_held_73 : decode cX7_held 73 = .ok (.ldc 113, 2) := dchk_at dall_X7_held_40_pub03_0 (k := 21) rfl
theorem dX7_held_75 : decode cX7_held 75 = .ok (.ireturn, 1) := dchk_at dall_X7_held_40_pub03_0 (k := 22) rfl
def dl_X7_image_40_pub03_0 : List (Nat × Instr × Nat) := [(0, .aload_n 0, 1), (1, .getfield 35, 3), (4, .invokevirtual 110, 3), (7, .ifCond .ne 5, 3), (12, .aload_n 0, 1), (13, .getfield 42, 3), (16, .aload_n 0, 1), (17, .getfield 35, 3), (20, .invokevirtual 237, 3), (23, .aload_n 0, 1), (24, .getfield 52, 3), (27, .aload_n 0, 1), (28, .getfield 48, 3), (31, .invokevirtual 311, 3), (34, .aload_n 0, 1), (35, .iconst 1, 1), (36, .putfield 73, 3), (39, .aload_n 0, 1), (40, .getfield 35, 3), (43, .getfield 114, 3), (46, .bipush 11, 2), (48, .iaload, 1), (49, .ireturn, 1), (10, .iconst (-1), 1), (11, .ireturn, 1)]
set_option maxRecDepth 100000 in
theorem dall_X7_image_40_pub03_0 : dchk cX7_image dl_X7_image_40_pub03_0 = true := by decide +kernel
theorem dX7_image_0 : decode cX7_image 0 = .ok (.aload_n 0, 1) := dchk_at dall_X7_image_40_pub03_0 (k := 0) rfl
theorem dX7_image_1 : decode cX7_image 1 = .ok (.getfield 35, 3) := dchk_at dall_X7_image_40_pub03_0 (k := 1) rfl
theorem dX7_image_4 : decode cX7_image 4 = .ok (.invokevirtual 110, 3) := dchk_at dall_X7_image_40_pub03_0 (k := 2) rfl
theorem dX7_image_7 : decode cX7_image 7 = .ok (.ifCond .ne 5, 3) := dchk_at dall_X7_image_40_pub03_0 (k := 3) rfl
theorem dX7_image_12 : decode cX7_image 12 = .ok (.aload_n 0, 1) := dchk_at dall_X7_image_40_pub03_0 (k := 4) rfl
theorem dX7_image_13 : decode cX7_image 13 = .ok (.getfield 42, 3) := dchk_at dall_X7_image_40_pub03_0 (k := 5) rfl
theorem dX7_image_16 : decode cX7_image 16 = .ok (.aload_n 0, 1) := dchk_at dall_X7_image_40_pub03_0 (k := 6) rfl
theorem dX7_image_17 : decode cX7_image 17 = .ok (.getfield 35, 3) := dchk_at dall_X7_image_40_pub03_0 (k := 7) rfl
theorem dX7_image_20 : decode cX7_image 20 = .ok (.invokevirtual 237, 3) := dchk_at dall_X7_image_40_pub03_0 (k := 8) rfl
theorem dX7_image_23 : decode cX7_image 23 = .ok (.aload_n 0, 1) := dchk_at dall_X7_image_40_pub03_0 (k := 9) rfl
theorem dX7_image_24 : decode cX7_image 24 = .ok (.getfield 52, 3) := dchk_at dall_X7_image_40_pub03_0 (k := 10) rfl
theorem dX7_image_27 : decode cX7_image 27 = .ok (.aload_n 0, 1) := dchk_at dall_X7_image_40_pub03_0 (k := 11) rfl
theorem dX7_image_28 : decode cX7_image 28 = .ok (.getfield 48, 3) := dchk_at dall_X7_image_40_pub03_0 (k := 12) rfl
theorem dX7_image_31 : decode cX7_image 31 = .ok (.invokevirtual 311, 3) := dchk_at dall_X7_image_40_pub03_0 (k := 13) rfl
theorem dX7_image_34 : decode cX7_image 34 = .ok (.aload_n 0, 1) := dchk_at dall_X7_image_40_pub03_0 (k := 14) rfl
theorem dX7_image_35 : decode cX7_image 35 = .ok (.iconst 1, 1) := dchk_at dall_X7_image_40_pub03_0 (k := 15) rfl
theorem dX7_image_36 : decode cX7_image 36 = .ok (.putfield 73, 3) := dchk_at dall_X7_image_40_pub03_0 (k := 16) rfl
theorem dX7_image_39 : decode cX7_image 39 = .ok (.aload_n 0, 1) := dchk_at dall_X7_image_40_pub03_0 (k := 17) rfl
theorem dX7_image_40 : decode cX7_image 40 = .ok (.getfield 35, 3) := dchk_at dall_X7_image_40_pub03_0 (k := 18) rfl
theorem dX7_image_43 : decode cX7_image 43 = .ok (.getfield 114, 3) := dchk_at dall_X7_image_40_pub03_0 (k := 19) rfl
theorem dX7_image_46 : decode cX7_image 46 = .ok (.bipush 11, 2) := dchk_at dall_X7_image_40_pub03_0 (k := 20) rfl
theorem dX7_image_48 : decode cX7_image 48 = .ok (.iaload, 1) := dchk_at dall_X7_image_40_pub03_0 (k := 21) rfl
theorem dX7_image_49 : decode cX7_image 49 = .ok (.ireturn, 1) := dchk_at dall_X7_image_40_pub03_0 (k := 22) rfl
theorem dX7_image_10 : decode cX7_image 10 = .ok (.iconst (-1), 1) := dchk_at dall_X7_image_40_pub03_0 (k := 23) rfl
theorem dX7_image_11 : decode cX7_image 11 = .ok (.ireturn, 1) := dchk_at dall_X7_image_40_pub03_0 (k := 24) rfl
def dl_X7_isWay_40_pub03_0 : List (Nat × Instr × Nat) := [(0, .iload_n 0, 1), (1, .iload_n 1, 1), (2, .invokestatic 336, 3), (5, .ifCond .eq 15, 3), (20, .iconst 0, 1), (21, .ireturn, 1), (8, .iload_n 0, 1), (9, .ifCond .ne 7, 3), (16, .iconst 1, 1), (17, .goto 4, 3), (12, .iload_n 1, 1), (13, .ifCond .eq 7, 3)]
set_option maxRecDepth 100000 in
theorem dall_X7_isWay_40_pub03_0 : dchk cX7_isWay dl_X7_isWay_40_pub03_0 = true := by decide +kernel
theorem dX7_isWay_0 : decode cX7_isWay 0 = .ok (.iload_n 0, 1) := dchk_at dall_X7_isWay_40_pub03_0 (k := 0) rfl
theorem dX7_isWay_1 : decode cX7_isWay 1 = .ok (.iload_n 1, 1) := dchk_at dall_X7_isWay_40_pub03_0 (k := 1) rfl
theorem dX7_isWay_2 : decode cX7_isWay 2 = .ok (.invokestatic 336, 3) := dchk_at dall_X7_isWay_40_pub03_0 (k := 2) rfl
theorem dX7_isWay_5 : decode cX7_isWay 5 = .ok (.ifCond .eq 15, 3) := dchk_at dall_X7_isWay_40_pub03_0 (k := 3) rfl
theorem dX7_isWay_20 : decode cX7_isWay 20 = .ok (.iconst 0, 1) := dchk_at dall_X7_isWay_40_pub03_0 (k := 4) rfl
theorem dX7_isWay_21 : decode cX7_isWay 21 = .ok (.ireturn, 1) := dchk_at dall_X7_isWay_40_pub03_0 (k := 5) rfl
theorem dX7_isWay_8 : decode cX7_isWay 8 = .ok (.iload_n 0, 1) := dchk_at dall_X7_isWay_40_pub03_0 (k := 6) rfl
theorem dX7_isWay_9 : decode cX7_isWay 9 = .ok (.ifCond .ne 7, 3) := dchk_at dall_X7_isWay_40_pub03_0 (k := 7) rfl
theorem dX7_isWay_16 : decode cX7_isWay 16 = .ok (.iconst 1, 1) := dchk_at dall_X7_isWay_40_pub03_0 (k := 8) rfl
theorem dX7_isWay_17 : decode cX7_isWay 17 = .ok (.goto 4, 3) := dchk_at dall_X7_isWay_40_pub03_0 (k := 9) rfl
theorem dX7_isWay_12 : decode cX7_isWay 12 = .ok (.iload_n 1, 1) := dchk_at dall_X7_isWay_40_pub03_0 (k := 10) rfl
theorem dX7_isWay_13 : decode cX7_isWay 13 = .ok (.ifCond .eq 7, 3) := dchk_at dall_X7_isWay_40_pub03_0 (k := 11) rfl
def dl_X7_keepScript_40_pub03_0 : List (Nat × Instr × Nat) := [(0, .aload_n 0, 1), (1, .getfield 28, 3), (4, .aload_n 0, 1), (5, .getfield 21, 3), (8, .invokevirtual 322, 3), (11, .aload_n 0, 1), (12, .getfield 10, 3), (15, .iconst 0, 1), (16, .invokevirtual 89, 3), (19, .pop, 1), (20, .aload_n 0, 1), (21, .getfield 28, 3), (24, .getfield 317, 3), (27, .iconst 1, 1), (28, .isub, 1), (29, .ireturn, 1)]
set_option maxRecDepth 100000 in
theorem dall_X7_keepScript_40_pub03_0 : dchk cX7_keepScript dl_X7_keepScript_40_pub03_0 = true := by decide +kernel
theorem dX7_keepScript_0 : decode cX7_keepScript 0 = .ok (.aload_n 0, 1) := dchk_at dall_X7_keepScript_40_pub03_0 (k := 0) rfl
theorem dX7_keepScript_1 : decode cX7_keepScript 1 = .ok (.getfield 28, 3) := dchk_at dall_X7_keepScript_40_pub03_0 (k := 1) rfl
theorem dX7_keepScript_4 : decode cX7_keepScript 4 = .ok (.aload_n 0, 1) := dchk_at dall_X7_keepScript_40_pub03_0 (k := 2) rfl
theorem dX7_keepScript_5 : decode cX7_keepScript 5 = .ok (.getfield 21, 3) := dchk_at dall_X7_keepScript_40_pub03_0 (k := 3) rfl
theorem dX7_keepScript_8 : decode cX7_keepScript 8 = .ok (.invokevirtual 322, 3) := dchk_at dall_X7_keepScript_40_pub03_0 (k := 4) rfl
theorem dX7_keepScript_11 : decode cX7_keepScript 11 = .ok (.aload_n 0, 1) := dchk_at dall_X7_keepScript_40_pub03_0 (k := 5) rfl
theorem dX7_keepScript_12 : decode cX7_keepScript 12 = .ok (.getfield 10, 3) := dchk_at dall_X7_keepScript_40_pub03_0 (k := 6) rfl
theorem dX7_keepScript_15 : decode cX7_keepScript 15 = .ok (.iconst 0, 1) := dchk_at dall_X7_keepScript_40_pub03_0 (k := 7) rfl
theorem dX7_keepScript_16 : decode cX7_keepScript 16 = .ok (.invokevirtual 89, 3) := dchk_at dall_X7_keepScript_40_pub03_0 (k := 8) rfl
theorem dX7_keepScript_19 : decode cX7_keepScript 19 = .ok (.pop, 1) := dchk_at dall_X7_keepScript_40_pub03_0 (k := 9) rfl
theorem dX7_keepScript_20 : decode cX7_keepScript 20 = .ok (.aload_n 0, 1) := dchk_at dall_X7_keepScript_40_pub03_0 (k := 10) rfl
theorem dX7_keepScript_21 : decode cX7_keepScript 21 = .ok (.getfield 28, 3) := dchk_at dall_X7_keepScript_40_pub03_0 (k := 11) rfl
theorem dX7_keepScript_24 : decode cX7_keepScript 24 = .ok (.getfield 317, 3) := dchk_at dall_X7_keepScript_40_pub03_0 (k := 12) rfl
theorem dX7_keepScript_27 : decode cX7_keepScript 27 = .ok (.iconst 1, 1) := dchk_at dall_X7_keepScript_40_pub03_0 (k := 13) rfl
theorem dX7_keepScript_28 : decode cX7_keepScript 28 = .ok (.isub, 1) := dchk_at dall_X7_keepScript_40_pub03_0 (k := 14) rfl
theorem dX7_keepScript_29 : decode cX7_keepScript 29 = .ok (.ireturn, 1) := dchk_at dall_X7_keepScript_40_pub03_0 (k := 15) rfl
def dl_X7_law_40_pub03_0 : List (Nat × Instr × Nat) := [(0, .aload_n 0, 1), (1, .getfield 35, 3), (4, .getfield 114, 3), (7, .iconst 0, 1), (8, .iaload, 1), (9, .istore_n 2, 1), (10, .aload_n 0, 1), (11, .iconst 3, 1), (12, .iload_n 1, 1), (13, .iconst 0, 1), (14, .iconst 0, 1), (15, .iconst 1, 1), (16, .invokevirtual 163, 3), (19, .ifCond .ge 7, 3), (26, .iload_n 2, 1), (27, .ireturn, 1), (22, .iconst (-1), 1), (23, .goto 4, 3)]
set_option maxRecDepth 100000 in
theorem dall_X7_law_40_pub03_0 : dchk cX7_law dl_X7_law_40_pub03_0 = true := by decide +kernel
theorem dX7_law_0 : decode cX7_law 0 = .ok (.aload_n 0, 1) := dchk_at dall_X7_law_40_pub03_0 (k := 0) rfl
theorem dX7_law_1 : decode cX7_law 1 = .ok (.getfield 35, 3) := dchk_at dall_X7_law_40_pub03_0 (k := 1) rfl
theorem dX7_law_4 : decode cX7_law 4 = .ok (.getfield 114, 3) := dchk_at dall_X7_law_40_pub03_0 (k := 2) rfl
theorem dX7_law_7 : decode cX7_law 7 = .ok (.iconst 0, 1) := dchk_at dall_X7_law_40_pub03_0 (k := 3) rfl
theorem dX7_law_8 : decode cX7_law 8 = .ok (.iaload, 1) := dchk_at dall_X7_law_40_pub03_0 (k := 4) rfl
theorem dX7_law_9 : decode cX7_law 9 = .ok (.istore_n 2, 1) := dchk_at dall_X7_law_40_pub03_0 (k := 5) rfl
theorem dX7_law_10 : decode cX7_law 10 = .ok (.aload_n 0, 1) := dchk_at dall_X7_law_40_pub03_0 (k := 6) rfl
theorem dX7_law_11 : decode cX7_law 11 = .ok (.iconst 3, 1) := dchk_at dall_X7_law_40_pub03_0 (k := 7) rfl
theorem dX7_law_12 : decode cX7_law 12 = .ok (.iload_n 1, 1) := dchk_at dall_X7_law_40_pub03_0 (k := 8) rfl
theorem dX7_law_13 : decode cX7_law 13 = .ok (.iconst 0, 1) := dchk_at dall_X7_law_40_pub03_0 (k := 9) rfl
theorem dX7_law_14 : decode cX7_law 14 = .ok (.iconst 0, 1) := dchk_at dall_X7_law_40_pub03_0 (k := 10) rfl
theorem dX7_law_15 : decode cX7_law 15 = .ok (.iconst 1, 1) := dchk_at dall_X7_law_40_pub03_0 (k := 11) rfl
theorem dX7_law_16 : decode cX7_law 16 = .ok (.invokevirtual 163, 3) := dchk_at dall_X7_law_40_pub03_0 (k := 12) rfl
theorem dX7_law_19 : decode cX7_law 19 = .ok (.ifCond .ge 7, 3) := dchk_at dall_X7_law_40_pub03_0 (k := 13) rfl
theorem dX7_law_26 : decode cX7_law 26 = .ok (.iload_n 2, 1) := dchk_at dall_X7_law_40_pub03_0 (k := 14) rfl
theorem dX7_law_27 : decode cX7_law 27 = .ok (.ireturn, 1) := dchk_at dall_X7_law_40_pub03_0 (k := 15) rfl
theorem dX7_law_22 : decode cX7_law 22 = .ok (.iconst (-1), 1) := dchk_at dall_X7_law_40_pub03_0 (k := 16) rfl
theorem dX7_law_23 : decode cX7_law 23 = .ok (.goto 4, 3) := dchk_at dall_X7_law_40_pub03_0 (k := 17) rfl
def F_X7_goal (K : Nat) (p1 : Int32) (c_now_row : Nat → Int32) (c_now_partners : Nat → Int32) (c_now_askedCount : Int32) (c_now_outcome : Int32) (c_now_share : Nat → Int32) (c_now_leftOver : Nat → Int32) (c_book_lines : Nat → Int32) (c_history_rows : Nat → Int32) (c_history_next : Int32) (c_history_held : Int32) (c_refused : Nat → Int32) : Option (Int32 × (Nat → Int32) × (Nat → Int32) × Int32 × Int32 × (Nat → Int32) × (Nat → Int32) × (Nat → Int32) × (Nat → Int32) × Int32 × Int32 × (Nat → Int32)) :=
  bd12 (F_X7_act K (5 : Int32) p1 (0 : Int32) (0 : Int32) (1 : Int32) c_now_row c_now_partners c_now_askedCount c_now_outcome c_now_share c_now_leftOver c_book_lines c_history_rows c_history_next c_history_held c_refused) (fun r_1 w_2 w_3 w_4 w_5 w_6 w_7 w_8 w_9 w_10 w_11 w_12 => if (0 : Int32) ≤ r_1 then some (c_now_row 2, w_2, w_3, w_4, w_5, w_6, w_7, w_8, w_9, w_10, w_11, w_12) else some ((-1 : Int32), w_2, w_3, w_4, w_5, w_6, w_7, w_8, w_9, w_10, w_11, w_12))
abbrev w_X7_goal (E : EE) (a_ a_tape a_reader a_scripts a_now a_trial a_kept a_book a_keptBook a_history a_draws a_refused a_now_row a_now_partners a_now_share a_now_leftOver a_book_lines a_history_rows : Nat) (c_hasImage : Int32) (c_now_askedCount : Int32) (c_now_outcome : Int32) (c_now_row : Nat → Int32) (c_now_partners : Nat → Int32) (c_now_share : Nat → Int32) (c_now_leftOver : Nat → Int32) (c_book_lines : Nat → Int32) (c_history_next : Int32) (c_history_held : Int32) (c_history_rows : Nat → Int32) (c_refused : Nat → Int32) : va_W := [(a_, .inr (8, [.ref a_tape, .ref a_reader, .ref a_scripts, .ref a_now, .ref a_trial, .ref a_kept, .ref a_book, .ref a_keptBook, .ref a_history, .ref a_draws, .ref a_refused, .int c_hasImage])), (a_now, .inr (6, [.ref a_now_row, .ref a_now_partners, .int c_now_askedCount, .int c_now_outcome, .ref a_now_share, .ref a_now_leftOver])), (a_now_row, .inl (E.2.1, 81, .inl c_now_row)), (a_now_partners, .inl (E.2.1, 8, .inl c_now_partners)), (a_now_share, .inl (E.2.1, 2, .inl c_now_share)), (a_now_leftOver, .inl (E.2.1, 2, .inl c_now_leftOver)), (a_book, .inr (1, [.ref a_book_lines])), (a_book_lines, .inl (E.2.1, 300, .inl c_book_lines)), (a_history, .inr (3, [.ref a_history_rows, .int c_history_next, .int c_history_held])), (a_history_rows, .inl (E.2.1, 3240, .inl c_history_rows)), (a_refused, .inl (E.2.1, 3, .inl c_refused))]
def v_f_X7_goal : List Cond := List.cons (.code yX7_goal cX7_goal 3 (some .int)) (HAppend.hAppend (α := List Cond) (β := List Cond) (γ := List Cond) [.fieldLink RX7 35 "HushWatch" "now" "LHushWatch$State;", .methodLink RX7 163 yX7_act, .instanceMethod yX7_act, .selects RX7 yX7_act yX7_act, .initialized RX7] (HAppend.hAppend (α := List Cond) (β := List Cond) (γ := List Cond) wsX70 (HAppend.hAppend (α := List Cond) (β := List Cond) (γ := List Cond) wsX50 (HAppend.hAppend (α := List Cond) (β := List Cond) (γ := List Cond) v_f_X7_act []))))
theorem gw_f_X7_goal : v_f_X7_goal.all goodWord = true := by decide +kernel
theorem i_f_X7_goal_X7 : ∀ w ∈ wsX70, w ∈ v_f_X7_goal := fun _ h => List.mem_cons_of_mem _ (List.mem_append_right _ (List.mem_append_left _ h))
theorem i_f_X7_goal_X5 : ∀ w ∈ wsX50, w ∈ v_f_X7_goal := fun _ h => List.mem_cons_of_mem _ (List.mem_append_right _ (List.mem_append_right _ (List.mem_append_left _ h)))
theorem g_f_X7_goal_f_X7_act_163 : GoodIn v_f_X7_goal (wsV RX7 163 RX7 yX7_act v_f_X7_act) := goodIn_app (goodIn_of _ (by decide +kernel)) (goodIn_sub (fun _ h => List.mem_cons_of_mem _ (List.mem_append_right _ (List.mem_append_right _ (List.mem_append_right _ (List.mem_append_left _ h))))) gw_f_X7_act)
theorem hd_X7_goal : yX7_goal.cls = RX7 ∧ yX7_goal.cls ≠ "java/lang/invoke/MethodHandle" ∧ yX7_goal.cls ≠ "java/lang/invoke/VarHandle" ∧ (parseMethodDescriptor yX7_goal.desc).map (fun d => d.parameters.length) = some 1 := by decide +kernel
set_option maxHeartbeats 4000000 in
set_option maxRecDepth 100000 in
theorem f_X7_goal (l : Launch) (E : EE) (sz : Nat) (K : Nat) {a_ a_tape a_reader a_scripts a_now a_trial a_kept a_book a_keptBook a_history a_draws a_refused a_now_row a_now_partners a_now_share a_now_leftOver a_book_lines a_history_rows : Nat} {p1 : Int32} {c_hasImage : Int32} {c_now_askedCount : Int32} {c_now_outcome : Int32} {c_now_row : Nat → Int32} {c_now_partners : Nat → Int32} {c_now_share : Nat → Int32} {c_now_leftOver : Nat → Int32} {c_book_lines : Nat → Int32} {c_history_next : Int32} {c_history_held : Int32} {c_history_rows : Nat → Int32} {c_refused : Nat → Int32} {rr : Int32} {n_now_row : Nat → Int32} {n_now_partners : Nat → Int32} {n_now_askedCount : Int32} {n_now_outcome : Int32} {n_now_share : Nat → Int32} {n_now_leftOver : Nat → Int32} {n_book_lines : Nat → Int32} {n_history_rows : Nat → Int32} {n_history_next : Int32} {n_history_held : Int32} {n_refused : Nat → Int32} (hF : F_X7_goal K p1 c_now_row c_now_partners c_now_askedCount c_now_outcome c_now_share c_now_leftOver c_book_lines c_history_rows c_history_next c_history_held c_refused = some (rr, n_now_row, n_now_partners, n_now_askedCount, n_now_outcome, n_now_share, n_now_leftOver, n_book_lines, n_history_rows, n_history_next, n_history_held, n_refused)) : Met l yX7_goal v_f_X7_goal (({ frames := 6, cells := 0, slots := 0, locals := 151 } : Room)) (va_Pc [.ref a_, .int p1] (pW E sz (w_X7_goal E a_ a_tape a_reader a_scripts a_now a_trial a_kept a_book a_keptBook a_history a_draws a_refused a_now_row a_now_partners a_now_share a_now_leftOver a_book_lines a_history_rows c_hasImage c_now_askedCount c_now_outcome c_now_row c_now_partners c_now_share c_now_leftOver c_book_lines c_history_next c_history_held c_history_rows c_refused))) (va_Qi (fun (q : Int32) (_u : Unit) => q = rr) (fun (_u : Unit) tt => va_P E.1 vwCl (w_X7_goal E a_ a_tape a_reader a_scripts a_now a_trial a_kept a_book a_keptBook a_history a_draws a_refused a_now_row a_now_partners a_now_share a_now_leftOver a_book_lines a_history_rows c_hasImage n_now_askedCount n_now_outcome n_now_row n_now_partners n_now_share n_now_leftOver n_book_lines n_history_next n_history_held n_history_rows n_refused) tt.heap ∧ va_D (va_A (w_X7_goal E a_ a_tape a_reader a_scripts a_now a_trial a_kept a_book a_keptBook a_history a_draws a_refused a_now_row a_now_partners a_now_share a_now_leftOver a_book_lines a_history_rows c_hasImage c_now_askedCount c_now_outcome c_now_row c_now_partners c_now_share c_now_leftOver c_book_lines c_history_next c_history_held c_history_rows c_refused) sz) (w_X7_goal E a_ a_tape a_reader a_scripts a_now a_trial a_kept a_book a_keptBook a_history a_draws a_refused a_now_row a_now_partners a_now_share a_now_leftOver a_book_lines a_history_rows c_hasImage n_now_askedCount n_now_outcome n_now_row n_now_partners n_now_share n_now_leftOver n_book_lines n_history_next n_history_held n_history_rows n_refused)) (va_A (w_X7_goal E a_ a_tape a_reader a_scripts a_now a_trial a_kept a_book a_keptBook a_history a_draws a_refused a_now_row a_now_partners a_now_share a_now_leftOver a_book_lines a_history_rows c_hasImage c_now_askedCount c_now_outcome c_now_row c_now_partners c_now_share c_now_leftOver c_book_lines c_history_next c_history_held c_history_rows c_refused) sz)) 0 0 (va_A (w_X7_goal E a_ a_tape a_reader a_scripts a_now a_trial a_kept a_book a_keptBook a_history a_draws a_refused a_now_row a_now_partners a_now_share a_now_leftOver a_book_lines a_history_rows c_hasImage c_now_askedCount c_now_outcome c_now_row c_now_partners c_now_share c_now_leftOver c_book_lines c_history_next c_history_held c_history_rows c_refused) sz) := by
  refine Met.ofW (cc := cX7_goal) (maxL := 3) (ret := (some .int)) (by decide) rfl ?_
  intro p e s m args below meth c s₁ B hml hv
  obtain ⟨rfl, hsz, ⟨hK, hN⟩, hP, hD0⟩ := hv
  have hx := B.exec
  have hb := B.bytes
  have hr := B.returns
  have hts := atoms_spec (ws := v_f_X7_goal) B.pre
  have hown : s.vm.findClass RX7 = some m.cls := own_of hd_X7_goal.1 (findClass_of_methodNamed B.named)
  have hlocks : meth.locks = false := B.notSynchronized
  subst hsz
  have hD := hD0.self (sz := s.heap.size)
  generalize hAe : va_A (w_X7_goal E a_ a_tape a_reader a_scripts a_now a_trial a_kept a_book a_keptBook a_history a_draws a_refused a_now_row a_now_partners a_now_share a_now_leftOver a_book_lines a_history_rows c_hasImage c_now_askedCount c_now_outcome c_now_row c_now_partners c_now_share c_now_leftOver c_book_lines c_history_next c_history_held c_history_rows c_refused) s.heap.size = A at hD ⊢
  have hA : ∀ q : Nat, s.heap.size ≤ q → A q := fun q h => by rw [← hAe]; exact Or.inr h
  have hS : va_S A s.heap s.heap [] := va_S.rf
  have hl := lv_entry ([.ref a_, .int p1]) (n := 3) (Nat.le_of_ble_eq_true rfl)
  rw [lg_entry_eq]
  generalize (lg_sl ([.ref a_, .int p1]) ++ List.replicate (3 - (lg_sl ([.ref a_, .int p1])).length) Slot.unset).toArray = ls at hl ⊢
  have hl : lv_has ls 3 [(0, .ref a_), (1, .int p1)] := hl
  obtain ⟨Q, hQ⟩ : ∃ Q : State → Prop, Q = MQ below (va_Qi (fun (q : Int32) (_u : Unit) => q = rr) (fun (_u : Unit) tt => va_P E.1 vwCl (w_X7_goal E a_ a_tape a_reader a_scripts a_now a_trial a_kept a_book a_keptBook a_history a_draws a_refused a_now_row a_now_partners a_now_share a_now_leftOver a_book_lines a_history_rows c_hasImage n_now_askedCount n_now_outcome n_now_row n_now_partners n_now_share n_now_leftOver n_book_lines n_history_next n_history_held n_history_rows n_refused) tt.heap ∧ va_D A (w_X7_goal E a_ a_tape a_reader a_scripts a_now a_trial a_kept a_book a_keptBook a_history a_draws a_refused a_now_row a_now_partners a_now_share a_now_leftOver a_book_lines a_history_rows c_hasImage n_now_askedCount n_now_outcome n_now_row n_now_partners n_now_share n_now_leftOver n_book_lines n_history_next n_history_held n_history_rows n_refused)) A) #[Value.ref a_, Value.int p1] s 0 0 A := ⟨_, rfl⟩
  rw [← hQ]
  change W p l e ({ frames := 6, cells := 0, slots := 0, locals := 151 } : Room) s m #[Value.ref a_, Value.int p1] below meth c s.heap [] 0 0 Q (F0 m 0 ls [])
  suffices hh9 : ∀ (H : Heap) (locs : List Loc), va_P E.1 vwCl (w_X7_goal E a_ a_tape a_reader a_scripts a_now a_trial a_kept a_book a_keptBook a_history a_draws a_refused a_now_row a_now_partners a_now_share a_now_leftOver a_book_lines a_history_rows c_hasImage c_now_askedCount c_now_outcome c_now_row c_now_partners c_now_share c_now_leftOver c_book_lines c_history_next c_history_held c_history_rows c_refused) H → va_D A (w_X7_goal E a_ a_tape a_reader a_scripts a_now a_trial a_kept a_book a_keptBook a_history a_draws a_refused a_now_row a_now_partners a_now_share a_now_leftOver a_book_lines a_history_rows c_hasImage c_now_askedCount c_now_outcome c_now_row c_now_partners c_now_share c_now_leftOver c_book_lines c_history_next c_history_held c_history_rows c_refused) → va_S A s.heap H locs → W p l e ({ frames := 6, cells := 0, slots := 0, locals := 151 } : Room) s m #[Value.ref a_, Value.int p1] below meth c H locs 0 0 Q (F0 m 0 ls []) from hh9 s.heap [] hP hD hS
  clear hP hD hS
  intro H locs hP hD hS
  replace hP : va_P E.1 vwCl [(a_, .inr (8, [.ref a_tape, .ref a_reader, .ref a_scripts, .ref a_now, .ref a_trial, .ref a_kept, .ref a_book, .ref a_keptBook, .ref a_history, .ref a_draws, .ref a_refused, .int c_hasImage])), (a_now, .inr (6, [.ref a_now_row, .ref a_now_partners, .int c_now_askedCount, .int c_now_outcome, .ref a_now_share, .ref a_now_leftOver])), (a_now_row, .inl (E.2.1, 81, .inl c_now_row)), (a_now_partners, .inl (E.2.1, 8, .inl c_now_partners)), (a_now_share, .inl (E.2.1, 2, .inl c_now_share)), (a_now_leftOver, .inl (E.2.1, 2, .inl c_now_leftOver)), (a_book, .inr (1, [.ref a_book_lines])), (a_book_lines, .inl (E.2.1, 300, .inl c_book_lines)), (a_history, .inr (3, [.ref a_history_rows, .int c_history_next, .int c_history_held])), (a_history_rows, .inl (E.2.1, 3240, .inl c_history_rows)), (a_refused, .inl (E.2.1, 3, .inl c_refused))] H := hP
  replace hD : va_D A [(a_, .inr (8, [.ref a_tape, .ref a_reader, .ref a_scripts, .ref a_now, .ref a_trial, .ref a_kept, .ref a_book, .ref a_keptBook, .ref a_history, .ref a_draws, .ref a_refused, .int c_hasImage])), (a_now, .inr (6, [.ref a_now_row, .ref a_now_partners, .int c_now_askedCount, .int c_now_outcome, .ref a_now_share, .ref a_now_leftOver])), (a_now_row, .inl (E.2.1, 81, .inl c_now_row)), (a_now_partners, .inl (E.2.1, 8, .inl c_now_partners)), (a_now_share, .inl (E.2.1, 2, .inl c_now_share)), (a_now_leftOver, .inl (E.2.1, 2, .inl c_now_leftOver)), (a_book, .inr (1, [.ref a_book_lines])), (a_book_lines, .inl (E.2.1, 300, .inl c_book_lines)), (a_history, .inr (3, [.ref a_history_rows, .int c_history_next, .int c_history_held])), (a_history_rows, .inl (E.2.1, 3240, .inl c_history_rows)), (a_refused, .inl (E.2.1, 3, .inl c_refused))] := hD
  unfold F_X7_goal at hF
  refine lv_aload_n hx hb dX7_goal_0 rfl (lv_at hl 0 rfl) ?_
  refine gt_X7_3 (v := .ref a_now) hx hb hts i_f_X7_goal_X7 hown hK hP 0 rfl (hts (.fieldLink RX7 35 "HushWatch" "now" "LHushWatch$State;") (List.mem_of_getElem? (i := 1) rfl)) rfl dX7_goal_1 ?_
  refine va_getN (D := E.1) (ci := 6) (v := .ref a_now_row) (C := RX5) (T := TX5) (N := 6) hx hb hts i_f_X7_goal_X5 hown hK hP 1 rfl rfl 0 (by decide) (nx hN 12 rfl) (fun _ h9 => h9) rfl dX7_goal_4 ?_
  refine lv_iconst (v := 2) hx hb dX7_goal_7 (by decide) ?_
  refine va_iald hx hb hK hP 2 0 rfl rfl (vin rfl) dX7_goal_8 ?_
  refine W.eq (g2 := F0 m 9 ls [.int (c_now_row 2)]) rfl ?_
  refine lv_istore_n (lv' := [(2, .int (c_now_row 2)), (0, .ref a_), (1, .int p1)]) hx hb dX7_goal_9 rfl hl (by decide) rfl (fun ls hl => ?_)
  refine lv_aload_n hx hb dX7_goal_10 rfl (lv_at hl 1 rfl) ?_
  refine lv_iconst (v := 5) hx hb dX7_goal_11 (by decide) ?_
  refine lv_iload_n hx hb dX7_goal_12 rfl (lv_at hl 2 rfl) ?_
  refine lv_iconst (v := 0) hx hb dX7_goal_13 (by decide) ?_
  refine lv_iconst (v := 0) hx hb dX7_goal_14 (by decide) ?_
  refine lv_iconst (v := 1) hx hb dX7_goal_15 (by decide) ?_
  replace hF := bd12_s hF
  obtain ⟨r_1, w_2, w_3, w_4, w_5, w_6, w_7, w_8, w_9, w_10, w_11, w_12, hc_13, hF⟩ := hF
  obtain ⟨hPc, hDc, hFc⟩ := wcut (wc := (w_X7_act E a_ a_tape a_reader a_scripts a_now a_trial a_kept a_book a_keptBook a_history a_draws a_refused a_now_row a_now_partners a_now_share a_now_leftOver a_book_lines a_history_rows c_hasImage c_now_askedCount c_now_outcome c_now_row c_now_partners c_now_share c_now_leftOver c_book_lines c_history_next c_history_held c_history_rows c_refused)) hP hD hS hA [0, 1, 2, 3, 4, 5, 6, 7, 8, 9, 10] (by decide) rfl
  have hrc := va_recv hK hPc (ci := 8) (q0 := 0) rfl rfl
  refine cE_i (wc := (w_X7_act E a_ a_tape a_reader a_scripts a_now a_trial a_kept a_book a_keptBook a_history a_draws a_refused a_now_row a_now_partners a_now_share a_now_leftOver a_book_lines a_history_rows c_hasImage c_now_askedCount c_now_outcome c_now_row c_now_partners c_now_share c_now_leftOver c_book_lines c_history_next c_history_held c_history_rows c_refused)) (wr := []) (w1 := (w_X7_act E a_ a_tape a_reader a_scripts a_now a_trial a_kept a_book a_keptBook a_history a_draws a_refused a_now_row a_now_partners a_now_share a_now_leftOver a_book_lines a_history_rows c_hasImage w_4 w_5 w_2 w_3 w_6 w_7 w_8 w_10 w_11 w_9 w_12)) (va_runV (As := [.int (5 : Int32), .int p1, .int (0 : Int32), .int (0 : Int32), .int (1 : Int32)]) (rest := [])  ⟨hx, hb, hml, hown, hts⟩ (f_X7_act l E H.size K (a_ := a_) (a_tape := a_tape) (a_reader := a_reader) (a_scripts := a_scripts) (a_now := a_now) (a_trial := a_trial) (a_kept := a_kept) (a_book := a_book) (a_keptBook := a_keptBook) (a_history := a_history) (a_draws := a_draws) (a_refused := a_refused) (a_now_row := a_now_row) (a_now_partners := a_now_partners) (a_now_share := a_now_share) (a_now_leftOver := a_now_leftOver) (a_book_lines := a_book_lines) (a_history_rows := a_history_rows) (p1 := (5 : Int32)) (p2 := p1) (p3 := (0 : Int32)) (p4 := (0 : Int32)) (p5 := (1 : Int32)) (c_hasImage := c_hasImage) (c_now_askedCount := c_now_askedCount) (c_now_outcome := c_now_outcome) (c_now_row := c_now_row) (c_now_partners := c_now_partners) (c_now_share := c_now_share) (c_now_leftOver := c_now_leftOver) (c_book_lines := c_book_lines) (c_history_next := c_history_next) (c_history_held := c_history_held) (c_history_rows := c_history_rows) (c_refused := c_refused) hc_13) (cwV 5 hts g_f_X7_goal_f_X7_act_163 rfl rfl rfl hd_X7_act ⟨Nat.le_of_ble_eq_true rfl, Nat.le_of_ble_eq_true rfl⟩) ⟨pW.blind, hrc, (pW.pre ⟨hK, hN⟩ hPc hDc)⟩ rfl rfl hl.1 rfl (lv_room (Nat.le_of_ble_eq_true rfl)) dX7_goal_16 ⟨Nat.le_of_ble_eq_true rfl, Nat.le_of_ble_eq_true rfl⟩) hS hFc hP hD [0, 1, 2, 3, 4, 5, 6, 7, 8, 9, 10] [] rfl rfl (by decide) (by decide) (fun H locs hP hD hS => ?_)
  replace hP : va_P E.1 vwCl [(a_, .inr (8, [.ref a_tape, .ref a_reader, .ref a_scripts, .ref a_now, .ref a_trial, .ref a_kept, .ref a_book, .ref a_keptBook, .ref a_history, .ref a_draws, .ref a_refused, .int c_hasImage])), (a_now, .inr (6, [.ref a_now_row, .ref a_now_partners, .int w_4, .int w_5, .ref a_now_share, .ref a_now_leftOver])), (a_now_row, .inl (E.2.1, 81, .inl w_2)), (a_now_partners, .inl (E.2.1, 8, .inl w_3)), (a_now_share, .inl (E.2.1, 2, .inl w_6)), (a_now_leftOver, .inl (E.2.1, 2, .inl w_7)), (a_book, .inr (1, [.ref a_book_lines])), (a_book_lines, .inl (E.2.1, 300, .inl w_8)), (a_history, .inr (3, [.ref a_history_rows, .int w_10, .int w_11])), (a_history_rows, .inl (E.2.1, 3240, .inl w_9)), (a_refused, .inl (E.2.1, 3, .inl w_12))] H := hP
  replace hD : va_D A [(a_, .inr (8, [.ref a_tape, .ref a_reader, .ref a_scripts, .ref a_now, .ref a_trial, .ref a_kept, .ref a_book, .ref a_keptBook, .ref a_history, .ref a_draws, .ref a_refused, .int c_hasImage])), (a_now, .inr (6, [.ref a_now_row, .ref a_now_partners, .int w_4, .int w_5, .ref a_now_share, .ref a_now_leftOver])), (a_now_row, .inl (E.2.1, 81, .inl w_2)), (a_now_partners, .inl (E.2.1, 8, .inl w_3)), (a_now_share, .inl (E.2.1, 2, .inl w_6)), (a_now_leftOver, .inl (E.2.1, 2, .inl w_7)), (a_book, .inr (1, [.ref a_book_lines])), (a_book_lines, .inl (E.2.1, 300, .inl w_8)), (a_history, .inr (3, [.ref a_history_rows, .int w_10, .int w_11])), (a_history_rows, .inl (E.2.1, 3240, .inl w_9)), (a_refused, .inl (E.2.1, 3, .inl w_12))] := hD
  refine lv_if_ge (tgt := 26) hx hb dX7_goal_19 (by decide) (fun c_14 => ?_) (fun c_14 => ?_)
  ·
    replace hF := ip c_14 hF
    refine lv_iload_n hx hb dX7_goal_26 rfl (lv_at hl 0 rfl) ?_
    rw [hQ]
    have h9 := fin9 (P := fun u9 : Int32 × (Nat → Int32) × (Nat → Int32) × Int32 × Int32 × (Nat → Int32) × (Nat → Int32) × (Nat → Int32) × (Nat → Int32) × Int32 × Int32 × (Nat → Int32) => (c_now_row 2) = u9.1 ∧ va_P E.1 vwCl (w_X7_goal E a_ a_tape a_reader a_scripts a_now a_trial a_kept a_book a_keptBook a_history a_draws a_refused a_now_row a_now_partners a_now_share a_now_leftOver a_book_lines a_history_rows c_hasImage u9.2.2.2.1 u9.2.2.2.2.1 u9.2.1 u9.2.2.1 u9.2.2.2.2.2.1 u9.2.2.2.2.2.2.1 u9.2.2.2.2.2.2.2.1 u9.2.2.2.2.2.2.2.2.2.1 u9.2.2.2.2.2.2.2.2.2.2.1 u9.2.2.2.2.2.2.2.2.1 u9.2.2.2.2.2.2.2.2.2.2.2) H ∧ va_D A (w_X7_goal E a_ a_tape a_reader a_scripts a_now a_trial a_kept a_book a_keptBook a_history a_draws a_refused a_now_row a_now_partners a_now_share a_now_leftOver a_book_lines a_history_rows c_hasImage u9.2.2.2.1 u9.2.2.2.2.1 u9.2.1 u9.2.2.1 u9.2.2.2.2.2.1 u9.2.2.2.2.2.2.1 u9.2.2.2.2.2.2.2.1 u9.2.2.2.2.2.2.2.2.2.1 u9.2.2.2.2.2.2.2.2.2.2.1 u9.2.2.2.2.2.2.2.2.1 u9.2.2.2.2.2.2.2.2.2.2.2)) hF ⟨rfl, hP, hD⟩
    obtain ⟨e9_0, hP9, hD9⟩ := h9
    exact W.iret (v := c_now_row 2) hx hb hr (fun tt ht hW => ⟨⟨_, (), rfl, e9_0, ht ▸ hP9, hD9⟩, hS.F ht⟩) hS.2.2 dX7_goal_27
  ·
    replace hF := inn c_14 hF
    refine lv_iconst (v := -1) hx hb dX7_goal_22 (by decide) ?_
    refine lv_goto (tgt := 27) hx hb dX7_goal_23 (by decide) ?_
    rw [hQ]
    have h9 := fin9 (P := fun u9 : Int32 × (Nat → Int32) × (Nat → Int32) × Int32 × Int32 × (Nat → Int32) × (Nat → Int32) × (Nat → Int32) × (Nat → Int32) × Int32 × Int32 × (Nat → Int32) => (-1 : Int32) = u9.1 ∧ va_P E.1 vwCl (w_X7_goal E a_ a_tape a_reader a_scripts a_now a_trial a_kept a_book a_keptBook a_history a_draws a_refused a_now_row a_now_partners a_now_share a_now_leftOver a_book_lines a_history_rows c_hasImage u9.2.2.2.1 u9.2.2.2.2.1 u9.2.1 u9.2.2.1 u9.2.2.2.2.2.1 u9.2.2.2.2.2.2.1 u9.2.2.2.2.2.2.2.1 u9.2.2.2.2.2.2.2.2.2.1 u9.2.2.2.2.2.2.2.2.2.2.1 u9.2.2.2.2.2.2.2.2.1 u9.2.2.2.2.2.2.2.2.2.2.2) H ∧ va_D A (w_X7_goal E a_ a_tape a_reader a_scripts a_now a_trial a_kept a_book a_keptBook a_history a_draws a_refused a_now_row a_now_partners a_now_share a_now_leftOver a_book_lines a_history_rows c_hasImage u9.2.2.2.1 u9.2.2.2.2.1 u9.2.1 u9.2.2.1 u9.2.2.2.2.2.1 u9.2.2.2.2.2.2.1 u9.2.2.2.2.2.2.2.1 u9.2.2.2.2.2.2.2.2.2.1 u9.2.2.2.2.2.2.2.2.2.2.1 u9.2.2.2.2.2.2.2.2.1 u9.2.2.2.2.2.2.2.2.2.2.2)) hF ⟨rfl, hP, hD⟩
    obtain ⟨e9_0, hP9, hD9⟩ := h9
    exact W.iret (v := (-1 : Int32)) hx hb hr (fun tt ht hW => ⟨⟨_, (), rfl, e9_0, ht ▸ hP9, hD9⟩, hS.F ht⟩) hS.2.2 dX7_goal_27

def F_X7_goes (K : Nat) (p1 : Int32) (p2 : Int32) (c_now_row : Nat → Int32) : Option (Int32) :=
  bd1 (F_X5_hasSite p1 c_now_row) (fun r_1 => if r_1 = (0 : Int32) then some (-1 : Int32) else if p2 < (0 : Int32) then some (-1 : Int32) else if (1 : Int32) < p2 then some (-1 : Int32) else bd1 (F_X5_isReached c_now_row) (fun r_7 => if r_7 = (0 : Int32) then if p2 = (1 : Int32) then bd1 (F_X5_aloneToGoal K p1 (1 : Int32) c_now_row) (fun r_14 => some r_14) else bd1 (F_X5_aloneToGoal K p1 (0 : Int32) c_now_row) (fun r_12 => some r_12) else some (-1 : Int32)))
abbrev w_X7_goes (E : EE) (a_ a_tape a_reader a_scripts a_now a_trial a_kept a_book a_keptBook a_history a_draws a_refused a_now_row a_now_partners a_now_share a_now_leftOver : Nat) (c_hasImage : Int32) (c_now_askedCount : Int32) (c_now_outcome : Int32) (c_now_row : Nat → Int32) : va_W := [(a_, .inr (8, [.ref a_tape, .ref a_reader, .ref a_scripts, .ref a_now, .ref a_trial, .ref a_kept, .ref a_book, .ref a_keptBook, .ref a_history, .ref a_draws, .ref a_refused, .int c_hasImage])), (a_now, .inr (6, [.ref a_now_row, .ref a_now_partners, .int c_now_askedCount, .int c_now_outcome, .ref a_now_share, .ref a_now_leftOver])), (a_now_row, .inl (E.2.1, 81, .inl c_now_row))]
def v_f_X7_goes : List Cond := List.cons (.code yX7_goes cX7_goes 3 (some .int)) (HAppend.hAppend (α := List Cond) (β := List Cond) (γ := List Cond) [.fieldLink RX7 35 "HushWatch" "now" "LHushWatch$State;", .methodLink RX7 120 yX5_hasSite, .instanceMethod yX5_hasSite, .selects RX5 yX5_hasSite yX5_hasSite, .initialized RX5, .methodLink RX7 170 yX5_isReached, .instanceMethod yX5_isReached, .selects RX5 yX5_isReached yX5_isReached, .methodLink RX7 258 yX5_aloneToGoal, .instanceMethod yX5_aloneToGoal, .selects RX5 yX5_aloneToGoal yX5_aloneToGoal] (HAppend.hAppend (α := List Cond) (β := List Cond) (γ := List Cond) wsX70 (HAppend.hAppend (α := List Cond) (β := List Cond) (γ := List Cond) v_f_X5_hasSite (HAppend.hAppend (α := List Cond) (β := List Cond) (γ := List Cond) v_f_X5_isReached (HAppend.hAppend (α := List Cond) (β := List Cond) (γ := List Cond) v_f_X5_aloneToGoal [])))))
theorem gw_f_X7_goes : v_f_X7_goes.all goodWord = true := by decide +kernel
theorem i_f_X7_goes_X7 : ∀ w ∈ wsX70, w ∈ v_f_X7_goes := fun _ h => List.mem_cons_of_mem _ (List.mem_append_right _ (List.mem_append_left _ h))
theorem g_f_X7_goes_f_X5_hasSite_120 : GoodIn v_f_X7_goes (wsV RX7 120 RX5 yX5_hasSite v_f_X5_hasSite) := goodIn_app (goodIn_of _ (by decide +kernel)) (goodIn_sub (fun _ h => List.mem_cons_of_mem _ (List.mem_append_right _ (List.mem_append_right _ (List.mem_append_left _ h)))) gw_f_X5_hasSite)
theorem g_f_X7_goes_f_X5_isReached_170 : GoodIn v_f_X7_goes (wsV RX7 170 RX5 yX5_isReached v_f_X5_isReached) := goodIn_app (goodIn_of _ (by decide +kernel)) (goodIn_sub (fun _ h => List.mem_cons_of_mem _ (List.mem_append_right _ (List.mem_append_right _ (List.mem_append_right _ (List.mem_append_left _ h))))) gw_f_X5_isReached)
theorem g_f_X7_goes_f_X5_aloneToGoal_258 : GoodIn v_f_X7_goes (wsV RX7 258 RX5 yX5_aloneToGoal v_f_X5_aloneToGoal) := goodIn_app (goodIn_of _ (by decide +kernel)) (goodIn_sub (fun _ h => List.mem_cons_of_mem _ (List.mem_append_right _ (List.mem_append_right _ (List.mem_append_right _ (List.mem_append_right _ (List.mem_append_left _ h)))))) gw_f_X5_aloneToGoal)
theorem hd_X7_goes : yX7_goes.cls = RX7 ∧ yX7_goes.cls ≠ "java/lang/invoke/MethodHandle" ∧ yX7_goes.cls ≠ "java/lang/invoke/VarHandle" ∧ (parseMethodDescriptor yX7_goes.desc).map (fun d => d.parameters.length) = some 2 := by decide +kernel
set_option maxHeartbeats 4000000 in
set_option maxRecDepth 100000 in
theorem f_X7_goes (l : Launch) (E : EE) (K : Nat) {a_ a_tape a_reader a_scripts a_now a_trial a_kept a_book a_keptBook a_history a_draws a_refused a_now_row a_now_partners a_now_share a_now_leftOver : Nat} {p1 : Int32} {p2 : Int32} {c_hasImage : Int32} {c_now_askedCount : Int32} {c_now_outcome : Int32} {c_now_row : Nat → Int32} {rr : Int32} (hF : F_X7_goes K p1 p2 c_now_row = some rr) : Met l yX7_goes v_f_X7_goes (({ frames := 3, cells := 0, slots := 0, locals := 77 } : Room)) (va_Pc [.ref a_, .int p1, .int p2] (pP E (w_X7_goes E a_ a_tape a_reader a_scripts a_now a_trial a_kept a_book a_keptBook a_history a_draws a_refused a_now_row a_now_partners a_now_share a_now_leftOver c_hasImage c_now_askedCount c_now_outcome c_now_row))) (vp_Si (fun q : Int32 => q = rr)) 0 0 (fun _ => False) := by
  refine Met.ofW (cc := cX7_goes) (maxL := 3) (ret := (some .int)) (by decide) rfl ?_
  intro p e s m args below meth c s₁ B hml hv
  obtain ⟨rfl, ⟨hK, hN⟩, hP⟩ := hv
  have hx := B.exec
  have hb := B.bytes
  have hr := B.returns
  have hts := atoms_spec (ws := v_f_X7_goes) B.pre
  have hown : s.vm.findClass RX7 = some m.cls := own_of hd_X7_goes.1 (findClass_of_methodNamed B.named)
  have hlocks : meth.locks = false := B.notSynchronized
  replace hP : va_P E.1 vwCl [(a_, .inr (8, [.ref a_tape, .ref a_reader, .ref a_scripts, .ref a_now, .ref a_trial, .ref a_kept, .ref a_book, .ref a_keptBook, .ref a_history, .ref a_draws, .ref a_refused, .int c_hasImage])), (a_now, .inr (6, [.ref a_now_row, .ref a_now_partners, .int c_now_askedCount, .int c_now_outcome, .ref a_now_share, .ref a_now_leftOver])), (a_now_row, .inl (E.2.1, 81, .inl c_now_row))] s.heap := hP
  have hl := lv_entry ([.ref a_, .int p1, .int p2]) (n := 3) (Nat.le_of_ble_eq_true rfl)
  rw [lg_entry_eq]
  generalize (lg_sl ([.ref a_, .int p1, .int p2]) ++ List.replicate (3 - (lg_sl ([.ref a_, .int p1, .int p2])).length) Slot.unset).toArray = ls at hl ⊢
  have hl : lv_has ls 3 [(0, .ref a_), (1, .int p1), (2, .int p2)] := hl
  obtain ⟨Q, hQ⟩ : ∃ Q : State → Prop, Q = MQ below (vp_Si (fun q : Int32 => q = rr)) #[Value.ref a_, Value.int p1, Value.int p2] s 0 0 (fun _ => False) := ⟨_, rfl⟩
  rw [← hQ]
  change W p l e ({ frames := 3, cells := 0, slots := 0, locals := 77 } : Room) s m #[Value.ref a_, Value.int p1, Value.int p2] below meth c s.heap [] 0 0 Q (F0 m 0 ls [])
  unfold F_X7_goes at hF
  refine lv_aload_n hx hb dX7_goes_0 rfl (lv_at hl 0 rfl) ?_
  refine gt_X7_3 (v := .ref a_now) hx hb hts i_f_X7_goes_X7 hown hK hP 0 rfl (hts (.fieldLink RX7 35 "HushWatch" "now" "LHushWatch$State;") (List.mem_of_getElem? (i := 1) rfl)) rfl dX7_goes_1 ?_
  refine lv_iload_n hx hb dX7_goes_4 rfl (lv_at hl 1 rfl) ?_
  replace hF := bd1_s hF
  obtain ⟨r_1, hc_2, hF⟩ := hF
  have hPc : va_P E.1 vwCl (w_X5_hasSite E a_now a_now_row a_now_partners a_now_share a_now_leftOver c_now_askedCount c_now_outcome c_now_row) s.heap := hP.sub (ws' := [(a_now, .inr (6, [.ref a_now_row, .ref a_now_partners, .int c_now_askedCount, .int c_now_outcome, .ref a_now_share, .ref a_now_leftOver])), (a_now_row, .inl (E.2.1, 81, .inl c_now_row))]) [1, 2] rfl
  have hrc := va_recv hK hPc (ci := 6) (q0 := 0) rfl rfl
  refine pE_z (va_runV (As := [.int p1]) (rest := [])  ⟨hx, hb, hml, hown, hts⟩ (f_X5_hasSite l E (a_ := a_now) (a_row := a_now_row) (a_partners := a_now_partners) (a_share := a_now_share) (a_leftOver := a_now_leftOver) (p1 := p1) (c_askedCount := c_now_askedCount) (c_outcome := c_now_outcome) (c_row := c_now_row) hc_2) (cwV 1 hts g_f_X7_goes_f_X5_hasSite_120 rfl rfl rfl hd_X5_hasSite ⟨Nat.le_of_ble_eq_true rfl, Nat.le_of_ble_eq_true rfl⟩) ⟨pP.blind, hrc, (pP.pre ⟨hK, hN⟩ hPc)⟩ rfl rfl hl.1 rfl (lv_room (Nat.le_of_ble_eq_true rfl)) dX7_goes_5 ⟨Nat.le_of_ble_eq_true rfl, Nat.le_of_ble_eq_true rfl⟩) (fun hb_3 => ?_)
  refine lv_if_eq (tgt := 30) hx hb dX7_goes_8 (by decide) (fun c_4 => ?_) (fun c_4 => ?_)
  ·
    replace hF := ip c_4 hF
    refine lv_iconst (v := -1) hx hb dX7_goes_30 (by decide) ?_
    rw [hQ]
    obtain e9_0 := inj1 hF
    exact W.iret (v := (-1 : Int32)) hx hb hr (fun tt ht hW => ⟨_, rfl, e9_0, ht⟩) (fun _ h => by cases h) dX7_goes_31
  ·
    replace hF := inn c_4 hF
    refine lv_iload_n hx hb dX7_goes_11 rfl (lv_at hl 2 rfl) ?_
    refine lv_if_lt (tgt := 30) hx hb dX7_goes_12 (by decide) (fun c_5 => ?_) (fun c_5 => ?_)
    ·
      replace hF := ip c_5 hF
      refine lv_iconst (v := -1) hx hb dX7_goes_30 (by decide) ?_
      rw [hQ]
      obtain e9_0 := inj1 hF
      exact W.iret (v := (-1 : Int32)) hx hb hr (fun tt ht hW => ⟨_, rfl, e9_0, ht⟩) (fun _ h => by cases h) dX7_goes_31
    ·
      replace hF := inn c_5 hF
      refine lv_iload_n hx hb dX7_goes_15 rfl (lv_at hl 2 rfl) ?_
      refine lv_iconst (v := 1) hx hb dX7_goes_16 (by decide) ?_
      refine lv_icmp_gt (tgt := 30) hx hb dX7_goes_17 (by decide) (fun c_6 => ?_) (fun c_6 => ?_)
      ·
        replace hF := ip c_6 hF
        refine lv_iconst (v := -1) hx hb dX7_goes_30 (by decide) ?_
        rw [hQ]
        obtain e9_0 := inj1 hF
        exact W.iret (v := (-1 : Int32)) hx hb hr (fun tt ht hW => ⟨_, rfl, e9_0, ht⟩) (fun _ h => by cases h) dX7_goes_31
      ·
        replace hF := inn c_6 hF
        refine lv_aload_n hx hb dX7_goes_20 rfl (lv_at hl 0 rfl) ?_
        refine gt_X7_3 (v := .ref a_now) hx hb hts i_f_X7_goes_X7 hown hK hP 0 rfl (hts (.fieldLink RX7 35 "HushWatch" "now" "LHushWatch$State;") (List.mem_of_getElem? (i := 1) rfl)) rfl dX7_goes_21 ?_
        replace hF := bd1_s hF
        obtain ⟨r_7, hc_8, hF⟩ := hF
        have hPc : va_P E.1 vwCl (w_X5_isReached E a_now a_now_row a_now_partners a_now_share a_now_leftOver c_now_askedCount c_now_outcome c_now_row) s.heap := hP.sub (ws' := [(a_now, .inr (6, [.ref a_now_row, .ref a_now_partners, .int c_now_askedCount, .int c_now_outcome, .ref a_now_share, .ref a_now_leftOver])), (a_now_row, .inl (E.2.1, 81, .inl c_now_row))]) [1, 2] rfl
        have hrc := va_recv hK hPc (ci := 6) (q0 := 0) rfl rfl
        refine pE_z (va_runV (As := []) (rest := [])  ⟨hx, hb, hml, hown, hts⟩ (f_X5_isReached l E (a_ := a_now) (a_row := a_now_row) (a_partners := a_now_partners) (a_share := a_now_share) (a_leftOver := a_now_leftOver) (c_askedCount := c_now_askedCount) (c_outcome := c_now_outcome) (c_row := c_now_row) hc_8) (cwV 0 hts g_f_X7_goes_f_X5_isReached_170 rfl rfl rfl hd_X5_isReached ⟨Nat.le_of_ble_eq_true rfl, Nat.le_of_ble_eq_true rfl⟩) ⟨pP.blind, hrc, (pP.pre ⟨hK, hN⟩ hPc)⟩ rfl rfl hl.1 rfl (lv_room (Nat.le_of_ble_eq_true rfl)) dX7_goes_24 ⟨Nat.le_of_ble_eq_true rfl, Nat.le_of_ble_eq_true rfl⟩) (fun hb_9 => ?_)
        refine lv_if_eq (tgt := 32) hx hb dX7_goes_27 (by decide) (fun c_10 => ?_) (fun c_10 => ?_)
        ·
          replace hF := ip c_10 hF
          refine lv_aload_n hx hb dX7_goes_32 rfl (lv_at hl 0 rfl) ?_
          refine gt_X7_3 (v := .ref a_now) hx hb hts i_f_X7_goes_X7 hown hK hP 0 rfl (hts (.fieldLink RX7 35 "HushWatch" "now" "LHushWatch$State;") (List.mem_of_getElem? (i := 1) rfl)) rfl dX7_goes_33 ?_
          refine lv_iload_n hx hb dX7_goes_36 rfl (lv_at hl 1 rfl) ?_
          refine lv_iload_n hx hb dX7_goes_37 rfl (lv_at hl 2 rfl) ?_
          refine lv_iconst (v := 1) hx hb dX7_goes_38 (by decide) ?_
          refine lv_icmp_ne (tgt := 46) hx hb dX7_goes_39 (by decide) (fun c_11 => ?_) (fun c_11 => ?_)
          ·
            replace hF := inn c_11 hF
            refine lv_iconst (v := 0) hx hb dX7_goes_46 (by decide) ?_
            replace hF := bd1_s hF
            obtain ⟨r_12, hc_13, hF⟩ := hF
            have hPc : va_P E.1 vwCl (w_X5_aloneToGoal E a_now a_now_row a_now_partners a_now_share a_now_leftOver c_now_askedCount c_now_outcome c_now_row) s.heap := hP.sub (ws' := [(a_now, .inr (6, [.ref a_now_row, .ref a_now_partners, .int c_now_askedCount, .int c_now_outcome, .ref a_now_share, .ref a_now_leftOver])), (a_now_row, .inl (E.2.1, 81, .inl c_now_row))]) [1, 2] rfl
            have hrc := va_recv hK hPc (ci := 6) (q0 := 0) rfl rfl
            refine pE_i (va_runV (As := [.int p1, .int (0 : Int32)]) (rest := [])  ⟨hx, hb, hml, hown, hts⟩ (f_X5_aloneToGoal l E K (a_ := a_now) (a_row := a_now_row) (a_partners := a_now_partners) (a_share := a_now_share) (a_leftOver := a_now_leftOver) (p1 := p1) (p2 := (0 : Int32)) (c_askedCount := c_now_askedCount) (c_outcome := c_now_outcome) (c_row := c_now_row) hc_13) (cwV 2 hts g_f_X7_goes_f_X5_aloneToGoal_258 rfl rfl rfl hd_X5_aloneToGoal ⟨Nat.le_of_ble_eq_true rfl, Nat.le_of_ble_eq_true rfl⟩) ⟨pP.blind, hrc, (pP.pre ⟨hK, hN⟩ hPc)⟩ rfl rfl hl.1 rfl (lv_room (Nat.le_of_ble_eq_true rfl)) dX7_goes_47 ⟨Nat.le_of_ble_eq_true rfl, Nat.le_of_ble_eq_true rfl⟩) ?_
            rw [hQ]
            obtain e9_0 := inj1 hF
            exact W.iret (v := r_12) hx hb hr (fun tt ht hW => ⟨_, rfl, e9_0, ht⟩) (fun _ h => by cases h) dX7_goes_50
          ·
            replace hF := ip c_11 hF
            refine lv_iconst (v := 1) hx hb dX7_goes_42 (by decide) ?_
            refine lv_goto (tgt := 47) hx hb dX7_goes_43 (by decide) ?_
            replace hF := bd1_s hF
            obtain ⟨r_14, hc_15, hF⟩ := hF
            have hPc : va_P E.1 vwCl (w_X5_aloneToGoal E a_now a_now_row a_now_partners a_now_share a_now_leftOver c_now_askedCount c_now_outcome c_now_row) s.heap := hP.sub (ws' := [(a_now, .inr (6, [.ref a_now_row, .ref a_now_partners, .int c_now_askedCount, .int c_now_outcome, .ref a_now_share, .ref a_now_leftOver])), (a_now_row, .inl (E.2.1, 81, .inl c_now_row))]) [1, 2] rfl
            have hrc := va_recv hK hPc (ci := 6) (q0 := 0) rfl rfl
            refine pE_i (va_runV (As := [.int p1, .int (1 : Int32)]) (rest := [])  ⟨hx, hb, hml, hown, hts⟩ (f_X5_aloneToGoal l E K (a_ := a_now) (a_row := a_now_row) (a_partners := a_now_partners) (a_share := a_now_share) (a_leftOver := a_now_leftOver) (p1 := p1) (p2 := (1 : Int32)) (c_askedCount := c_now_askedCount) (c_outcome := c_now_outcome) (c_row := c_now_row) hc_15) (cwV 2 hts g_f_X7_goes_f_X5_aloneToGoal_258 rfl rfl rfl hd_X5_aloneToGoal ⟨Nat.le_of_ble_eq_true rfl, Nat.le_of_ble_eq_true rfl⟩) ⟨pP.blind, hrc, (pP.pre ⟨hK, hN⟩ hPc)⟩ rfl rfl hl.1 rfl (lv_room (Nat.le_of_ble_eq_true rfl)) dX7_goes_47 ⟨Nat.le_of_ble_eq_true rfl, Nat.le_of_ble_eq_true rfl⟩) ?_
            rw [hQ]
            obtain e9_0 := inj1 hF
            exact W.iret (v := r_14) hx hb hr (fun tt ht hW => ⟨_, rfl, e9_0, ht⟩) (fun _ h => by cases h) dX7_goes_50
        ·
          replace hF := inn c_10 hF
          refine lv_iconst (v := -1) hx hb dX7_goes_30 (by decide) ?_
          rw [hQ]
          obtain e9_0 := inj1 hF
          exact W.iret (v := (-1 : Int32)) hx hb hr (fun tt ht hW => ⟨_, rfl, e9_0, ht⟩) (fun _ h => by cases h) dX7_goes_31

def F_X7_loggedActs (c_now_row : Nat → Int32) : Option (Int32) :=
  some (minF (c_now_row 16) (60 : Int32))
abbrev w_X7_loggedActs (E : EE) (a_ a_tape a_reader a_scripts a_now a_trial a_kept a_book a_keptBook a_history a_draws a_refused a_now_row a_now_partners a_now_share a_now_leftOver : Nat) (c_hasImage : Int32) (c_now_askedCount : Int32) (c_now_outcome : Int32) (c_now_row : Nat → Int32) : va_W := [(a_, .inr (8, [.ref a_tape, .ref a_reader, .ref a_scripts, .ref a_now, .ref a_trial, .ref a_kept, .ref a_book, .ref a_keptBook, .ref a_history, .ref a_draws, .ref a_refused, .int c_hasImage])), (a_now, .inr (6, [.ref a_now_row, .ref a_now_partners, .int c_now_askedCount, .int c_now_outcome, .ref a_now_share, .ref a_now_leftOver])), (a_now_row, .inl (E.2.1, 81, .inl c_now_row))]
def v_f_X7_loggedActs : List Cond := List.cons (.code yX7_loggedActs cX7_loggedActs 1 (some .int)) (HAppend.hAppend (α := List Cond) (β := List Cond) (γ := List Cond) [.fieldLink RX7 35 "HushWatch" "now" "LHushWatch$State;", .methodLink RX7 327 Lib.Math.min.name, .static Lib.Math.min.name, .initialized "java/lang/Math", .code Lib.Math.min.name Lib.Math.min.code 2 (some .int)] (HAppend.hAppend (α := List Cond) (β := List Cond) (γ := List Cond) wsX70 (HAppend.hAppend (α := List Cond) (β := List Cond) (γ := List Cond) wsX50 [])))
theorem gw_f_X7_loggedActs : v_f_X7_loggedActs.all goodWord = true := by decide +kernel
theorem i_f_X7_loggedActs_X7 : ∀ w ∈ wsX70, w ∈ v_f_X7_loggedActs := fun _ h => List.mem_cons_of_mem _ (List.mem_append_right _ (List.mem_append_left _ h))
theorem i_f_X7_loggedActs_X5 : ∀ w ∈ wsX50, w ∈ v_f_X7_loggedActs := fun _ h => List.mem_cons_of_mem _ (List.mem_append_right _ (List.mem_append_right _ (List.mem_append_left _ h)))
theorem hd_X7_loggedActs : yX7_loggedActs.cls = RX7 ∧ yX7_loggedActs.cls ≠ "java/lang/invoke/MethodHandle" ∧ yX7_loggedActs.cls ≠ "java/lang/invoke/VarHandle" ∧ (parseMethodDescriptor yX7_loggedActs.desc).map (fun d => d.parameters.length) = some 0 := by decide +kernel
set_option maxHeartbeats 4000000 in
set_option maxRecDepth 100000 in
theorem f_X7_loggedActs (l : Launch) (E : EE) {a_ a_tape a_reader a_scripts a_now a_trial a_kept a_book a_keptBook a_history a_draws a_refused a_now_row a_now_partners a_now_share a_now_leftOver : Nat} {c_hasImage : Int32} {c_now_askedCount : Int32} {c_now_outcome : Int32} {c_now_row : Nat → Int32} {rr : Int32} (hF : F_X7_loggedActs c_now_row = some rr) : Met l yX7_loggedActs v_f_X7_loggedActs (({ frames := 1, cells := 0, slots := 0, locals := 21 } : Room)) (va_Pc [.ref a_] (pP E (w_X7_loggedActs E a_ a_tape a_reader a_scripts a_now a_trial a_kept a_book a_keptBook a_history a_draws a_refused a_now_row a_now_partners a_now_share a_now_leftOver c_hasImage c_now_askedCount c_now_outcome c_now_row))) (vp_Si (fun q : Int32 => q = rr)) 0 0 (fun _ => False) := by
  refine Met.ofW (cc := cX7_loggedActs) (maxL := 1) (ret := (some .int)) (by decide) rfl ?_
  intro p e s m args below meth c s₁ B hml hv
  obtain ⟨rfl, ⟨hK, hN⟩, hP⟩ := hv
  have hx := B.exec
  have hb := B.bytes
  have hr := B.returns
  have hts := atoms_spec (ws := v_f_X7_loggedActs) B.pre
  have hown : s.vm.findClass RX7 = some m.cls := own_of hd_X7_loggedActs.1 (findClass_of_methodNamed B.named)
  have hlocks : meth.locks = false := B.notSynchronized
  replace hP : va_P E.1 vwCl [(a_, .inr (8, [.ref a_tape, .ref a_reader, .ref a_scripts, .ref a_now, .ref a_trial, .ref a_kept, .ref a_book, .ref a_keptBook, .ref a_history, .ref a_draws, .ref a_refused, .int c_hasImage])), (a_now, .inr (6, [.ref a_now_row, .ref a_now_partners, .int c_now_askedCount, .int c_now_outcome, .ref a_now_share, .ref a_now_leftOver])), (a_now_row, .inl (E.2.1, 81, .inl c_now_row))] s.heap := hP
  have hl := lv_entry ([.ref a_]) (n := 1) (Nat.le_of_ble_eq_true rfl)
  rw [lg_entry_eq]
  generalize (lg_sl ([.ref a_]) ++ List.replicate (1 - (lg_sl ([.ref a_])).length) Slot.unset).toArray = ls at hl ⊢
  have hl : lv_has ls 1 [(0, .ref a_)] := hl
  obtain ⟨Q, hQ⟩ : ∃ Q : State → Prop, Q = MQ below (vp_Si (fun q : Int32 => q = rr)) #[Value.ref a_] s 0 0 (fun _ => False) := ⟨_, rfl⟩
  rw [← hQ]
  change W p l e ({ frames := 1, cells := 0, slots := 0, locals := 21 } : Room) s m #[Value.ref a_] below meth c s.heap [] 0 0 Q (F0 m 0 ls [])
  unfold F_X7_loggedActs at hF
  refine lv_aload_n hx hb dX7_loggedActs_0 rfl (lv_at hl 0 rfl) ?_
  refine gt_X7_3 (v := .ref a_now) hx hb hts i_f_X7_loggedActs_X7 hown hK hP 0 rfl (hts (.fieldLink RX7 35 "HushWatch" "now" "LHushWatch$State;") (List.mem_of_getElem? (i := 1) rfl)) rfl dX7_loggedActs_1 ?_
  refine va_getN (D := E.1) (ci := 6) (v := .ref a_now_row) (C := RX5) (T := TX5) (N := 6) hx hb hts i_f_X7_loggedActs_X5 hown hK hP 1 rfl rfl 0 (by decide) (nx hN 12 rfl) (fun _ h9 => h9) rfl dX7_loggedActs_4 ?_
  refine lv_bipush (v := 16) hx hb dX7_loggedActs_7 (by decide) ?_
  refine va_iald hx hb hK hP 2 0 rfl rfl (vin rfl) dX7_loggedActs_9 ?_
  refine W.eq (g2 := F0 m 10 ls [.int (c_now_row 16)]) rfl ?_
  refine lv_bipush (v := 60) hx hb dX7_loggedActs_10 (by decide) ?_
  refine va_mmin hx hb (hml.trans hl.1.symm) hown (hts (.methodLink RX7 327 Lib.Math.min.name) (List.mem_of_getElem? (i := 2) rfl)) (hts (.static Lib.Math.min.name) (List.mem_of_getElem? (i := 3) rfl)) (hts (.initialized "java/lang/Math") (List.mem_of_getElem? (i := 4) rfl)) (hts (.code Lib.Math.min.name Lib.Math.min.code 2 (some .int)) (List.mem_of_getElem? (i := 5) rfl)) (Nat.le_of_ble_eq_true rfl) (Nat.le_of_ble_eq_true rfl) (Nat.le_of_ble_eq_true rfl) (Nat.le_of_ble_eq_true rfl) dX7_loggedActs_12 ?_
  refine W.eq (g2 := F0 m 15 ls [.int (minF (c_now_row 16) (60 : Int32))]) rfl ?_
  rw [hQ]
  obtain e9_0 := inj1 hF
  exact W.iret (v := (minF (c_now_row 16) (60 : Int32))) hx hb hr (fun tt ht hW => ⟨_, rfl, e9_0, ht⟩) (fun _ h => by cases h) dX7_loggedActs_15

def F_X7_held (p1 : Int32) (c_tape_length : Int32) (c_scripts_held : Int32) (c_now_row : Nat → Int32) (c_history_held : Int32) : Option (Int32) :=
  if p1 = (0 : Int32) then bd1 (F_X5_sites c_now_row) (fun r_2 => some r_2) else if p1 = (1 : Int32) then some c_scripts_held else if p1 = (2 : Int32) then some c_tape_length else if p1 = (3 : Int32) then bd1 (F_X7_loggedActs c_now_row) (fun r_4 => some r_4) else if p1 = (4 : Int32) then some c_history_held else some (-100000000 : Int32)
abbrev w_X7_held (E : EE) (a_ a_tape a_reader a_scripts a_now a_trial a_kept a_book a_keptBook a_history a_draws a_refused a_tape_bytes a_scripts_steps a_scripts_counts a_now_row a_now_partners a_now_share a_now_leftOver a_history_rows : Nat) (c_hasImage : Int32) (c_tape_length : Int32) (c_scripts_held : Int32) (c_now_askedCount : Int32) (c_now_outcome : Int32) (c_now_row : Nat → Int32) (c_history_next : Int32) (c_history_held : Int32) : va_W := [(a_, .inr (8, [.ref a_tape, .ref a_reader, .ref a_scripts, .ref a_now, .ref a_trial, .ref a_kept, .ref a_book, .ref a_keptBook, .ref a_history, .ref a_draws, .ref a_refused, .int c_hasImage])), (a_tape, .inr (7, [.ref a_tape_bytes, .int c_tape_length])), (a_scripts, .inr (5, [.ref a_scripts_steps, .ref a_scripts_counts, .int c_scripts_held])), (a_now, .inr (6, [.ref a_now_row, .ref a_now_partners, .int c_now_askedCount, .int c_now_outcome, .ref a_now_share, .ref a_now_leftOver])), (a_now_row, .inl (E.2.1, 81, .inl c_now_row)), (a_history, .inr (3, [.ref a_history_rows, .int c_history_next, .int c_history_held]))]
def v_f_X7_held : List Cond := List.cons (.code yX7_held cX7_held 2 (some .int)) (HAppend.hAppend (α := List Cond) (β := List Cond) (γ := List Cond) [.fieldLink RX7 35 "HushWatch" "now" "LHushWatch$State;", .fieldLink RX7 28 "HushWatch" "scripts" "LHushWatch$Scripts;", .fieldLink RX7 10 "HushWatch" "tape" "LHushWatch$Tape;", .fieldLink RX7 58 "HushWatch" "history" "LHushWatch$History;", .constant RX7 113 (-100000000), .methodLink RX7 117 yX5_sites, .instanceMethod yX5_sites, .selects RX5 yX5_sites yX5_sites, .initialized RX5, .methodLink RX7 204 yX7_loggedActs, .instanceMethod yX7_loggedActs, .selects RX7 yX7_loggedActs yX7_loggedActs, .initialized RX7] (HAppend.hAppend (α := List Cond) (β := List Cond) (γ := List Cond) wsX70 (HAppend.hAppend (α := List Cond) (β := List Cond) (γ := List Cond) v_f_X5_sites (HAppend.hAppend (α := List Cond) (β := List Cond) (γ := List Cond) wsX40 (HAppend.hAppend (α := List Cond) (β := List Cond) (γ := List Cond) wsX60 (HAppend.hAppend (α := List Cond) (β := List Cond) (γ := List Cond) v_f_X7_loggedActs (HAppend.hAppend (α := List Cond) (β := List Cond) (γ := List Cond) wsX20 [])))))))
theorem gw_f_X7_held : v_f_X7_held.all goodWord = true := by decide +kernel
theorem i_f_X7_held_X7 : ∀ w ∈ wsX70, w ∈ v_f_X7_held := fun _ h => List.mem_cons_of_mem _ (List.mem_append_right _ (List.mem_append_left _ h))
theorem i_f_X7_held_X4 : ∀ w ∈ wsX40, w ∈ v_f_X7_held := fun _ h => List.mem_cons_of_mem _ (List.mem_append_right _ (List.mem_append_right _ (List.mem_append_right _ (List.mem_append_left _ h))))
theorem i_f_X7_held_X6 : ∀ w ∈ wsX60, w ∈ v_f_X7_held := fun _ h => List.mem_cons_of_mem _ (List.mem_append_right _ (List.mem_append_right _ (List.mem_append_right _ (List.mem_append_right _ (List.mem_append_left _ h)))))
theorem i_f_X7_held_X2 : ∀ w ∈ wsX20, w ∈ v_f_X7_held := fun _ h => List.mem_cons_of_mem _ (List.mem_append_right _ (List.mem_append_right _ (List.mem_append_right _ (List.mem_append_right _ (List.mem_append_right _ (List.mem_append_right _ (List.mem_append_left _ h)))))))
theorem g_f_X7_held_f_X5_sites_117 : GoodIn v_f_X7_held (wsV RX7 117 RX5 yX5_sites v_f_X5_sites) := goodIn_app (goodIn_of _ (by decide +kernel)) (goodIn_sub (fun _ h => List.mem_cons_of_mem _ (List.mem_append_right _ (List.mem_append_right _ (List.mem_append_left _ h)))) gw_f_X5_sites)
theorem g_f_X7_held_f_X7_loggedActs_204 : GoodIn v_f_X7_held (wsV RX7 204 RX7 yX7_loggedActs v_f_X7_loggedActs) := goodIn_app (goodIn_of _ (by decide +kernel)) (goodIn_sub (fun _ h => List.mem_cons_of_mem _ (List.mem_append_right _ (List.mem_append_right _ (List.mem_append_right _ (List.mem_append_right _ (List.mem_append_right _ (List.mem_append_left _ h))))))) gw_f_X7_loggedActs)
theorem hd_X7_held : yX7_held.cls = RX7 ∧ yX7_held.cls ≠ "java/lang/invoke/MethodHandle" ∧ yX7_held.cls ≠ "java/lang/invoke/VarHandle" ∧ (parseMethodDescriptor yX7_held.desc).map (fun d => d.parameters.length) = some 1 := by decide +kernel
set_option maxHeartbeats 4000000 in
set_option maxRecDepth 100000 in
theorem f_X7_held (l : Launch) (E : EE) {a_ a_tape a_reader a_scripts a_now a_trial a_kept a_book a_keptBook a_history a_draws a_refused a_tape_bytes a_scripts_steps a_scripts_counts a_now_row a_now_partners a_now_share a_now_leftOver a_history_rows : Nat} {p1 : Int32} {c_hasImage : Int32} {c_tape_length : Int32} {c_scripts_held : Int32} {c_now_askedCount : Int32} {c_now_outcome : Int32} {c_now_row : Nat → Int32} {c_history_next : Int32} {c_history_held : Int32} {rr : Int32} (hF : F_X7_held p1 c_tape_length c_scripts_held c_now_row c_history_held = some rr) : Met l yX7_held v_f_X7_held (({ frames := 2, cells := 0, slots := 0, locals := 41 } : Room)) (va_Pc [.ref a_, .int p1] (pP E (w_X7_held E a_ a_tape a_reader a_scripts a_now a_trial a_kept a_book a_keptBook a_history a_draws a_refused a_tape_bytes a_scripts_steps a_scripts_counts a_now_row a_now_partners a_now_share a_now_leftOver a_history_rows c_hasImage c_tape_length c_scripts_held c_now_askedCount c_now_outcome c_now_row c_history_next c_history_held))) (vp_Si (fun q : Int32 => q = rr)) 0 0 (fun _ => False) := by
  refine Met.ofW (cc := cX7_held) (maxL := 2) (ret := (some .int)) (by decide) rfl ?_
  intro p e s m args below meth c s₁ B hml hv
  obtain ⟨rfl, ⟨hK, hN⟩, hP⟩ := hv
  have hx := B.exec
  have hb := B.bytes
  have hr := B.returns
  have hts := atoms_spec (ws := v_f_X7_held) B.pre
  have hown : s.vm.findClass RX7 = some m.cls := own_of hd_X7_held.1 (findClass_of_methodNamed B.named)
  have hlocks : meth.locks = false := B.notSynchronized
  replace hP : va_P E.1 vwCl [(a_, .inr (8, [.ref a_tape, .ref a_reader, .ref a_scripts, .ref a_now, .ref a_trial, .ref a_kept, .ref a_book, .ref a_keptBook, .ref a_history, .ref a_draws, .ref a_refused, .int c_hasImage])), (a_tape, .inr (7, [.ref a_tape_bytes, .int c_tape_length])), (a_scripts, .inr (5, [.ref a_scripts_steps, .ref a_scripts_counts, .int c_scripts_held])), (a_now, .inr (6, [.ref a_now_row, .ref a_now_partners, .int c_now_askedCount, .int c_now_outcome, .ref a_now_share, .ref a_now_leftOver])), (a_now_row, .inl (E.2.1, 81, .inl c_now_row)), (a_history, .inr (3, [.ref a_history_rows, .int c_history_next, .int c_history_held]))] s.heap := hP
  have hl := lv_entry ([.ref a_, .int p1]) (n := 2) (Nat.le_of_ble_eq_true rfl)
  rw [lg_entry_eq]
  generalize (lg_sl ([.ref a_, .int p1]) ++ List.replicate (2 - (lg_sl ([.ref a_, .int p1])).length) Slot.unset).toArray = ls at hl ⊢
  have hl : lv_has ls 2 [(0, .ref a_), (1, .int p1)] := hl
  obtain ⟨Q, hQ⟩ : ∃ Q : State → Prop, Q = MQ below (vp_Si (fun q : Int32 => q = rr)) #[Value.ref a_, Value.int p1] s 0 0 (fun _ => False) := ⟨_, rfl⟩
  rw [← hQ]
  change W p l e ({ frames := 2, cells := 0, slots := 0, locals := 41 } : Room) s m #[Value.ref a_, Value.int p1] below meth c s.heap [] 0 0 Q (F0 m 0 ls [])
  unfold F_X7_held at hF
  refine lv_iload_n hx hb dX7_held_0 rfl (lv_at hl 1 rfl) ?_
  rcases Classical.em (p1 = (0 : Int32)) with c_1_0 | c_1_0
  ·
    replace hF := ip c_1_0 hF
    refine lv_tableIn (off := 35) (tgt := 36) hx hb dX7_held_1 (by rw [c_1_0]; decide) (by rw [c_1_0]; decide) (by rw [c_1_0]; decide) (by decide) ?_
    refine lv_aload_n hx hb dX7_held_36 rfl (lv_at hl 0 rfl) ?_
    refine gt_X7_3 (v := .ref a_now) hx hb hts i_f_X7_held_X7 hown hK hP 0 rfl (hts (.fieldLink RX7 35 "HushWatch" "now" "LHushWatch$State;") (List.mem_of_getElem? (i := 1) rfl)) rfl dX7_held_37 ?_
    replace hF := bd1_s hF
    obtain ⟨r_2, hc_3, hF⟩ := hF
    have hPc : va_P E.1 vwCl (w_X5_sites E a_now a_now_row a_now_partners a_now_share a_now_leftOver c_now_askedCount c_now_outcome c_now_row) s.heap := hP.sub (ws' := [(a_now, .inr (6, [.ref a_now_row, .ref a_now_partners, .int c_now_askedCount, .int c_now_outcome, .ref a_now_share, .ref a_now_leftOver])), (a_now_row, .inl (E.2.1, 81, .inl c_now_row))]) [3, 4] rfl
    have hrc := va_recv hK hPc (ci := 6) (q0 := 0) rfl rfl
    refine pE_i (va_runV (As := []) (rest := [])  ⟨hx, hb, hml, hown, hts⟩ (f_X5_sites l E (a_ := a_now) (a_row := a_now_row) (a_partners := a_now_partners) (a_share := a_now_share) (a_leftOver := a_now_leftOver) (c_askedCount := c_now_askedCount) (c_outcome := c_now_outcome) (c_row := c_now_row) hc_3) (cwV 0 hts g_f_X7_held_f_X5_sites_117 rfl rfl rfl hd_X5_sites ⟨Nat.le_of_ble_eq_true rfl, Nat.le_of_ble_eq_true rfl⟩) ⟨pP.blind, hrc, (pP.pre ⟨hK, hN⟩ hPc)⟩ rfl rfl hl.1 rfl (lv_room (Nat.le_of_ble_eq_true rfl)) dX7_held_40 ⟨Nat.le_of_ble_eq_true rfl, Nat.le_of_ble_eq_true rfl⟩) ?_
    rw [hQ]
    obtain e9_0 := inj1 hF
    exact W.iret (v := r_2) hx hb hr (fun tt ht hW => ⟨_, rfl, e9_0, ht⟩) (fun _ h => by cases h) dX7_held_43
  replace hF := inn c_1_0 hF
  rcases Classical.em (p1 = (1 : Int32)) with c_1_1 | c_1_1
  ·
    replace hF := ip c_1_1 hF
    refine lv_tableIn (off := 43) (tgt := 44) hx hb dX7_held_1 (by rw [c_1_1]; decide) (by rw [c_1_1]; decide) (by rw [c_1_1]; decide) (by decide) ?_
    refine lv_aload_n hx hb dX7_held_44 rfl (lv_at hl 0 rfl) ?_
    refine gt_X7_2 (v := .ref a_scripts) hx hb hts i_f_X7_held_X7 hown hK hP 0 rfl (hts (.fieldLink RX7 28 "HushWatch" "scripts" "LHushWatch$Scripts;") (List.mem_of_getElem? (i := 2) rfl)) rfl dX7_held_45 ?_
    refine va_getN (D := E.1) (ci := 5) (v := .int c_scripts_held) (C := RX4) (T := TX4) (N := 3) hx hb hts i_f_X7_held_X4 hown hK hP 2 rfl rfl 2 (by decide) (nx hN 9 rfl) (fun _ h9 => h9) rfl dX7_held_48 ?_
    rw [hQ]
    obtain e9_0 := inj1 hF
    exact W.iret (v := c_scripts_held) hx hb hr (fun tt ht hW => ⟨_, rfl, e9_0, ht⟩) (fun _ h => by cases h) dX7_held_51
  replace hF := inn c_1_1 hF
  rcases Classical.em (p1 = (2 : Int32)) with c_1_2 | c_1_2
  ·
    replace hF := ip c_1_2 hF
    refine lv_tableIn (off := 51) (tgt := 52) hx hb dX7_held_1 (by rw [c_1_2]; decide) (by rw [c_1_2]; decide) (by rw [c_1_2]; decide) (by decide) ?_
    refine lv_aload_n hx hb dX7_held_52 rfl (lv_at hl 0 rfl) ?_
    refine gt_X7_0 (v := .ref a_tape) hx hb hts i_f_X7_held_X7 hown hK hP 0 rfl (hts (.fieldLink RX7 10 "HushWatch" "tape" "LHushWatch$Tape;") (List.mem_of_getElem? (i := 3) rfl)) rfl dX7_held_53 ?_
    refine va_getN (D := E.1) (ci := 7) (v := .int c_tape_length) (C := RX6) (T := TX6) (N := 2) hx hb hts i_f_X7_held_X6 hown hK hP 1 rfl rfl 1 (by decide) (nx hN 1 rfl) (fun _ h9 => h9) rfl dX7_held_56 ?_
    rw [hQ]
    obtain e9_0 := inj1 hF
    exact W.iret (v := c_tape_length) hx hb hr (fun tt ht hW => ⟨_, rfl, e9_0, ht⟩) (fun _ h => by cases h) dX7_held_59
  replace hF := inn c_1_2 hF
  rcases Classical.em (p1 = (3 : Int32)) with c_1_3 | c_1_3
  ·
    replace hF := ip c_1_3 hF
    refine lv_tableIn (off := 59) (tgt := 60) hx hb dX7_held_1 (by rw [c_1_3]; decide) (by rw [c_1_3]; decide) (by rw [c_1_3]; decide) (by decide) ?_
    refine lv_aload_n hx hb dX7_held_60 rfl (lv_at hl 0 rfl) ?_
    replace hF := bd1_s hF
    obtain ⟨r_4, hc_5, hF⟩ := hF
    have hPc : va_P E.1 vwCl (w_X7_loggedActs E a_ a_tape a_reader a_scripts a_now a_trial a_kept a_book a_keptBook a_history a_draws a_refused a_now_row a_now_partners a_now_share a_now_leftOver c_hasImage c_now_askedCount c_now_outcome c_now_row) s.heap := hP.sub (ws' := [(a_, .inr (8, [.ref a_tape, .ref a_reader, .ref a_scripts, .ref a_now, .ref a_trial, .ref a_kept, .ref a_book, .ref a_keptBook, .ref a_history, .ref a_draws, .ref a_refused, .int c_hasImage])), (a_now, .inr (6, [.ref a_now_row, .ref a_now_partners, .int c_now_askedCount, .int c_now_outcome, .ref a_now_share, .ref a_now_leftOver])), (a_now_row, .inl (E.2.1, 81, .inl c_now_row))]) [0, 3, 4] rfl
    have hrc := va_recv hK hPc (ci := 8) (q0 := 0) rfl rfl
    refine pE_i (va_runV (As := []) (rest := [])  ⟨hx, hb, hml, hown, hts⟩ (f_X7_loggedActs l E (a_ := a_) (a_tape := a_tape) (a_reader := a_reader) (a_scripts := a_scripts) (a_now := a_now) (a_trial := a_trial) (a_kept := a_kept) (a_book := a_book) (a_keptBook := a_keptBook) (a_history := a_history) (a_draws := a_draws) (a_refused := a_refused) (a_now_row := a_now_row) (a_now_partners := a_now_partners) (a_now_share := a_now_share) (a_now_leftOver := a_now_leftOver) (c_hasImage := c_hasImage) (c_now_askedCount := c_now_askedCount) (c_now_outcome := c_now_outcome) (c_now_row := c_now_row) hc_5) (cwV 0 hts g_f_X7_held_f_X7_loggedActs_204 rfl rfl rfl hd_X7_loggedActs ⟨Nat.le_of_ble_eq_true rfl, Nat.le_of_ble_eq_true rfl⟩) ⟨pP.blind, hrc, (pP.pre ⟨hK, hN⟩ hPc)⟩ rfl rfl hl.1 rfl (lv_room (Nat.le_of_ble_eq_true rfl)) dX7_held_61 ⟨Nat.le_of_ble_eq_true rfl, Nat.le_of_ble_eq_true rfl⟩) ?_
    rw [hQ]
    obtain e9_0 := inj1 hF
    exact W.iret (v := r_4) hx hb hr (fun tt ht hW => ⟨_, rfl, e9_0, ht⟩) (fun _ h => by cases h) dX7_held_64
  replace hF := inn c_1_3 hF
  rcases Classical.em (p1 = (4 : Int32)) with c_1_4 | c_1_4
  ·
    replace hF := ip c_1_4 hF
    refine lv_tableIn (off := 64) (tgt := 65) hx hb dX7_held_1 (by rw [c_1_4]; decide) (by rw [c_1_4]; decide) (by rw [c_1_4]; decide) (by decide) ?_
    refine lv_aload_n hx hb dX7_held_65 rfl (lv_at hl 0 rfl) ?_
    refine gt_X7_8 (v := .ref a_history) hx hb hts i_f_X7_held_X7 hown hK hP 0 rfl (hts (.fieldLink RX7 58 "HushWatch" "history" "LHushWatch$History;") (List.mem_of_getElem? (i := 4) rfl)) rfl dX7_held_66 ?_
    refine va_getN (D := E.1) (ci := 3) (v := .int c_history_held) (C := RX2) (T := TX2) (N := 3) hx hb hts i_f_X7_held_X2 hown hK hP 5 rfl rfl 2 (by decide) (nx hN 18 rfl) (fun _ h9 => h9) rfl dX7_held_69 ?_
    rw [hQ]
    obtain e9_0 := inj1 hF
    exact W.iret (v := c_history_held) hx hb hr (fun tt ht hW => ⟨_, rfl, e9_0, ht⟩) (fun _ h => by cases h) dX7_held_72
  replace hF := inn c_1_4 hF
  refine lv_tableOut (tgt := 73) hx hb dX7_held_1 (by have t0 : (0 : Int32).toInt = 0 := (by decide); have t1 : (1 : Int32).toInt = 1 := (by decide); have t2 : (2 : Int32).toInt = 2 := (by decide); have t3 : (3 : Int32).toInt = 3 := (by decide); have t4 : (4 : Int32).toInt = 4 := (by decide); simp only [← Int32.toInt_inj, t0, t1, t2, t3, t4] at c_1_0 c_1_1 c_1_2 c_1_3 c_1_4; omega) (by decide) ?_
  refine lv_ldc (v := -100000000) hx hb hown (hts (.constant RX7 113 (-100000000)) (List.mem_of_getElem? (i := 5) rfl)) dX7_held_73 ?_
  rw [hQ]
  obtain e9_0 := inj1 hF
  exact W.iret (v := (-100000000 : Int32)) hx hb hr (fun tt ht hW => ⟨_, rfl, e9_0, ht⟩) (fun _ h => by cases h) dX7_held_75

def F_X7_image (c_now_row : Nat → Int32) (c_kept_row : Nat → Int32) (c_book_lines : Nat → Int32) (c_keptBook_lines : Nat → Int32) (c_hasImage : Int32) : Option (Int32 × (Nat → Int32) × (Nat → Int32) × Int32) :=
  bd1 (F_X5_stands c_now_row) (fun r_1 => if r_1 = (0 : Int32) then some ((-1 : Int32), c_kept_row, c_keptBook_lines, c_hasImage) else bd1 (F_X5_copyFrom c_kept_row c_now_row) (fun w_5 => bd1 (F_X0_copyFrom c_keptBook_lines c_book_lines) (fun w_7 => some (c_now_row 11, w_5, w_7, (1 : Int32)))))
abbrev w_X7_image (E : EE) (a_ a_tape a_reader a_scripts a_now a_trial a_kept a_book a_keptBook a_history a_draws a_refused a_now_row a_now_partners a_now_share a_now_leftOver a_kept_row a_kept_partners a_kept_share a_kept_leftOver a_book_lines a_keptBook_lines : Nat) (c_hasImage : Int32) (c_now_askedCount : Int32) (c_now_outcome : Int32) (c_now_row : Nat → Int32) (c_kept_askedCount : Int32) (c_kept_outcome : Int32) (c_kept_row : Nat → Int32) (c_book_lines : Nat → Int32) (c_keptBook_lines : Nat → Int32) : va_W := [(a_, .inr (8, [.ref a_tape, .ref a_reader, .ref a_scripts, .ref a_now, .ref a_trial, .ref a_kept, .ref a_book, .ref a_keptBook, .ref a_history, .ref a_draws, .ref a_refused, .int c_hasImage])), (a_now, .inr (6, [.ref a_now_row, .ref a_now_partners, .int c_now_askedCount, .int c_now_outcome, .ref a_now_share, .ref a_now_leftOver])), (a_now_row, .inl (E.2.1, 81, .inl c_now_row)), (a_kept, .inr (6, [.ref a_kept_row, .ref a_kept_partners, .int c_kept_askedCount, .int c_kept_outcome, .ref a_kept_share, .ref a_kept_leftOver])), (a_kept_row, .inl (E.2.1, 81, .inl c_kept_row)), (a_book, .inr (1, [.ref a_book_lines])), (a_book_lines, .inl (E.2.1, 300, .inl c_book_lines)), (a_keptBook, .inr (1, [.ref a_keptBook_lines])), (a_keptBook_lines, .inl (E.2.1, 300, .inl c_keptBook_lines))]
def v_f_X7_image : List Cond := List.cons (.code yX7_image cX7_image 1 (some .int)) (HAppend.hAppend (α := List Cond) (β := List Cond) (γ := List Cond) [.fieldLink RX7 35 "HushWatch" "now" "LHushWatch$State;", .fieldLink RX7 42 "HushWatch" "kept" "LHushWatch$State;", .fieldLink RX7 52 "HushWatch" "keptBook" "LHushWatch$Book;", .fieldLink RX7 48 "HushWatch" "book" "LHushWatch$Book;", .fieldLink RX7 73 "HushWatch" "hasImage" "Z", .methodLink RX7 110 yX5_stands, .instanceMethod yX5_stands, .selects RX5 yX5_stands yX5_stands, .initialized RX5, .methodLink RX7 237 yX5_copyFrom, .instanceMethod yX5_copyFrom, .selects RX5 yX5_copyFrom yX5_copyFrom, .methodLink RX7 311 yX0_copyFrom, .instanceMethod yX0_copyFrom, .selects RX0 yX0_copyFrom yX0_copyFrom, .initialized RX0] (HAppend.hAppend (α := List Cond) (β := List Cond) (γ := List Cond) wsX70 (HAppend.hAppend (α := List Cond) (β := List Cond) (γ := List Cond) v_f_X5_stands (HAppend.hAppend (α := List Cond) (β := List Cond) (γ := List Cond) v_f_X5_copyFrom (HAppend.hAppend (α := List Cond) (β := List Cond) (γ := List Cond) v_f_X0_copyFrom (HAppend.hAppend (α := List Cond) (β := List Cond) (γ := List Cond) wsX50 []))))))
theorem gw_f_X7_image : v_f_X7_image.all goodWord = true := by decide +kernel
theorem i_f_X7_image_X7 : ∀ w ∈ wsX70, w ∈ v_f_X7_image := fun _ h => List.mem_cons_of_mem _ (List.mem_append_right _ (List.mem_append_left _ h))
theorem i_f_X7_image_X5 : ∀ w ∈ wsX50, w ∈ v_f_X7_image := fun _ h => List.mem_cons_of_mem _ (List.mem_append_right _ (List.mem_append_right _ (List.mem_append_right _ (List.mem_append_right _ (List.mem_append_right _ (List.mem_append_left _ h))))))
theorem g_f_X7_image_f_X5_stands_110 : GoodIn v_f_X7_image (wsV RX7 110 RX5 yX5_stands v_f_X5_stands) := goodIn_app (goodIn_of _ (by decide +kernel)) (goodIn_sub (fun _ h => List.mem_cons_of_mem _ (List.mem_append_right _ (List.mem_append_right _ (List.mem_append_left _ h)))) gw_f_X5_stands)
theorem g_f_X7_image_f_X5_copyFrom_237 : GoodIn v_f_X7_image (wsV RX7 237 RX5 yX5_copyFrom v_f_X5_copyFrom) := goodIn_app (goodIn_of _ (by decide +kernel)) (goodIn_sub (fun _ h => List.mem_cons_of_mem _ (List.mem_append_right _ (List.mem_append_right _ (List.mem_append_right _ (List.mem_append_left _ h))))) gw_f_X5_copyFrom)
theorem g_f_X7_image_f_X0_copyFrom_311 : GoodIn v_f_X7_image (wsV RX7 311 RX0 yX0_copyFrom v_f_X0_copyFrom) := goodIn_app (goodIn_of _ (by decide +kernel)) (goodIn_sub (fun _ h => List.mem_cons_of_mem _ (List.mem_append_right _ (List.mem_append_right _ (List.mem_append_right _ (List.mem_append_right _ (List.mem_append_left _ h)))))) gw_f_X0_copyFrom)
theorem hd_X7_image : yX7_image.cls = RX7 ∧ yX7_image.cls ≠ "java/lang/invoke/MethodHandle" ∧ yX7_image.cls ≠ "java/lang/invoke/VarHandle" ∧ (parseMethodDescriptor yX7_image.desc).map (fun d => d.parameters.length) = some 0 := by decide +kernel
set_option maxHeartbeats 4000000 in
set_option maxRecDepth 100000 in
theorem f_X7_image (l : Launch) (E : EE) (sz : Nat) {a_ a_tape a_reader a_scripts a_now a_trial a_kept a_book a_keptBook a_history a_draws a_refused a_now_row a_now_partners a_now_share a_now_leftOver a_kept_row a_kept_partners a_kept_share a_kept_leftOver a_book_lines a_keptBook_lines : Nat} {c_hasImage : Int32} {c_now_askedCount : Int32} {c_now_outcome : Int32} {c_now_row : Nat → Int32} {c_kept_askedCount : Int32} {c_kept_outcome : Int32} {c_kept_row : Nat → Int32} {c_book_lines : Nat → Int32} {c_keptBook_lines : Nat → Int32} {rr : Int32} {n_kept_row : Nat → Int32} {n_keptBook_lines : Nat → Int32} {n_hasImage : Int32} (hF : F_X7_image c_now_row c_kept_row c_book_lines c_keptBook_lines c_hasImage = some (rr, n_kept_row, n_keptBook_lines, n_hasImage)) : Met l yX7_image v_f_X7_image (({ frames := 2, cells := 0, slots := 0, locals := 81 } : Room)) (va_Pc [.ref a_] (pW E sz (w_X7_image E a_ a_tape a_reader a_scripts a_now a_trial a_kept a_book a_keptBook a_history a_draws a_refused a_now_row a_now_partners a_now_share a_now_leftOver a_kept_row a_kept_partners a_kept_share a_kept_leftOver a_book_lines a_keptBook_lines c_hasImage c_now_askedCount c_now_outcome c_now_row c_kept_askedCount c_kept_outcome c_kept_row c_book_lines c_keptBook_lines))) (va_Qi (fun (q : Int32) (_u : Unit) => q = rr) (fun (_u : Unit) tt => va_P E.1 vwCl (w_X7_image E a_ a_tape a_reader a_scripts a_now a_trial a_kept a_book a_keptBook a_history a_draws a_refused a_now_row a_now_partners a_now_share a_now_leftOver a_kept_row a_kept_partners a_kept_share a_kept_leftOver a_book_lines a_keptBook_lines n_hasImage c_now_askedCount c_now_outcome c_now_row c_kept_askedCount c_kept_outcome n_kept_row c_book_lines n_keptBook_lines) tt.heap ∧ va_D (va_A (w_X7_image E a_ a_tape a_reader a_scripts a_now a_trial a_kept a_book a_keptBook a_history a_draws a_refused a_now_row a_now_partners a_now_share a_now_leftOver a_kept_row a_kept_partners a_kept_share a_kept_leftOver a_book_lines a_keptBook_lines c_hasImage c_now_askedCount c_now_outcome c_now_row c_kept_askedCount c_kept_outcome c_kept_row c_book_lines c_keptBook_lines) sz) (w_X7_image E a_ a_tape a_reader a_scripts a_now a_trial a_kept a_book a_keptBook a_history a_draws a_refused a_now_row a_now_partners a_now_share a_now_leftOver a_kept_row a_kept_partners a_kept_share a_kept_leftOver a_book_lines a_keptBook_lines n_hasImage c_now_askedCount c_now_outcome c_now_row c_kept_askedCount c_kept_outcome n_kept_row c_book_lines n_keptBook_lines)) (va_A (w_X7_image E a_ a_tape a_reader a_scripts a_now a_trial a_kept a_book a_keptBook a_history a_draws a_refused a_now_row a_now_partners a_now_share a_now_leftOver a_kept_row a_kept_partners a_kept_share a_kept_leftOver a_book_lines a_keptBook_lines c_hasImage c_now_askedCount c_now_outcome c_now_row c_kept_askedCount c_kept_outcome c_kept_row c_book_lines c_keptBook_lines) sz)) 0 0 (va_A (w_X7_image E a_ a_tape a_reader a_scripts a_now a_trial a_kept a_book a_keptBook a_history a_draws a_refused a_now_row a_now_partners a_now_share a_now_leftOver a_kept_row a_kept_partners a_kept_share a_kept_leftOver a_book_lines a_keptBook_lines c_hasImage c_now_askedCount c_now_outcome c_now_row c_kept_askedCount c_kept_outcome c_kept_row c_book_lines c_keptBook_lines) sz) := by
  refine Met.ofW (cc := cX7_image) (maxL := 1) (ret := (some .int)) (by decide) rfl ?_
  intro p e s m args below meth c s₁ B hml hv
  obtain ⟨rfl, hsz, ⟨hK, hN⟩, hP, hD0⟩ := hv
  have hx := B.exec
  have hb := B.bytes
  have hr := B.returns
  have hts := atoms_spec (ws := v_f_X7_image) B.pre
  have hown : s.vm.findClass RX7 = some m.cls := own_of hd_X7_image.1 (findClass_of_methodNamed B.named)
  have hlocks : meth.locks = false := B.notSynchronized
  subst hsz
  have hD := hD0.self (sz := s.heap.size)
  generalize hAe : va_A (w_X7_image E a_ a_tape a_reader a_scripts a_now a_trial a_kept a_book a_keptBook a_history a_draws a_refused a_now_row a_now_partners a_now_share a_now_leftOver a_kept_row a_kept_partners a_kept_share a_kept_leftOver a_book_lines a_keptBook_lines c_hasImage c_now_askedCount c_now_outcome c_now_row c_kept_askedCount c_kept_outcome c_kept_row c_book_lines c_keptBook_lines) s.heap.size = A at hD ⊢
  have hA : ∀ q : Nat, s.heap.size ≤ q → A q := fun q h => by rw [← hAe]; exact Or.inr h
  have hS : va_S A s.heap s.heap [] := va_S.rf
  have hl := lv_entry ([.ref a_]) (n := 1) (Nat.le_of_ble_eq_true rfl)
  rw [lg_entry_eq]
  generalize (lg_sl ([.ref a_]) ++ List.replicate (1 - (lg_sl ([.ref a_])).length) Slot.unset).toArray = ls at hl ⊢
  have hl : lv_has ls 1 [(0, .ref a_)] := hl
  obtain ⟨Q, hQ⟩ : ∃ Q : State → Prop, Q = MQ below (va_Qi (fun (q : Int32) (_u : Unit) => q = rr) (fun (_u : Unit) tt => va_P E.1 vwCl (w_X7_image E a_ a_tape a_reader a_scripts a_now a_trial a_kept a_book a_keptBook a_history a_draws a_refused a_now_row a_now_partners a_now_share a_now_leftOver a_kept_row a_kept_partners a_kept_share a_kept_leftOver a_book_lines a_keptBook_lines n_hasImage c_now_askedCount c_now_outcome c_now_row c_kept_askedCount c_kept_outcome n_kept_row c_book_lines n_keptBook_lines) tt.heap ∧ va_D A (w_X7_image E a_ a_tape a_reader a_scripts a_now a_trial a_kept a_book a_keptBook a_history a_draws a_refused a_now_row a_now_partners a_now_share a_now_leftOver a_kept_row a_kept_partners a_kept_share a_kept_leftOver a_book_lines a_keptBook_lines n_hasImage c_now_askedCount c_now_outcome c_now_row c_kept_askedCount c_kept_outcome n_kept_row c_book_lines n_keptBook_lines)) A) #[Value.ref a_] s 0 0 A := ⟨_, rfl⟩
  rw [← hQ]
  change W p l e ({ frames := 2, cells := 0, slots := 0, locals := 81 } : Room) s m #[Value.ref a_] below meth c s.heap [] 0 0 Q (F0 m 0 ls [])
  suffices hh9 : ∀ (H : Heap) (locs : List Loc), va_P E.1 vwCl (w_X7_image E a_ a_tape a_reader a_scripts a_now a_trial a_kept a_book a_keptBook a_history a_draws a_refused a_now_row a_now_partners a_now_share a_now_leftOver a_kept_row a_kept_partners a_kept_share a_kept_leftOver a_book_lines a_keptBook_lines c_hasImage c_now_askedCount c_now_outcome c_now_row c_kept_askedCount c_kept_outcome c_kept_row c_book_lines c_keptBook_lines) H → va_D A (w_X7_image E a_ a_tape a_reader a_scripts a_now a_trial a_kept a_book a_keptBook a_history a_draws a_refused a_now_row a_now_partners a_now_share a_now_leftOver a_kept_row a_kept_partners a_kept_share a_kept_leftOver a_book_lines a_keptBook_lines c_hasImage c_now_askedCount c_now_outcome c_now_row c_kept_askedCount c_kept_outcome c_kept_row c_book_lines c_keptBook_lines) → va_S A s.heap H locs → W p l e ({ frames := 2, cells := 0, slots := 0, locals := 81 } : Room) s m #[Value.ref a_] below meth c H locs 0 0 Q (F0 m 0 ls []) from hh9 s.heap [] hP hD hS
  clear hP hD hS
  intro H locs hP hD hS
  replace hP : va_P E.1 vwCl [(a_, .inr (8, [.ref a_tape, .ref a_reader, .ref a_scripts, .ref a_now, .ref a_trial, .ref a_kept, .ref a_book, .ref a_keptBook, .ref a_history, .ref a_draws, .ref a_refused, .int c_hasImage])), (a_now, .inr (6, [.ref a_now_row, .ref a_now_partners, .int c_now_askedCount, .int c_now_outcome, .ref a_now_share, .ref a_now_leftOver])), (a_now_row, .inl (E.2.1, 81, .inl c_now_row)), (a_kept, .inr (6, [.ref a_kept_row, .ref a_kept_partners, .int c_kept_askedCount, .int c_kept_outcome, .ref a_kept_share, .ref a_kept_leftOver])), (a_kept_row, .inl (E.2.1, 81, .inl c_kept_row)), (a_book, .inr (1, [.ref a_book_lines])), (a_book_lines, .inl (E.2.1, 300, .inl c_book_lines)), (a_keptBook, .inr (1, [.ref a_keptBook_lines])), (a_keptBook_lines, .inl (E.2.1, 300, .inl c_keptBook_lines))] H := hP
  replace hD : va_D A [(a_, .inr (8, [.ref a_tape, .ref a_reader, .ref a_scripts, .ref a_now, .ref a_trial, .ref a_kept, .ref a_book, .ref a_keptBook, .ref a_history, .ref a_draws, .ref a_refused, .int c_hasImage])), (a_now, .inr (6, [.ref a_now_row, .ref a_now_partners, .int c_now_askedCount, .int c_now_outcome, .ref a_now_share, .ref a_now_leftOver])), (a_now_row, .inl (E.2.1, 81, .inl c_now_row)), (a_kept, .inr (6, [.ref a_kept_row, .ref a_kept_partners, .int c_kept_askedCount, .int c_kept_outcome, .ref a_kept_share, .ref a_kept_leftOver])), (a_kept_row, .inl (E.2.1, 81, .inl c_kept_row)), (a_book, .inr (1, [.ref a_book_lines])), (a_book_lines, .inl (E.2.1, 300, .inl c_book_lines)), (a_keptBook, .inr (1, [.ref a_keptBook_lines])), (a_keptBook_lines, .inl (E.2.1, 300, .inl c_keptBook_lines))] := hD
  unfold F_X7_image at hF
  refine lv_aload_n hx hb dX7_image_0 rfl (lv_at hl 0 rfl) ?_
  refine gt_X7_3 (v := .ref a_now) hx hb hts i_f_X7_image_X7 hown hK hP 0 rfl (hts (.fieldLink RX7 35 "HushWatch" "now" "LHushWatch$State;") (List.mem_of_getElem? (i := 1) rfl)) rfl dX7_image_1 ?_
  replace hF := bd1_s hF
  obtain ⟨r_1, hc_2, hF⟩ := hF
  have hPc : va_P E.1 vwCl (w_X5_stands E a_now a_now_row a_now_partners a_now_share a_now_leftOver c_now_askedCount c_now_outcome c_now_row) H := hP.sub (ws' := [(a_now, .inr (6, [.ref a_now_row, .ref a_now_partners, .int c_now_askedCount, .int c_now_outcome, .ref a_now_share, .ref a_now_leftOver])), (a_now_row, .inl (E.2.1, 81, .inl c_now_row))]) [1, 2] rfl
  have hrc := va_recv hK hPc (ci := 6) (q0 := 0) rfl rfl
  refine pE_z (va_runV (As := []) (rest := [])  ⟨hx, hb, hml, hown, hts⟩ (f_X5_stands l E (a_ := a_now) (a_row := a_now_row) (a_partners := a_now_partners) (a_share := a_now_share) (a_leftOver := a_now_leftOver) (c_askedCount := c_now_askedCount) (c_outcome := c_now_outcome) (c_row := c_now_row) hc_2) (cwV 0 hts g_f_X7_image_f_X5_stands_110 rfl rfl rfl hd_X5_stands ⟨Nat.le_of_ble_eq_true rfl, Nat.le_of_ble_eq_true rfl⟩) ⟨pP.blind, hrc, (pP.pre ⟨hK, hN⟩ hPc)⟩ rfl rfl hl.1 rfl (lv_room (Nat.le_of_ble_eq_true rfl)) dX7_image_4 ⟨Nat.le_of_ble_eq_true rfl, Nat.le_of_ble_eq_true rfl⟩) (fun hb_3 => ?_)
  refine lv_if_ne (tgt := 12) hx hb dX7_image_7 (by decide) (fun c_4 => ?_) (fun c_4 => ?_)
  ·
    replace hF := inn c_4 hF
    refine lv_aload_n hx hb dX7_image_12 rfl (lv_at hl 0 rfl) ?_
    refine gt_X7_5 (v := .ref a_kept) hx hb hts i_f_X7_image_X7 hown hK hP 0 rfl (hts (.fieldLink RX7 42 "HushWatch" "kept" "LHushWatch$State;") (List.mem_of_getElem? (i := 2) rfl)) rfl dX7_image_13 ?_
    refine lv_aload_n hx hb dX7_image_16 rfl (lv_at hl 0 rfl) ?_
    refine gt_X7_3 (v := .ref a_now) hx hb hts i_f_X7_image_X7 hown hK hP 0 rfl (hts (.fieldLink RX7 35 "HushWatch" "now" "LHushWatch$State;") (List.mem_of_getElem? (i := 1) rfl)) rfl dX7_image_17 ?_
    replace hF := bd1_s hF
    obtain ⟨w_5, hc_6, hF⟩ := hF
    obtain ⟨hPc, hDc, hFc⟩ := wcut (wc := (w_X5_copyFrom E a_kept a_kept_row a_kept_partners a_kept_share a_kept_leftOver a_now a_now_row a_now_partners a_now_share a_now_leftOver c_kept_askedCount c_kept_outcome c_kept_row c_now_askedCount c_now_outcome c_now_row)) hP hD hS hA [3, 4, 1, 2] (by decide) rfl
    have hrc := va_recv hK hPc (ci := 6) (q0 := 0) rfl rfl
    refine cE_v (wc := (w_X5_copyFrom E a_kept a_kept_row a_kept_partners a_kept_share a_kept_leftOver a_now a_now_row a_now_partners a_now_share a_now_leftOver c_kept_askedCount c_kept_outcome c_kept_row c_now_askedCount c_now_outcome c_now_row)) (wr := [(a_, .inr (8, [.ref a_tape, .ref a_reader, .ref a_scripts, .ref a_now, .ref a_trial, .ref a_kept, .ref a_book, .ref a_keptBook, .ref a_history, .ref a_draws, .ref a_refused, .int c_hasImage])), (a_book, .inr (1, [.ref a_book_lines])), (a_book_lines, .inl (E.2.1, 300, .inl c_book_lines)), (a_keptBook, .inr (1, [.ref a_keptBook_lines])), (a_keptBook_lines, .inl (E.2.1, 300, .inl c_keptBook_lines))]) (w1 := (w_X5_copyFrom E a_kept a_kept_row a_kept_partners a_kept_share a_kept_leftOver a_now a_now_row a_now_partners a_now_share a_now_leftOver c_kept_askedCount c_kept_outcome w_5 c_now_askedCount c_now_outcome c_now_row)) (va_runV (As := [.ref a_now]) (rest := [])  ⟨hx, hb, hml, hown, hts⟩ (f_X5_copyFrom l E H.size (a_ := a_kept) (a_row := a_kept_row) (a_partners := a_kept_partners) (a_share := a_kept_share) (a_leftOver := a_kept_leftOver) (a_o1 := a_now) (a_o1_row := a_now_row) (a_o1_partners := a_now_partners) (a_o1_share := a_now_share) (a_o1_leftOver := a_now_leftOver) (c_askedCount := c_kept_askedCount) (c_outcome := c_kept_outcome) (c_row := c_kept_row) (c_o1_askedCount := c_now_askedCount) (c_o1_outcome := c_now_outcome) (c_o1_row := c_now_row) hc_6) (cwV 1 hts g_f_X7_image_f_X5_copyFrom_237 rfl rfl rfl hd_X5_copyFrom ⟨Nat.le_of_ble_eq_true rfl, Nat.le_of_ble_eq_true rfl⟩) ⟨pW.blind, hrc, (pW.pre ⟨hK, hN⟩ hPc hDc)⟩ rfl rfl hl.1 rfl (lv_room (Nat.le_of_ble_eq_true rfl)) dX7_image_20 ⟨Nat.le_of_ble_eq_true rfl, Nat.le_of_ble_eq_true rfl⟩) hS hFc hP hD [3, 4, 1, 2] [0, 5, 6, 7, 8] rfl rfl (by decide) (by decide) (fun H locs hP hD hS => ?_)
    replace hP : va_P E.1 vwCl [(a_, .inr (8, [.ref a_tape, .ref a_reader, .ref a_scripts, .ref a_now, .ref a_trial, .ref a_kept, .ref a_book, .ref a_keptBook, .ref a_history, .ref a_draws, .ref a_refused, .int c_hasImage])), (a_book, .inr (1, [.ref a_book_lines])), (a_book_lines, .inl (E.2.1, 300, .inl c_book_lines)), (a_keptBook, .inr (1, [.ref a_keptBook_lines])), (a_keptBook_lines, .inl (E.2.1, 300, .inl c_keptBook_lines)), (a_kept, .inr (6, [.ref a_kept_row, .ref a_kept_partners, .int c_kept_askedCount, .int c_kept_outcome, .ref a_kept_share, .ref a_kept_leftOver])), (a_kept_row, .inl (E.2.1, 81, .inl w_5)), (a_now, .inr (6, [.ref a_now_row, .ref a_now_partners, .int c_now_askedCount, .int c_now_outcome, .ref a_now_share, .ref a_now_leftOver])), (a_now_row, .inl (E.2.1, 81, .inl c_now_row))] H := hP
    replace hD : va_D A [(a_, .inr (8, [.ref a_tape, .ref a_reader, .ref a_scripts, .ref a_now, .ref a_trial, .ref a_kept, .ref a_book, .ref a_keptBook, .ref a_history, .ref a_draws, .ref a_refused, .int c_hasImage])), (a_book, .inr (1, [.ref a_book_lines])), (a_book_lines, .inl (E.2.1, 300, .inl c_book_lines)), (a_keptBook, .inr (1, [.ref a_keptBook_lines])), (a_keptBook_lines, .inl (E.2.1, 300, .inl c_keptBook_lines)), (a_kept, .inr (6, [.ref a_kept_row, .ref a_kept_partners, .int c_kept_askedCount, .int c_kept_outcome, .ref a_kept_share, .ref a_kept_leftOver])), (a_kept_row, .inl (E.2.1, 81, .inl w_5)), (a_now, .inr (6, [.ref a_now_row, .ref a_now_partners, .int c_now_askedCount, .int c_now_outcome, .ref a_now_share, .ref a_now_leftOver])), (a_now_row, .inl (E.2.1, 81, .inl c_now_row))] := hD
    refine lv_aload_n hx hb dX7_image_23 rfl (lv_at hl 0 rfl) ?_
    refine gt_X7_7 (v := .ref a_keptBook) hx hb hts i_f_X7_image_X7 hown hK hP 0 rfl (hts (.fieldLink RX7 52 "HushWatch" "keptBook" "LHushWatch$Book;") (List.mem_of_getElem? (i := 3) rfl)) rfl dX7_image_24 ?_
    refine lv_aload_n hx hb dX7_image_27 rfl (lv_at hl 0 rfl) ?_
    refine gt_X7_6 (v := .ref a_book) hx hb hts i_f_X7_image_X7 hown hK hP 0 rfl (hts (.fieldLink RX7 48 "HushWatch" "book" "LHushWatch$Book;") (List.mem_of_getElem? (i := 4) rfl)) rfl dX7_image_28 ?_
    replace hF := bd1_s hF
    obtain ⟨w_7, hc_8, hF⟩ := hF
    obtain ⟨hPc, hDc, hFc⟩ := wcut (wc := (w_X0_copyFrom E a_keptBook a_keptBook_lines a_book a_book_lines c_keptBook_lines c_book_lines)) hP hD hS hA [3, 4, 1, 2] (by decide) rfl
    have hrc := va_recv hK hPc (ci := 1) (q0 := 0) rfl rfl
    refine cE_v (wc := (w_X0_copyFrom E a_keptBook a_keptBook_lines a_book a_book_lines c_keptBook_lines c_book_lines)) (wr := [(a_, .inr (8, [.ref a_tape, .ref a_reader, .ref a_scripts, .ref a_now, .ref a_trial, .ref a_kept, .ref a_book, .ref a_keptBook, .ref a_history, .ref a_draws, .ref a_refused, .int c_hasImage])), (a_kept, .inr (6, [.ref a_kept_row, .ref a_kept_partners, .int c_kept_askedCount, .int c_kept_outcome, .ref a_kept_share, .ref a_kept_leftOver])), (a_kept_row, .inl (E.2.1, 81, .inl w_5)), (a_now, .inr (6, [.ref a_now_row, .ref a_now_partners, .int c_now_askedCount, .int c_now_outcome, .ref a_now_share, .ref a_now_leftOver])), (a_now_row, .inl (E.2.1, 81, .inl c_now_row))]) (w1 := (w_X0_copyFrom E a_keptBook a_keptBook_lines a_book a_book_lines w_7 c_book_lines)) (va_runV (As := [.ref a_book]) (rest := [])  ⟨hx, hb, hml, hown, hts⟩ (f_X0_copyFrom l E H.size (a_ := a_keptBook) (a_lines := a_keptBook_lines) (a_o1 := a_book) (a_o1_lines := a_book_lines) (c_lines := c_keptBook_lines) (c_o1_lines := c_book_lines) hc_8) (cwV 1 hts g_f_X7_image_f_X0_copyFrom_311 rfl rfl rfl hd_X0_copyFrom ⟨Nat.le_of_ble_eq_true rfl, Nat.le_of_ble_eq_true rfl⟩) ⟨pW.blind, hrc, (pW.pre ⟨hK, hN⟩ hPc hDc)⟩ rfl rfl hl.1 rfl (lv_room (Nat.le_of_ble_eq_true rfl)) dX7_image_31 ⟨Nat.le_of_ble_eq_true rfl, Nat.le_of_ble_eq_true rfl⟩) hS hFc hP hD [3, 4, 1, 2] [0, 5, 6, 7, 8] rfl rfl (by decide) (by decide) (fun H locs hP hD hS => ?_)
    replace hP : va_P E.1 vwCl [(a_, .inr (8, [.ref a_tape, .ref a_reader, .ref a_scripts, .ref a_now, .ref a_trial, .ref a_kept, .ref a_book, .ref a_keptBook, .ref a_history, .ref a_draws, .ref a_refused, .int c_hasImage])), (a_kept, .inr (6, [.ref a_kept_row, .ref a_kept_partners, .int c_kept_askedCount, .int c_kept_outcome, .ref a_kept_share, .ref a_kept_leftOver])), (a_kept_row, .inl (E.2.1, 81, .inl w_5)), (a_now, .inr (6, [.ref a_now_row, .ref a_now_partners, .int c_now_askedCount, .int c_now_outcome, .ref a_now_share, .ref a_now_leftOver])), (a_now_row, .inl (E.2.1, 81, .inl c_now_row)), (a_keptBook, .inr (1, [.ref a_keptBook_lines])), (a_keptBook_lines, .inl (E.2.1, 300, .inl w_7)), (a_book, .inr (1, [.ref a_book_lines])), (a_book_lines, .inl (E.2.1, 300, .inl c_book_lines))] H := hP
    replace hD : va_D A [(a_, .inr (8, [.ref a_tape, .ref a_reader, .ref a_scripts, .ref a_now, .ref a_trial, .ref a_kept, .ref a_book, .ref a_keptBook, .ref a_history, .ref a_draws, .ref a_refused, .int c_hasImage])), (a_kept, .inr (6, [.ref a_kept_row, .ref a_kept_partners, .int c_kept_askedCount, .int c_kept_outcome, .ref a_kept_share, .ref a_kept_leftOver])), (a_kept_row, .inl (E.2.1, 81, .inl w_5)), (a_now, .inr (6, [.ref a_now_row, .ref a_now_partners, .int c_now_askedCount, .int c_now_outcome, .ref a_now_share, .ref a_now_leftOver])), (a_now_row, .inl (E.2.1, 81, .inl c_now_row)), (a_keptBook, .inr (1, [.ref a_keptBook_lines])), (a_keptBook_lines, .inl (E.2.1, 300, .inl w_7)), (a_book, .inr (1, [.ref a_book_lines])), (a_book_lines, .inl (E.2.1, 300, .inl c_book_lines))] := hD
    refine lv_aload_n hx hb dX7_image_34 rfl (lv_at hl 0 rfl) ?_
    refine lv_iconst (v := 1) hx hb dX7_image_35 (by decide) ?_
    refine pt_X7_11 (v := .int (1 : Int32)) hx hb hts i_f_X7_image_X7 hown hK hP hD hS 0 rfl (hts (.fieldLink RX7 73 "HushWatch" "hasImage" "Z") (List.mem_of_getElem? (i := 5) rfl)) rfl rfl (Nat.le_of_ble_eq_true rfl) dX7_image_36 (fun H locs hP hD hS => ?_)
    replace hP : va_P E.1 vwCl [(a_, .inr (8, [.ref a_tape, .ref a_reader, .ref a_scripts, .ref a_now, .ref a_trial, .ref a_kept, .ref a_book, .ref a_keptBook, .ref a_history, .ref a_draws, .ref a_refused, .int (1 : Int32)])), (a_kept, .inr (6, [.ref a_kept_row, .ref a_kept_partners, .int c_kept_askedCount, .int c_kept_outcome, .ref a_kept_share, .ref a_kept_leftOver])), (a_kept_row, .inl (E.2.1, 81, .inl w_5)), (a_now, .inr (6, [.ref a_now_row, .ref a_now_partners, .int c_now_askedCount, .int c_now_outcome, .ref a_now_share, .ref a_now_leftOver])), (a_now_row, .inl (E.2.1, 81, .inl c_now_row)), (a_keptBook, .inr (1, [.ref a_keptBook_lines])), (a_keptBook_lines, .inl (E.2.1, 300, .inl w_7)), (a_book, .inr (1, [.ref a_book_lines])), (a_book_lines, .inl (E.2.1, 300, .inl c_book_lines))] H := hP
    replace hD : va_D A [(a_, .inr (8, [.ref a_tape, .ref a_reader, .ref a_scripts, .ref a_now, .ref a_trial, .ref a_kept, .ref a_book, .ref a_keptBook, .ref a_history, .ref a_draws, .ref a_refused, .int (1 : Int32)])), (a_kept, .inr (6, [.ref a_kept_row, .ref a_kept_partners, .int c_kept_askedCount, .int c_kept_outcome, .ref a_kept_share, .ref a_kept_leftOver])), (a_kept_row, .inl (E.2.1, 81, .inl w_5)), (a_now, .inr (6, [.ref a_now_row, .ref a_now_partners, .int c_now_askedCount, .int c_now_outcome, .ref a_now_share, .ref a_now_leftOver])), (a_now_row, .inl (E.2.1, 81, .inl c_now_row)), (a_keptBook, .inr (1, [.ref a_keptBook_lines])), (a_keptBook_lines, .inl (E.2.1, 300, .inl w_7)), (a_book, .inr (1, [.ref a_book_lines])), (a_book_lines, .inl (E.2.1, 300, .inl c_book_lines))] := hD
    refine lv_aload_n hx hb dX7_image_39 rfl (lv_at hl 0 rfl) ?_
    refine gt_X7_3 (v := .ref a_now) hx hb hts i_f_X7_image_X7 hown hK hP 0 rfl (hts (.fieldLink RX7 35 "HushWatch" "now" "LHushWatch$State;") (List.mem_of_getElem? (i := 1) rfl)) rfl dX7_image_40 ?_
    refine va_getN (D := E.1) (ci := 6) (v := .ref a_now_row) (C := RX5) (T := TX5) (N := 6) hx hb hts i_f_X7_image_X5 hown hK hP 3 rfl rfl 0 (by decide) (nx hN 12 rfl) (fun _ h9 => h9) rfl dX7_image_43 ?_
    refine lv_bipush (v := 11) hx hb dX7_image_46 (by decide) ?_
    refine va_iald hx hb hK hP 4 0 rfl rfl (vin rfl) dX7_image_48 ?_
    refine W.eq (g2 := F0 m 49 ls [.int (c_now_row 11)]) rfl ?_
    rw [hQ]
    have h9 := fin9 (P := fun u9 : Int32 × (Nat → Int32) × (Nat → Int32) × Int32 => (c_now_row 11) = u9.1 ∧ va_P E.1 vwCl (w_X7_image E a_ a_tape a_reader a_scripts a_now a_trial a_kept a_book a_keptBook a_history a_draws a_refused a_now_row a_now_partners a_now_share a_now_leftOver a_kept_row a_kept_partners a_kept_share a_kept_leftOver a_book_lines a_keptBook_lines u9.2.2.2 c_now_askedCount c_now_outcome c_now_row c_kept_askedCount c_kept_outcome u9.2.1 c_book_lines u9.2.2.1) H ∧ va_D A (w_X7_image E a_ a_tape a_reader a_scripts a_now a_trial a_kept a_book a_keptBook a_history a_draws a_refused a_now_row a_now_partners a_now_share a_now_leftOver a_kept_row a_kept_partners a_kept_share a_kept_leftOver a_book_lines a_keptBook_lines u9.2.2.2 c_now_askedCount c_now_outcome c_now_row c_kept_askedCount c_kept_outcome u9.2.1 c_book_lines u9.2.2.1)) hF ⟨rfl, hP.sub [0, 3, 4, 1, 2, 7, 8, 5, 6] rfl, hD.sub [0, 3, 4, 1, 2, 7, 8, 5, 6] (by decide) rfl⟩
    obtain ⟨e9_0, hP9, hD9⟩ := h9
    exact W.iret (v := c_now_row 11) hx hb hr (fun tt ht hW => ⟨⟨_, (), rfl, e9_0, ht ▸ hP9, hD9⟩, hS.F ht⟩) hS.2.2 dX7_image_49
  ·
    replace hF := ip c_4 hF
    refine lv_iconst (v := -1) hx hb dX7_image_10 (by decide) ?_
    rw [hQ]
    have h9 := fin9 (P := fun u9 : Int32 × (Nat → Int32) × (Nat → Int32) × Int32 => (-1 : Int32) = u9.1 ∧ va_P E.1 vwCl (w_X7_image E a_ a_tape a_reader a_scripts a_now a_trial a_kept a_book a_keptBook a_history a_draws a_refused a_now_row a_now_partners a_now_share a_now_leftOver a_kept_row a_kept_partners a_kept_share a_kept_leftOver a_book_lines a_keptBook_lines u9.2.2.2 c_now_askedCount c_now_outcome c_now_row c_kept_askedCount c_kept_outcome u9.2.1 c_book_lines u9.2.2.1) H ∧ va_D A (w_X7_image E a_ a_tape a_reader a_scripts a_now a_trial a_kept a_book a_keptBook a_history a_draws a_refused a_now_row a_now_partners a_now_share a_now_leftOver a_kept_row a_kept_partners a_kept_share a_kept_leftOver a_book_lines a_keptBook_lines u9.2.2.2 c_now_askedCount c_now_outcome c_now_row c_kept_askedCount c_kept_outcome u9.2.1 c_book_lines u9.2.2.1)) hF ⟨rfl, hP, hD⟩
    obtain ⟨e9_0, hP9, hD9⟩ := h9
    exact W.iret (v := (-1 : Int32)) hx hb hr (fun tt ht hW => ⟨⟨_, (), rfl, e9_0, ht ▸ hP9, hD9⟩, hS.F ht⟩) hS.2.2 dX7_image_11

def F_X7_isWay (p0 : Int32) (p1 : Int32) : Option (Int32) :=
  bd1 (F_X7_isMovable p0 p1) (fun r_1 => if r_1 = (0 : Int32) then some (0 : Int32) else if p0 = (0 : Int32) then if p1 = (0 : Int32) then some (0 : Int32) else some (1 : Int32) else some (1 : Int32))

def v_f_X7_isWay : List Cond := List.cons (.code yX7_isWay cX7_isWay 2 (some .boolean)) (HAppend.hAppend (α := List Cond) (β := List Cond) (γ := List Cond) [.methodLink RX7 336 yX7_isMovable, .static yX7_isMovable, .initialized RX7] (HAppend.hAppend (α := List Cond) (β := List Cond) (γ := List Cond) v_f_X7_isMovable []))
theorem gw_f_X7_isWay : v_f_X7_isWay.all goodWord = true := by decide +kernel
theorem g_f_X7_isWay_f_X7_isMovable_336 : GoodIn v_f_X7_isWay (va_wsS RX7 336 yX7_isMovable v_f_X7_isMovable) := goodIn_app (goodIn_of _ (by decide +kernel)) (goodIn_sub (fun _ h => List.mem_cons_of_mem _ (List.mem_append_right _ (List.mem_append_left _ h))) gw_f_X7_isMovable)
theorem hd_X7_isWay : yX7_isWay.cls = RX7 ∧ yX7_isWay.cls ≠ "java/lang/invoke/MethodHandle" ∧ yX7_isWay.cls ≠ "java/lang/invoke/VarHandle" ∧ (parseMethodDescriptor yX7_isWay.desc).map (fun d => d.parameters.length) = some 2 := by decide +kernel
set_option maxHeartbeats 4000000 in
set_option maxRecDepth 100000 in
theorem f_X7_isWay (l : Launch) (E : EE) {p0 : Int32} {p1 : Int32} {rr : Int32} (hF : F_X7_isWay p0 p1 = some rr) : Met l yX7_isWay v_f_X7_isWay (({ frames := 1, cells := 0, slots := 0, locals := 21 } : Room)) (va_Pc [.int p0, .int p1] (pP E [])) (vp_Si (fun q : Int32 => q = rr ∧ (q = 0 ∨ q = 1))) 0 0 (fun _ => False) := by
  refine Met.ofW (cc := cX7_isWay) (maxL := 2) (ret := (some .boolean)) (by decide) rfl ?_
  intro p e s m args below meth c s₁ B hml hv
  obtain ⟨rfl, ⟨hK, hN⟩, hP⟩ := hv
  have hx := B.exec
  have hb := B.bytes
  have hr := B.returns
  have hts := atoms_spec (ws := v_f_X7_isWay) B.pre
  have hown : s.vm.findClass RX7 = some m.cls := own_of hd_X7_isWay.1 (findClass_of_methodNamed B.named)
  have hlocks : meth.locks = false := B.notSynchronized
  replace hP : va_P E.1 vwCl [] s.heap := hP
  have hl := lv_entry ([.int p0, .int p1]) (n := 2) (Nat.le_of_ble_eq_true rfl)
  rw [lg_entry_eq]
  generalize (lg_sl ([.int p0, .int p1]) ++ List.replicate (2 - (lg_sl ([.int p0, .int p1])).length) Slot.unset).toArray = ls at hl ⊢
  have hl : lv_has ls 2 [(0, .int p0), (1, .int p1)] := hl
  obtain ⟨Q, hQ⟩ : ∃ Q : State → Prop, Q = MQ below (vp_Si (fun q : Int32 => q = rr ∧ (q = 0 ∨ q = 1))) #[Value.int p0, Value.int p1] s 0 0 (fun _ => False) := ⟨_, rfl⟩
  rw [← hQ]
  change W p l e ({ frames := 1, cells := 0, slots := 0, locals := 21 } : Room) s m #[Value.int p0, Value.int p1] below meth c s.heap [] 0 0 Q (F0 m 0 ls [])
  unfold F_X7_isWay at hF
  refine lv_iload_n hx hb dX7_isWay_0 rfl (lv_at hl 0 rfl) ?_
  refine lv_iload_n hx hb dX7_isWay_1 rfl (lv_at hl 1 rfl) ?_
  replace hF := bd1_s hF
  obtain ⟨r_1, hc_2, hF⟩ := hF
  have hPc : va_P E.1 vwCl [] s.heap := fun k q h => by simp at h
  refine pE_z (va_runS (As := [.int p0, .int p1]) (rest := [])  ⟨hx, hb, hml, hown, hts⟩ (f_X7_isMovable l E (p0 := p0) (p1 := p1) hc_2) (va_cwS 2 hts g_f_X7_isWay_f_X7_isMovable_336 rfl rfl rfl hd_X7_isMovable.2 ⟨Nat.le_of_ble_eq_true rfl, Nat.le_of_ble_eq_true rfl⟩) ⟨pP.blind, (pP.pre ⟨hK, hN⟩ hPc)⟩ rfl rfl hl.1 rfl (lv_room (Nat.le_of_ble_eq_true rfl)) dX7_isWay_2 ⟨Nat.le_of_ble_eq_true rfl, Nat.le_of_ble_eq_true rfl⟩) (fun hb_3 => ?_)
  refine lv_if_eq (tgt := 20) hx hb dX7_isWay_5 (by decide) (fun c_4 => ?_) (fun c_4 => ?_)
  ·
    replace hF := ip c_4 hF
    refine lv_iconst (v := 0) hx hb dX7_isWay_20 (by decide) ?_
    rw [hQ]
    obtain e9_0 := inj1 hF
    exact W.zret (v := (0 : Int32)) hx hb hr rfl (fun tt ht hW => ⟨_, rfl, ⟨e9_0, Or.inl rfl⟩, ht⟩) (fun _ h => by cases h) dX7_isWay_21
  ·
    replace hF := inn c_4 hF
    refine lv_iload_n hx hb dX7_isWay_8 rfl (lv_at hl 0 rfl) ?_
    refine lv_if_ne (tgt := 16) hx hb dX7_isWay_9 (by decide) (fun c_5 => ?_) (fun c_5 => ?_)
    ·
      replace hF := inn c_5 hF
      refine lv_iconst (v := 1) hx hb dX7_isWay_16 (by decide) ?_
      refine lv_goto (tgt := 21) hx hb dX7_isWay_17 (by decide) ?_
      rw [hQ]
      obtain e9_0 := inj1 hF
      exact W.zret (v := (1 : Int32)) hx hb hr rfl (fun tt ht hW => ⟨_, rfl, ⟨e9_0, Or.inr rfl⟩, ht⟩) (fun _ h => by cases h) dX7_isWay_21
    ·
      replace hF := ip c_5 hF
      refine lv_iload_n hx hb dX7_isWay_12 rfl (lv_at hl 1 rfl) ?_
      refine lv_if_eq (tgt := 20) hx hb dX7_isWay_13 (by decide) (fun c_6 => ?_) (fun c_6 => ?_)
      ·
        replace hF := ip c_6 hF
        refine lv_iconst (v := 0) hx hb dX7_isWay_20 (by decide) ?_
        rw [hQ]
        obtain e9_0 := inj1 hF
        exact W.zret (v := (0 : Int32)) hx hb hr rfl (fun tt ht hW => ⟨_, rfl, ⟨e9_0, Or.inl rfl⟩, ht⟩) (fun _ h => by cases h) dX7_isWay_21
      ·
        replace hF := inn c_6 hF
        refine lv_iconst (v := 1) hx hb dX7_isWay_16 (by decide) ?_
        refine lv_goto (tgt := 21) hx hb dX7_isWay_17 (by decide) ?_
        rw [hQ]
        obtain e9_0 := inj1 hF
        exact W.zret (v := (1 : Int32)) hx hb hr rfl (fun tt ht hW => ⟨_, rfl, ⟨e9_0, Or.inr rfl⟩, ht⟩) (fun _ h => by cases h) dX7_isWay_21

def F_X7_keepScript (c_tape_length : Int32) (c_reader_steps : Nat → Int32) (c_reader_stepCount : Int32) (c_scripts_steps : Nat → Int32) (c_scripts_counts : Nat → Int32) (c_scripts_held : Int32) : Option (Int32 × Int32 × (Nat → Int32) × (Nat → Int32) × Int32) :=
  bd3 (F_X4_keep c_scripts_steps c_scripts_counts c_scripts_held c_reader_steps c_reader_stepCount) (fun w_1 w_2 w_3 => bd2 (F_X6_cutTo (0 : Int32) c_tape_length) (fun r_5 w_6 => some (w_3 - (1 : Int32), w_6, w_1, w_2, w_3)))
abbrev w_X7_keepScript (E : EE) (a_ a_tape a_reader a_scripts a_now a_trial a_kept a_book a_keptBook a_history a_draws a_refused a_tape_bytes a_reader_rules a_reader_places a_reader_steps a_scripts_steps a_scripts_counts : Nat) (c_hasImage : Int32) (c_tape_length : Int32) (c_reader_siteCount : Int32) (c_reader_stepCount : Int32) (c_reader_seenRules : Int32) (c_reader_at : Int32) (c_reader_wordStart : Int32) (c_reader_number : Int32) (c_reader_failed : Int32) (c_reader_steps : Nat → Int32) (c_scripts_held : Int32) (c_scripts_steps : Nat → Int32) (c_scripts_counts : Nat → Int32) : va_W := [(a_, .inr (8, [.ref a_tape, .ref a_reader, .ref a_scripts, .ref a_now, .ref a_trial, .ref a_kept, .ref a_book, .ref a_keptBook, .ref a_history, .ref a_draws, .ref a_refused, .int c_hasImage])), (a_tape, .inr (7, [.ref a_tape_bytes, .int c_tape_length])), (a_reader, .inr (4, [.ref a_tape, .ref a_reader_rules, .ref a_reader_places, .ref a_reader_steps, .int c_reader_siteCount, .int c_reader_stepCount, .int c_reader_seenRules, .int c_reader_at, .int c_reader_wordStart, .int c_reader_number, .int c_reader_failed])), (a_reader_steps, .inl (E.2.1, 48, .inl c_reader_steps)), (a_scripts, .inr (5, [.ref a_scripts_steps, .ref a_scripts_counts, .int c_scripts_held])), (a_scripts_steps, .inl (E.2.1, 192, .inl c_scripts_steps)), (a_scripts_counts, .inl (E.2.1, 4, .inl c_scripts_counts))]
def v_f_X7_keepScript : List Cond := List.cons (.code yX7_keepScript cX7_keepScript 1 (some .int)) (HAppend.hAppend (α := List Cond) (β := List Cond) (γ := List Cond) [.fieldLink RX7 28 "HushWatch" "scripts" "LHushWatch$Scripts;", .fieldLink RX7 21 "HushWatch" "reader" "LHushWatch$Reader;", .fieldLink RX7 10 "HushWatch" "tape" "LHushWatch$Tape;", .methodLink RX7 322 yX4_keep, .instanceMethod yX4_keep, .selects RX4 yX4_keep yX4_keep, .initialized RX4, .methodLink RX7 89 yX6_cutTo, .instanceMethod yX6_cutTo, .selects RX6 yX6_cutTo yX6_cutTo, .initialized RX6] (HAppend.hAppend (α := List Cond) (β := List Cond) (γ := List Cond) wsX70 (HAppend.hAppend (α := List Cond) (β := List Cond) (γ := List Cond) v_f_X4_keep (HAppend.hAppend (α := List Cond) (β := List Cond) (γ := List Cond) v_f_X6_cutTo (HAppend.hAppend (α := List Cond) (β := List Cond) (γ := List Cond) wsX40 [])))))
theorem gw_f_X7_keepScript : v_f_X7_keepScript.all goodWord = true := by decide +kernel
theorem i_f_X7_keepScript_X7 : ∀ w ∈ wsX70, w ∈ v_f_X7_keepScript := fun _ h => List.mem_cons_of_mem _ (List.mem_append_right _ (List.mem_append_left _ h))
theorem i_f_X7_keepScript_X4 : ∀ w ∈ wsX40, w ∈ v_f_X7_keepScript := fun _ h => List.mem_cons_of_mem _ (List.mem_append_right _ (List.mem_append_right _ (List.mem_append_right _ (List.mem_append_right _ (List.mem_append_left _ h)))))
theorem g_f_X7_keepScript_f_X4_keep_322 : GoodIn v_f_X7_keepScript (wsV RX7 322 RX4 yX4_keep v_f_X4_keep) := goodIn_app (goodIn_of _ (by decide +kernel)) (goodIn_sub (fun _ h => List.mem_cons_of_mem _ (List.mem_append_right _ (List.mem_append_right _ (List.mem_append_left _ h)))) gw_f_X4_keep)
theorem g_f_X7_keepScript_f_X6_cutTo_89 : GoodIn v_f_X7_keepScript (wsV RX7 89 RX6 yX6_cutTo v_f_X6_cutTo) := goodIn_app (goodIn_of _ (by decide +kernel)) (goodIn_sub (fun _ h => List.mem_cons_of_mem _ (List.mem_append_right _ (List.mem_append_right _ (List.mem_append_right _ (List.mem_append_left _ h))))) gw_f_X6_cutTo)
theorem hd_X7_keepScript : yX7_keepScript.cls = RX7 ∧ yX7_keepScript.cls ≠ "java/lang/invoke/MethodHandle" ∧ yX7_keepScript.cls ≠ "java/lang/invoke/VarHandle" ∧ (parseMethodDescriptor yX7_keepScript.desc).map (fun d => d.parameters.length) = some 0 := by decide +kernel
set_option maxHeartbeats 4000000 in
set_option maxRecDepth 100000 in
theorem f_X7_keepScript (l : Launch) (E : EE) (sz : Nat) {a_ a_tape a_reader a_scripts a_now a_trial a_kept a_book a_keptBook a_history a_draws a_refused a_tape_bytes a_reader_rules a_reader_places a_reader_steps a_scripts_steps a_scripts_counts : Nat} {c_hasImage : Int32} {c_tape_length : Int32} {c_reader_siteCount : Int32} {c_reader_stepCount : Int32} {c_reader_seenRules : Int32} {c_reader_at : Int32} {c_reader_wordStart : Int32} {c_reader_number : Int32} {c_reader_failed : Int32} {c_reader_steps : Nat → Int32} {c_scripts_held : Int32} {c_scripts_steps : Nat → Int32} {c_scripts_counts : Nat → Int32} {rr : Int32} {n_tape_length : Int32} {n_scripts_steps : Nat → Int32} {n_scripts_counts : Nat → Int32} {n_scripts_held : Int32} (hF : F_X7_keepScript c_tape_length c_reader_steps c_reader_stepCount c_scripts_steps c_scripts_counts c_scripts_held = some (rr, n_tape_length, n_scripts_steps, n_scripts_counts, n_scripts_held)) : Met l yX7_keepScript v_f_X7_keepScript (({ frames := 2, cells := 0, slots := 0, locals := 81 } : Room)) (va_Pc [.ref a_] (pW E sz (w_X7_keepScript E a_ a_tape a_reader a_scripts a_now a_trial a_kept a_book a_keptBook a_history a_draws a_refused a_tape_bytes a_reader_rules a_reader_places a_reader_steps a_scripts_steps a_scripts_counts c_hasImage c_tape_length c_reader_siteCount c_reader_stepCount c_reader_seenRules c_reader_at c_reader_wordStart c_reader_number c_reader_failed c_reader_steps c_scripts_held c_scripts_steps c_scripts_counts))) (va_Qi (fun (q : Int32) (_u : Unit) => q = rr) (fun (_u : Unit) tt => va_P E.1 vwCl (w_X7_keepScript E a_ a_tape a_reader a_scripts a_now a_trial a_kept a_book a_keptBook a_history a_draws a_refused a_tape_bytes a_reader_rules a_reader_places a_reader_steps a_scripts_steps a_scripts_counts c_hasImage n_tape_length c_reader_siteCount c_reader_stepCount c_reader_seenRules c_reader_at c_reader_wordStart c_reader_number c_reader_failed c_reader_steps n_scripts_held n_scripts_steps n_scripts_counts) tt.heap ∧ va_D (va_A (w_X7_keepScript E a_ a_tape a_reader a_scripts a_now a_trial a_kept a_book a_keptBook a_history a_draws a_refused a_tape_bytes a_reader_rules a_reader_places a_reader_steps a_scripts_steps a_scripts_counts c_hasImage c_tape_length c_reader_siteCount c_reader_stepCount c_reader_seenRules c_reader_at c_reader_wordStart c_reader_number c_reader_failed c_reader_steps c_scripts_held c_scripts_steps c_scripts_counts) sz) (w_X7_keepScript E a_ a_tape a_reader a_scripts a_now a_trial a_kept a_book a_keptBook a_history a_draws a_refused a_tape_bytes a_reader_rules a_reader_places a_reader_steps a_scripts_steps a_scripts_counts c_hasImage n_tape_length c_reader_siteCount c_reader_stepCount c_reader_seenRules c_reader_at c_reader_wordStart c_reader_number c_reader_failed c_reader_steps n_scripts_held n_scripts_steps n_scripts_counts)) (va_A (w_X7_keepScript E a_ a_tape a_reader a_scripts a_now a_trial a_kept a_book a_keptBook a_history a_draws a_refused a_tape_bytes a_reader_rules a_reader_places a_reader_steps a_scripts_steps a_scripts_counts c_hasImage c_tape_length c_reader_siteCount c_reader_stepCount c_reader_seenRules c_reader_at c_reader_wordStart c_reader_number c_reader_failed c_reader_steps c_scripts_held c_scripts_steps c_scripts_counts) sz)) 0 0 (va_A (w_X7_keepScript E a_ a_tape a_reader a_scripts a_now a_trial a_kept a_book a_keptBook a_history a_draws a_refused a_tape_bytes a_reader_rules a_reader_places a_reader_steps a_scripts_steps a_scripts_counts c_hasImage c_tape_length c_reader_siteCount c_reader_stepCount c_reader_seenRules c_reader_at c_reader_wordStart c_reader_number c_reader_failed c_reader_steps c_scripts_held c_scripts_steps c_scripts_counts) sz) := by
  refine Met.ofW (cc := cX7_keepScript) (maxL := 1) (ret := (some .int)) (by decide) rfl ?_
  intro p e s m args below meth c s₁ B hml hv
  obtain ⟨rfl, hsz, ⟨hK, hN⟩, hP, hD0⟩ := hv
  have hx := B.exec
  have hb := B.bytes
  have hr := B.returns
  have hts := atoms_spec (ws := v_f_X7_keepScript) B.pre
  have hown : s.vm.findClass RX7 = some m.cls := own_of hd_X7_keepScript.1 (findClass_of_methodNamed B.named)
  have hlocks : meth.locks = false := B.notSynchronized
  subst hsz
  have hD := hD0.self (sz := s.heap.size)
  generalize hAe : va_A (w_X7_keepScript E a_ a_tape a_reader a_scripts a_now a_trial a_kept a_book a_keptBook a_history a_draws a_refused a_tape_bytes a_reader_rules a_reader_places a_reader_steps a_scripts_steps a_scripts_counts c_hasImage c_tape_length c_reader_siteCount c_reader_stepCount c_reader_seenRules c_reader_at c_reader_wordStart c_reader_number c_reader_failed c_reader_steps c_scripts_held c_scripts_steps c_scripts_counts) s.heap.size = A at hD ⊢
  have hA : ∀ q : Nat, s.heap.size ≤ q → A q := fun q h => by rw [← hAe]; exact Or.inr h
  have hS : va_S A s.heap s.heap [] := va_S.rf
  have hl := lv_entry ([.ref a_]) (n := 1) (Nat.le_of_ble_eq_true rfl)
  rw [lg_entry_eq]
  generalize (lg_sl ([.ref a_]) ++ List.replicate (1 - (lg_sl ([.ref a_])).length) Slot.unset).toArray = ls at hl ⊢
  have hl : lv_has ls 1 [(0, .ref a_)] := hl
  obtain ⟨Q, hQ⟩ : ∃ Q : State → Prop, Q = MQ below (va_Qi (fun (q : Int32) (_u : Unit) => q = rr) (fun (_u : Unit) tt => va_P E.1 vwCl (w_X7_keepScript E a_ a_tape a_reader a_scripts a_now a_trial a_kept a_book a_keptBook a_history a_draws a_refused a_tape_bytes a_reader_rules a_reader_places a_reader_steps a_scripts_steps a_scripts_counts c_hasImage n_tape_length c_reader_siteCount c_reader_stepCount c_reader_seenRules c_reader_at c_reader_wordStart c_reader_number c_reader_failed c_reader_steps n_scripts_held n_scripts_steps n_scripts_counts) tt.heap ∧ va_D A (w_X7_keepScript E a_ a_tape a_reader a_scripts a_now a_trial a_kept a_book a_keptBook a_history a_draws a_refused a_tape_bytes a_reader_rules a_reader_places a_reader_steps a_scripts_steps a_scripts_counts c_hasImage n_tape_length c_reader_siteCount c_reader_stepCount c_reader_seenRules c_reader_at c_reader_wordStart c_reader_number c_reader_failed c_reader_steps n_scripts_held n_scripts_steps n_scripts_counts)) A) #[Value.ref a_] s 0 0 A := ⟨_, rfl⟩
  rw [← hQ]
  change W p l e ({ frames := 2, cells := 0, slots := 0, locals := 81 } : Room) s m #[Value.ref a_] below meth c s.heap [] 0 0 Q (F0 m 0 ls [])
  suffices hh9 : ∀ (H : Heap) (locs : List Loc), va_P E.1 vwCl (w_X7_keepScript E a_ a_tape a_reader a_scripts a_now a_trial a_kept a_book a_keptBook a_history a_draws a_refused a_tape_bytes a_reader_rules a_reader_places a_reader_steps a_scripts_steps a_scripts_counts c_hasImage c_tape_length c_reader_siteCount c_reader_stepCount c_reader_seenRules c_reader_at c_reader_wordStart c_reader_number c_reader_failed c_reader_steps c_scripts_held c_scripts_steps c_scripts_counts) H → va_D A (w_X7_keepScript E a_ a_tape a_reader a_scripts a_now a_trial a_kept a_book a_keptBook a_history a_draws a_refused a_tape_bytes a_reader_rules a_reader_places a_reader_steps a_scripts_steps a_scripts_counts c_hasImage c_tape_length c_reader_siteCount c_reader_stepCount c_reader_seenRules c_reader_at c_reader_wordStart c_reader_number c_reader_failed c_reader_steps c_scripts_held c_scripts_steps c_scripts_counts) → va_S A s.heap H locs → W p l e ({ frames := 2, cells := 0, slots := 0, locals := 81 } : Room) s m #[Value.ref a_] below meth c H locs 0 0 Q (F0 m 0 ls []) from hh9 s.heap [] hP hD hS
  clear hP hD hS
  intro H locs hP hD hS
  replace hP : va_P E.1 vwCl [(a_, .inr (8, [.ref a_tape, .ref a_reader, .ref a_scripts, .ref a_now, .ref a_trial, .ref a_kept, .ref a_book, .ref a_keptBook, .ref a_history, .ref a_draws, .ref a_refused, .int c_hasImage])), (a_tape, .inr (7, [.ref a_tape_bytes, .int c_tape_length])), (a_reader, .inr (4, [.ref a_tape, .ref a_reader_rules, .ref a_reader_places, .ref a_reader_steps, .int c_reader_siteCount, .int c_reader_stepCount, .int c_reader_seenRules, .int c_reader_at, .int c_reader_wordStart, .int c_reader_number, .int c_reader_failed])), (a_reader_steps, .inl (E.2.1, 48, .inl c_reader_steps)), (a_scripts, .inr (5, [.ref a_scripts_steps, .ref a_scripts_counts, .int c_scripts_held])), (a_scripts_steps, .inl (E.2.1, 192, .inl c_scripts_steps)), (a_scripts_counts, .inl (E.2.1, 4, .inl c_scripts_counts))] H := hP
  replace hD : va_D A [(a_, .inr (8, [.ref a_tape, .ref a_reader, .ref a_scripts, .ref a_now, .ref a_trial, .ref a_kept, .ref a_book, .ref a_keptBook, .ref a_history, .ref a_draws, .ref a_refused, .int c_hasImage])), (a_tape, .inr (7, [.ref a_tape_bytes, .int c_tape_length])), (a_reader, .inr (4, [.ref a_tape, .ref a_reader_rules, .ref a_reader_places, .ref a_reader_steps, .int c_reader_siteCount, .int c_reader_stepCount, .int c_reader_seenRules, .int c_reader_at, .int c_reader_wordStart, .int c_reader_number, .int c_reader_failed])), (a_reader_steps, .inl (E.2.1, 48, .inl c_reader_steps)), (a_scripts, .inr (5, [.ref a_scripts_steps, .ref a_scripts_counts, .int c_scripts_held])), (a_scripts_steps, .inl (E.2.1, 192, .inl c_scripts_steps)), (a_scripts_counts, .inl (E.2.1, 4, .inl c_scripts_counts))] := hD
  unfold F_X7_keepScript at hF
  refine lv_aload_n hx hb dX7_keepScript_0 rfl (lv_at hl 0 rfl) ?_
  refine gt_X7_2 (v := .ref a_scripts) hx hb hts i_f_X7_keepScript_X7 hown hK hP 0 rfl (hts (.fieldLink RX7 28 "HushWatch" "scripts" "LHushWatch$Scripts;") (List.mem_of_getElem? (i := 1) rfl)) rfl dX7_keepScript_1 ?_
  refine lv_aload_n hx hb dX7_keepScript_4 rfl (lv_at hl 0 rfl) ?_
  refine gt_X7_1 (v := .ref a_reader) hx hb hts i_f_X7_keepScript_X7 hown hK hP 0 rfl (hts (.fieldLink RX7 21 "HushWatch" "reader" "LHushWatch$Reader;") (List.mem_of_getElem? (i := 2) rfl)) rfl dX7_keepScript_5 ?_
  replace hF := bd3_s hF
  obtain ⟨w_1, w_2, w_3, hc_4, hF⟩ := hF
  obtain ⟨hPc, hDc, hFc⟩ := wcut (wc := (w_X4_keep E a_scripts a_scripts_steps a_scripts_counts a_reader a_tape a_reader_rules a_reader_places a_reader_steps c_scripts_held c_scripts_steps c_scripts_counts c_reader_siteCount c_reader_stepCount c_reader_seenRules c_reader_at c_reader_wordStart c_reader_number c_reader_failed c_reader_steps)) hP hD hS hA [4, 5, 6, 2, 3] (by decide) rfl
  have hrc := va_recv hK hPc (ci := 5) (q0 := 0) rfl rfl
  refine cE_v (wc := (w_X4_keep E a_scripts a_scripts_steps a_scripts_counts a_reader a_tape a_reader_rules a_reader_places a_reader_steps c_scripts_held c_scripts_steps c_scripts_counts c_reader_siteCount c_reader_stepCount c_reader_seenRules c_reader_at c_reader_wordStart c_reader_number c_reader_failed c_reader_steps)) (wr := [(a_, .inr (8, [.ref a_tape, .ref a_reader, .ref a_scripts, .ref a_now, .ref a_trial, .ref a_kept, .ref a_book, .ref a_keptBook, .ref a_history, .ref a_draws, .ref a_refused, .int c_hasImage])), (a_tape, .inr (7, [.ref a_tape_bytes, .int c_tape_length]))]) (w1 := (w_X4_keep E a_scripts a_scripts_steps a_scripts_counts a_reader a_tape a_reader_rules a_reader_places a_reader_steps w_3 w_1 w_2 c_reader_siteCount c_reader_stepCount c_reader_seenRules c_reader_at c_reader_wordStart c_reader_number c_reader_failed c_reader_steps)) (va_runV (As := [.ref a_reader]) (rest := [])  ⟨hx, hb, hml, hown, hts⟩ (f_X4_keep l E H.size (a_ := a_scripts) (a_steps := a_scripts_steps) (a_counts := a_scripts_counts) (a_o1 := a_reader) (a_o1_tape := a_tape) (a_o1_rules := a_reader_rules) (a_o1_places := a_reader_places) (a_o1_steps := a_reader_steps) (c_held := c_scripts_held) (c_steps := c_scripts_steps) (c_counts := c_scripts_counts) (c_o1_siteCount := c_reader_siteCount) (c_o1_stepCount := c_reader_stepCount) (c_o1_seenRules := c_reader_seenRules) (c_o1_at := c_reader_at) (c_o1_wordStart := c_reader_wordStart) (c_o1_number := c_reader_number) (c_o1_failed := c_reader_failed) (c_o1_steps := c_reader_steps) hc_4) (cwV 1 hts g_f_X7_keepScript_f_X4_keep_322 rfl rfl rfl hd_X4_keep ⟨Nat.le_of_ble_eq_true rfl, Nat.le_of_ble_eq_true rfl⟩) ⟨pW.blind, hrc, (pW.pre ⟨hK, hN⟩ hPc hDc)⟩ rfl rfl hl.1 rfl (lv_room (Nat.le_of_ble_eq_true rfl)) dX7_keepScript_8 ⟨Nat.le_of_ble_eq_true rfl, Nat.le_of_ble_eq_true rfl⟩) hS hFc hP hD [4, 5, 6, 2, 3] [0, 1] rfl rfl (by decide) (by decide) (fun H locs hP hD hS => ?_)
  replace hP : va_P E.1 vwCl [(a_, .inr (8, [.ref a_tape, .ref a_reader, .ref a_scripts, .ref a_now, .ref a_trial, .ref a_kept, .ref a_book, .ref a_keptBook, .ref a_history, .ref a_draws, .ref a_refused, .int c_hasImage])), (a_tape, .inr (7, [.ref a_tape_bytes, .int c_tape_length])), (a_scripts, .inr (5, [.ref a_scripts_steps, .ref a_scripts_counts, .int w_3])), (a_scripts_steps, .inl (E.2.1, 192, .inl w_1)), (a_scripts_counts, .inl (E.2.1, 4, .inl w_2)), (a_reader, .inr (4, [.ref a_tape, .ref a_reader_rules, .ref a_reader_places, .ref a_reader_steps, .int c_reader_siteCount, .int c_reader_stepCount, .int c_reader_seenRules, .int c_reader_at, .int c_reader_wordStart, .int c_reader_number, .int c_reader_failed])), (a_reader_steps, .inl (E.2.1, 48, .inl c_reader_steps))] H := hP
  replace hD : va_D A [(a_, .inr (8, [.ref a_tape, .ref a_reader, .ref a_scripts, .ref a_now, .ref a_trial, .ref a_kept, .ref a_book, .ref a_keptBook, .ref a_history, .ref a_draws, .ref a_refused, .int c_hasImage])), (a_tape, .inr (7, [.ref a_tape_bytes, .int c_tape_length])), (a_scripts, .inr (5, [.ref a_scripts_steps, .ref a_scripts_counts, .int w_3])), (a_scripts_steps, .inl (E.2.1, 192, .inl w_1)), (a_scripts_counts, .inl (E.2.1, 4, .inl w_2)), (a_reader, .inr (4, [.ref a_tape, .ref a_reader_rules, .ref a_reader_places, .ref a_reader_steps, .int c_reader_siteCount, .int c_reader_stepCount, .int c_reader_seenRules, .int c_reader_at, .int c_reader_wordStart, .int c_reader_number, .int c_reader_failed])), (a_reader_steps, .inl (E.2.1, 48, .inl c_reader_steps))] := hD
  refine lv_aload_n hx hb dX7_keepScript_11 rfl (lv_at hl 0 rfl) ?_
  refine gt_X7_0 (v := .ref a_tape) hx hb hts i_f_X7_keepScript_X7 hown hK hP 0 rfl (hts (.fieldLink RX7 10 "HushWatch" "tape" "LHushWatch$Tape;") (List.mem_of_getElem? (i := 3) rfl)) rfl dX7_keepScript_12 ?_
  refine lv_iconst (v := 0) hx hb dX7_keepScript_15 (by decide) ?_
  replace hF := bd2_s hF
  obtain ⟨r_5, w_6, hc_7, hF⟩ := hF
  obtain ⟨hPc, hDc, hFc⟩ := wcut (wc := (w_X6_cutTo E a_tape a_tape_bytes c_tape_length)) hP hD hS hA [1] (by decide) rfl
  have hrc := va_recv hK hPc (ci := 7) (q0 := 0) rfl rfl
  refine cE_z (wc := (w_X6_cutTo E a_tape a_tape_bytes c_tape_length)) (wr := [(a_, .inr (8, [.ref a_tape, .ref a_reader, .ref a_scripts, .ref a_now, .ref a_trial, .ref a_kept, .ref a_book, .ref a_keptBook, .ref a_history, .ref a_draws, .ref a_refused, .int c_hasImage])), (a_scripts, .inr (5, [.ref a_scripts_steps, .ref a_scripts_counts, .int w_3])), (a_scripts_steps, .inl (E.2.1, 192, .inl w_1)), (a_scripts_counts, .inl (E.2.1, 4, .inl w_2)), (a_reader, .inr (4, [.ref a_tape, .ref a_reader_rules, .ref a_reader_places, .ref a_reader_steps, .int c_reader_siteCount, .int c_reader_stepCount, .int c_reader_seenRules, .int c_reader_at, .int c_reader_wordStart, .int c_reader_number, .int c_reader_failed])), (a_reader_steps, .inl (E.2.1, 48, .inl c_reader_steps))]) (w1 := (w_X6_cutTo E a_tape a_tape_bytes w_6)) (va_runV (As := [.int (0 : Int32)]) (rest := [])  ⟨hx, hb, hml, hown, hts⟩ (f_X6_cutTo l E H.size (a_ := a_tape) (a_bytes := a_tape_bytes) (p1 := (0 : Int32)) (c_length := c_tape_length) hc_7) (cwV 1 hts g_f_X7_keepScript_f_X6_cutTo_89 rfl rfl rfl hd_X6_cutTo ⟨Nat.le_of_ble_eq_true rfl, Nat.le_of_ble_eq_true rfl⟩) ⟨pW.blind, hrc, (pW.pre ⟨hK, hN⟩ hPc hDc)⟩ rfl rfl hl.1 rfl (lv_room (Nat.le_of_ble_eq_true rfl)) dX7_keepScript_16 ⟨Nat.le_of_ble_eq_true rfl, Nat.le_of_ble_eq_true rfl⟩) hS hFc hP hD [1] [0, 2, 3, 4, 5, 6] rfl rfl (by decide) (by decide) (fun hb_8 H locs hP hD hS => ?_)
  replace hP : va_P E.1 vwCl [(a_, .inr (8, [.ref a_tape, .ref a_reader, .ref a_scripts, .ref a_now, .ref a_trial, .ref a_kept, .ref a_book, .ref a_keptBook, .ref a_history, .ref a_draws, .ref a_refused, .int c_hasImage])), (a_scripts, .inr (5, [.ref a_scripts_steps, .ref a_scripts_counts, .int w_3])), (a_scripts_steps, .inl (E.2.1, 192, .inl w_1)), (a_scripts_counts, .inl (E.2.1, 4, .inl w_2)), (a_reader, .inr (4, [.ref a_tape, .ref a_reader_rules, .ref a_reader_places, .ref a_reader_steps, .int c_reader_siteCount, .int c_reader_stepCount, .int c_reader_seenRules, .int c_reader_at, .int c_reader_wordStart, .int c_reader_number, .int c_reader_failed])), (a_reader_steps, .inl (E.2.1, 48, .inl c_reader_steps)), (a_tape, .inr (7, [.ref a_tape_bytes, .int w_6]))] H := hP
  replace hD : va_D A [(a_, .inr (8, [.ref a_tape, .ref a_reader, .ref a_scripts, .ref a_now, .ref a_trial, .ref a_kept, .ref a_book, .ref a_keptBook, .ref a_history, .ref a_draws, .ref a_refused, .int c_hasImage])), (a_scripts, .inr (5, [.ref a_scripts_steps, .ref a_scripts_counts, .int w_3])), (a_scripts_steps, .inl (E.2.1, 192, .inl w_1)), (a_scripts_counts, .inl (E.2.1, 4, .inl w_2)), (a_reader, .inr (4, [.ref a_tape, .ref a_reader_rules, .ref a_reader_places, .ref a_reader_steps, .int c_reader_siteCount, .int c_reader_stepCount, .int c_reader_seenRules, .int c_reader_at, .int c_reader_wordStart, .int c_reader_number, .int c_reader_failed])), (a_reader_steps, .inl (E.2.1, 48, .inl c_reader_steps)), (a_tape, .inr (7, [.ref a_tape_bytes, .int w_6]))] := hD
  refine lv_pop hx hb dX7_keepScript_19 rfl ?_
  refine lv_aload_n hx hb dX7_keepScript_20 rfl (lv_at hl 0 rfl) ?_
  refine gt_X7_2 (v := .ref a_scripts) hx hb hts i_f_X7_keepScript_X7 hown hK hP 0 rfl (hts (.fieldLink RX7 28 "HushWatch" "scripts" "LHushWatch$Scripts;") (List.mem_of_getElem? (i := 1) rfl)) rfl dX7_keepScript_21 ?_
  refine va_getN (D := E.1) (ci := 5) (v := .int w_3) (C := RX4) (T := TX4) (N := 3) hx hb hts i_f_X7_keepScript_X4 hown hK hP 1 rfl rfl 2 (by decide) (nx hN 9 rfl) (fun _ h9 => h9) rfl dX7_keepScript_24 ?_
  refine lv_iconst (v := 1) hx hb dX7_keepScript_27 (by decide) ?_
  refine lv_isub hx hb dX7_keepScript_28 ?_
  rw [hQ]
  have h9 := fin9 (P := fun u9 : Int32 × Int32 × (Nat → Int32) × (Nat → Int32) × Int32 => (w_3 - (1 : Int32)) = u9.1 ∧ va_P E.1 vwCl (w_X7_keepScript E a_ a_tape a_reader a_scripts a_now a_trial a_kept a_book a_keptBook a_history a_draws a_refused a_tape_bytes a_reader_rules a_reader_places a_reader_steps a_scripts_steps a_scripts_counts c_hasImage u9.2.1 c_reader_siteCount c_reader_stepCount c_reader_seenRules c_reader_at c_reader_wordStart c_reader_number c_reader_failed c_reader_steps u9.2.2.2.2 u9.2.2.1 u9.2.2.2.1) H ∧ va_D A (w_X7_keepScript E a_ a_tape a_reader a_scripts a_now a_trial a_kept a_book a_keptBook a_history a_draws a_refused a_tape_bytes a_reader_rules a_reader_places a_reader_steps a_scripts_steps a_scripts_counts c_hasImage u9.2.1 c_reader_siteCount c_reader_stepCount c_reader_seenRules c_reader_at c_reader_wordStart c_reader_number c_reader_failed c_reader_steps u9.2.2.2.2 u9.2.2.1 u9.2.2.2.1)) hF ⟨rfl, hP.sub [0, 6, 4, 5, 1, 2, 3] rfl, hD.sub [0, 6, 4, 5, 1, 2, 3] (by decide) rfl⟩
  obtain ⟨e9_0, hP9, hD9⟩ := h9
  exact W.iret (v := w_3 - (1 : Int32)) hx hb hr (fun tt ht hW => ⟨⟨_, (), rfl, e9_0, ht ▸ hP9, hD9⟩, hS.F ht⟩) hS.2.2 dX7_keepScript_29

def F_X7_law (K : Nat) (p1 : Int32) (c_now_row : Nat → Int32) (c_now_partners : Nat → Int32) (c_now_askedCount : Int32) (c_now_outcome : Int32) (c_now_share : Nat → Int32) (c_now_leftOver : Nat → Int32) (c_book_lines : Nat → Int32) (c_history_rows : Nat → Int32) (c_history_next : Int32) (c_history_held : Int32) (c_refused : Nat → Int32) : Option (Int32 × (Nat → Int32) × (Nat → Int32) × Int32 × Int32 × (Nat → Int32) × (Nat → Int32) × (Nat → Int32) × (Nat → Int32) × Int32 × Int32 × (Nat → Int32)) :=
  bd12 (F_X7_act K (3 : Int32) p1 (0 : Int32) (0 : Int32) (1 : Int32) c_now_row c_now_partners c_now_askedCount c_now_outcome c_now_share c_now_leftOver c_book_lines c_history_rows c_history_next c_history_held c_refused) (fun r_1 w_2 w_3 w_4 w_5 w_6 w_7 w_8 w_9 w_10 w_11 w_12 => if (0 : Int32) ≤ r_1 then some (c_now_row 0, w_2, w_3, w_4, w_5, w_6, w_7, w_8, w_9, w_10, w_11, w_12) else some ((-1 : Int32), w_2, w_3, w_4, w_5, w_6, w_7, w_8, w_9, w_10, w_11, w_12))
abbrev w_X7_law (E : EE) (a_ a_tape a_reader a_scripts a_now a_trial a_kept a_book a_keptBook a_history a_draws a_refused a_now_row a_now_partners a_now_share a_now_leftOver a_book_lines a_history_rows : Nat) (c_hasImage : Int32) (c_now_askedCount : Int32) (c_now_outcome : Int32) (c_now_row : Nat → Int32) (c_now_partners : Nat → Int32) (c_now_share : Nat → Int32) (c_now_leftOver : Nat → Int32) (c_book_lines : Nat → Int32) (c_history_next : Int32) (c_history_held : Int32) (c_history_rows : Nat → Int32) (c_refused : Nat → Int32) : va_W := [(a_, .inr (8, [.ref a_tape, .ref a_reader, .ref a_scripts, .ref a_now, .ref a_trial, .ref a_kept, .ref a_book, .ref a_keptBook, .ref a_history, .ref a_draws, .ref a_refused, .int c_hasImage])), (a_now, .inr (6, [.ref a_now_row, .ref a_now_partners, .int c_now_askedCount, .int c_now_outcome, .ref a_now_share, .ref a_now_leftOver])), (a_now_row, .inl (E.2.1, 81, .inl c_now_row)), (a_now_partners, .inl (E.2.1, 8, .inl c_now_partners)), (a_now_share, .inl (E.2.1, 2, .inl c_now_share)), (a_now_leftOver, .inl (E.2.1, 2, .inl c_now_leftOver)), (a_book, .inr (1, [.ref a_book_lines])), (a_book_lines, .inl (E.2.1, 300, .inl c_book_lines)), (a_history, .inr (3, [.ref a_history_rows, .int c_history_next, .int c_history_held])), (a_history_rows, .inl (E.2.1, 3240, .inl c_history_rows)), (a_refused, .inl (E.2.1, 3, .inl c_refused))]
def v_f_X7_law : List Cond := List.cons (.code yX7_law cX7_law 3 (some .int)) (HAppend.hAppend (α := List Cond) (β := List Cond) (γ := List Cond) [.fieldLink RX7 35 "HushWatch" "now" "LHushWatch$State;", .methodLink RX7 163 yX7_act, .instanceMethod yX7_act, .selects RX7 yX7_act yX7_act, .initialized RX7] (HAppend.hAppend (α := List Cond) (β := List Cond) (γ := List Cond) wsX70 (HAppend.hAppend (α := List Cond) (β := List Cond) (γ := List Cond) wsX50 (HAppend.hAppend (α := List Cond) (β := List Cond) (γ := List Cond) v_f_X7_act []))))
theorem gw_f_X7_law : v_f_X7_law.all goodWord = true := by decide +kernel
theorem i_f_X7_law_X7 : ∀ w ∈ wsX70, w ∈ v_f_X7_law := fun _ h => List.mem_cons_of_mem _ (List.mem_append_right _ (List.mem_append_left _ h))
theorem i_f_X7_law_X5 : ∀ w ∈ wsX50, w ∈ v_f_X7_law := fun _ h => List.mem_cons_of_mem _ (List.mem_append_right _ (List.mem_append_right _ (List.mem_append_left _ h)))
theorem g_f_X7_law_f_X7_act_163 : GoodIn v_f_X7_law (wsV RX7 163 RX7 yX7_act v_f_X7_act) := goodIn_app (goodIn_of _ (by decide +kernel)) (goodIn_sub (fun _ h => List.mem_cons_of_mem _ (List.mem_append_right _ (List.mem_append_right _ (List.mem_append_right _ (List.mem_append_left _ h))))) gw_f_X7_act)
theorem hd_X7_law : yX7_law.cls = RX7 ∧ yX7_law.cls ≠ "java/lang/invoke/MethodHandle" ∧ yX7_law.cls ≠ "java/lang/invoke/VarHandle" ∧ (parseMethodDescriptor yX7_law.desc).map (fun d => d.parameters.length) = some 1 := by decide +kernel
set_option maxHeartbeats 4000000 in
set_option maxRecDepth 100000 in
theorem f_X7_law (l : Launch) (E : EE) (sz : Nat) (K : Nat) {a_ a_tape a_reader a_scripts a_now a_trial a_kept a_book a_keptBook a_history a_draws a_refused a_now_row a_now_partners a_now_share a_now_leftOver a_book_lines a_history_rows : Nat} {p1 : Int32} {c_hasImage : Int32} {c_now_askedCount : Int32} {c_now_outcome : Int32} {c_now_row : Nat → Int32} {c_now_partners : Nat → Int32} {c_now_share : Nat → Int32} {c_now_leftOver : Nat → Int32} {c_book_lines : Nat → Int32} {c_history_next : Int32} {c_history_held : Int32} {c_history_rows : Nat → Int32} {c_refused : Nat → Int32} {rr : Int32} {n_now_row : Nat → Int32} {n_now_partners : Nat → Int32} {n_now_askedCount : Int32} {n_now_outcome : Int32} {n_now_share : Nat → Int32} {n_now_leftOver : Nat → Int32} {n_book_lines : Nat → Int32} {n_history_rows : Nat → Int32} {n_history_next : Int32} {n_history_held : Int32} {n_refused : Nat → Int32} (hF : F_X7_law K p1 c_now_row c_now_partners c_now_askedCount c_now_outcome c_now_share c_now_leftOver c_book_lines c_history_rows c_history_next c_history_held c_refused = some (rr, n_now_row, n_now_partners, n_now_askedCount, n_now_outcome, n_now_share, n_now_leftOver, n_book_lines, n_history_rows, n_history_next, n_history_held, n_refused)) : Met l yX7_law v_f_X7_law (({ frames := 6, cells := 0, slots := 0, locals := 151 } : Room)) (va_Pc [.ref a_, .int p1] (pW E sz (w_X7_law E a_ a_tape a_reader a_scripts a_now a_trial a_kept a_book a_keptBook a_history a_draws a_refused a_now_row a_now_partners a_now_share a_now_leftOver a_book_lines a_history_rows c_hasImage c_now_askedCount c_now_outcome c_now_row c_now_partners c_now_share c_now_leftOver c_book_lines c_history_next c_history_held c_history_rows c_refused))) (va_Qi (fun (q : Int32) (_u : Unit) => q = rr) (fun (_u : Unit) tt => va_P E.1 vwCl (w_X7_law E a_ a_tape a_reader a_scripts a_now a_trial a_kept a_book a_keptBook a_history a_draws a_refused a_now_row a_now_partners a_now_share a_now_leftOver a_book_lines a_history_rows c_hasImage n_now_askedCount n_now_outcome n_now_row n_now_partners n_now_share n_now_leftOver n_book_lines n_history_next n_history_held n_history_rows n_refused) tt.heap ∧ va_D (va_A (w_X7_law E a_ a_tape a_reader a_scripts a_now a_trial a_kept a_book a_keptBook a_history a_draws a_refused a_now_row a_now_partners a_now_share a_now_leftOver a_book_lines a_history_rows c_hasImage c_now_askedCount c_now_outcome c_now_row c_now_partners c_now_share c_now_leftOver c_book_lines c_history_next c_history_held c_history_rows c_refused) sz) (w_X7_law E a_ a_tape a_reader a_scripts a_now a_trial a_kept a_book a_keptBook a_history a_draws a_refused a_now_row a_now_partners a_now_share a_now_leftOver a_book_lines a_history_rows c_hasImage n_now_askedCount n_now_outcome n_now_row n_now_partners n_now_share n_now_leftOver n_book_lines n_history_next n_history_held n_history_rows n_refused)) (va_A (w_X7_law E a_ a_tape a_reader a_scripts a_now a_trial a_kept a_book a_keptBook a_history a_draws a_refused a_now_row a_now_partners a_now_share a_now_leftOver a_book_lines a_history_rows c_hasImage c_now_askedCount c_now_outcome c_now_row c_now_partners c_now_share c_now_leftOver c_book_lines c_history_next c_history_held c_history_rows c_refused) sz)) 0 0 (va_A (w_X7_law E a_ a_tape a_reader a_scripts a_now a_trial a_kept a_book a_keptBook a_history a_draws a_refused a_now_row a_now_partners a_now_share a_now_leftOver a_book_lines a_history_rows c_hasImage c_now_askedCount c_now_outcome c_now_row c_now_partners c_now_share c_now_leftOver c_book_lines c_history_next c_history_held c_history_rows c_refused) sz) := by
  refine Met.ofW (cc := cX7_law) (maxL := 3) (ret := (some .int)) (by decide) rfl ?_
  intro p e s m args below meth c s₁ B hml hv
  obtain ⟨rfl, hsz, ⟨hK, hN⟩, hP, hD0⟩ := hv
  have hx := B.exec
  have hb := B.bytes
  have hr := B.returns
  have hts := atoms_spec (ws := v_f_X7_law) B.pre
  have hown : s.vm.findClass RX7 = some m.cls := own_of hd_X7_law.1 (findClass_of_methodNamed B.named)
  have hlocks : meth.locks = false := B.notSynchronized
  subst hsz
  have hD := hD0.self (sz := s.heap.size)
  generalize hAe : va_A (w_X7_law E a_ a_tape a_reader a_scripts a_now a_trial a_kept a_book a_keptBook a_history a_draws a_refused a_now_row a_now_partners a_now_share a_now_leftOver a_book_lines a_history_rows c_hasImage c_now_askedCount c_now_outcome c_now_row c_now_partners c_now_share c_now_leftOver c_book_lines c_history_next c_history_held c_history_rows c_refused) s.heap.size = A at hD ⊢
  have hA : ∀ q : Nat, s.heap.size ≤ q → A q := fun q h => by rw [← hAe]; exact Or.inr h
  have hS : va_S A s.heap s.heap [] := va_S.rf
  have hl := lv_entry ([.ref a_, .int p1]) (n := 3) (Nat.le_of_ble_eq_true rfl)
  rw [lg_entry_eq]
  generalize (lg_sl ([.ref a_, .int p1]) ++ List.replicate (3 - (lg_sl ([.ref a_, .int p1])).length) Slot.unset).toArray = ls at hl ⊢
  have hl : lv_has ls 3 [(0, .ref a_), (1, .int p1)] := hl
  obtain ⟨Q, hQ⟩ : ∃ Q : State → Prop, Q = MQ below (va_Qi (fun (q : Int32) (_u : Unit) => q = rr) (fun (_u : Unit) tt => va_P E.1 vwCl (w_X7_law E a_ a_tape a_reader a_scripts a_now a_trial a_kept a_book a_keptBook a_history a_draws a_refused a_now_row a_now_partners a_now_share a_now_leftOver a_book_lines a_history_rows c_hasImage n_now_askedCount n_now_outcome n_now_row n_now_partners n_now_share n_now_leftOver n_book_lines n_history_next n_history_held n_history_rows n_refused) tt.heap ∧ va_D A (w_X7_law E a_ a_tape a_reader a_scripts a_now a_trial a_kept a_book a_keptBook a_history a_draws a_refused a_now_row a_now_partners a_now_share a_now_leftOver a_book_lines a_history_rows c_hasImage n_now_askedCount n_now_outcome n_now_row n_now_partners n_now_share n_now_leftOver n_book_lines n_history_next n_history_held n_history_rows n_refused)) A) #[Value.ref a_, Value.int p1] s 0 0 A := ⟨_, rfl⟩
  rw [← hQ]
  change W p l e ({ frames := 6, cells := 0, slots := 0, locals := 151 } : Room) s m #[Value.ref a_, Value.int p1] below meth c s.heap [] 0 0 Q (F0 m 0 ls [])
  suffices hh9 : ∀ (H : Heap) (locs : List Loc), va_P E.1 vwCl (w_X7_law E a_ a_tape a_reader a_scripts a_now a_trial a_kept a_book a_keptBook a_history a_draws a_refused a_now_row a_now_partners a_now_share a_now_leftOver a_book_lines a_history_rows c_hasImage c_now_askedCount c_now_outcome c_now_row c_now_partners c_now_share c_now_leftOver c_book_lines c_history_next c_history_held c_history_rows c_refused) H → va_D A (w_X7_law E a_ a_tape a_reader a_scripts a_now a_trial a_kept a_book a_keptBook a_history a_draws a_refused a_now_row a_now_partners a_now_share a_now_leftOver a_book_lines a_history_rows c_hasImage c_now_askedCount c_now_outcome c_now_row c_now_partners c_now_share c_now_leftOver c_book_lines c_history_next c_history_held c_history_rows c_refused) → va_S A s.heap H locs → W p l e ({ frames := 6, cells := 0, slots := 0, locals := 151 } : Room) s m #[Value.ref a_, Value.int p1] below meth c H locs 0 0 Q (F0 m 0 ls []) from hh9 s.heap [] hP hD hS
  clear hP hD hS
  intro H locs hP hD hS
  replace hP : va_P E.1 vwCl [(a_, .inr (8, [.ref a_tape, .ref a_reader, .ref a_scripts, .ref a_now, .ref a_trial, .ref a_kept, .ref a_book, .ref a_keptBook, .ref a_history, .ref a_draws, .ref a_refused, .int c_hasImage])), (a_now, .inr (6, [.ref a_now_row, .ref a_now_partners, .int c_now_askedCount, .int c_now_outcome, .ref a_now_share, .ref a_now_leftOver])), (a_now_row, .inl (E.2.1, 81, .inl c_now_row)), (a_now_partners, .inl (E.2.1, 8, .inl c_now_partners)), (a_now_share, .inl (E.2.1, 2, .inl c_now_share)), (a_now_leftOver, .inl (E.2.1, 2, .inl c_now_leftOver)), (a_book, .inr (1, [.ref a_book_lines])), (a_book_lines, .inl (E.2.1, 300, .inl c_book_lines)), (a_history, .inr (3, [.ref a_history_rows, .int c_history_next, .int c_history_held])), (a_history_rows, .inl (E.2.1, 3240, .inl c_history_rows)), (a_refused, .inl (E.2.1, 3, .inl c_refused))] H := hP
  replace hD : va_D A [(a_, .inr (8, [.ref a_tape, .ref a_reader, .ref a_scripts, .ref a_now, .ref a_trial, .ref a_kept, .ref a_book, .ref a_keptBook, .ref a_history, .ref a_draws, .ref a_refused, .int c_hasImage])), (a_now, .inr (6, [.ref a_now_row, .ref a_now_partners, .int c_now_askedCount, .int c_now_outcome, .ref a_now_share, .ref a_now_leftOver])), (a_now_row, .inl (E.2.1, 81, .inl c_now_row)), (a_now_partners, .inl (E.2.1, 8, .inl c_now_partners)), (a_now_share, .inl (E.2.1, 2, .inl c_now_share)), (a_now_leftOver, .inl (E.2.1, 2, .inl c_now_leftOver)), (a_book, .inr (1, [.ref a_book_lines])), (a_book_lines, .inl (E.2.1, 300, .inl c_book_lines)), (a_history, .inr (3, [.ref a_history_rows, .int c_history_next, .int c_history_held])), (a_history_rows, .inl (E.2.1, 3240, .inl c_history_rows)), (a_refused, .inl (E.2.1, 3, .inl c_refused))] := hD
  unfold F_X7_law at hF
  refine lv_aload_n hx hb dX7_law_0 rfl (lv_at hl 0 rfl) ?_
  refine gt_X7_3 (v := .ref a_now) hx hb hts i_f_X7_law_X7 hown hK hP 0 rfl (hts (.fieldLink RX7 35 "HushWatch" "now" "LHushWatch$State;") (List.mem_of_getElem? (i := 1) rfl)) rfl dX7_law_1 ?_
  refine va_getN (D := E.1) (ci := 6) (v := .ref a_now_row) (C := RX5) (T := TX5) (N := 6) hx hb hts i_f_X7_law_X5 hown hK hP 1 rfl rfl 0 (by decide) (nx hN 12 rfl) (fun _ h9 => h9) rfl dX7_law_4 ?_
  refine lv_iconst (v := 0) hx hb dX7_law_7 (by decide) ?_
  refine va_iald hx hb hK hP 2 0 rfl rfl (vin rfl) dX7_law_8 ?_
  refine W.eq (g2 := F0 m 9 ls [.int (c_now_row 0)]) rfl ?_
  refine lv_istore_n (lv' := [(2, .int (c_now_row 0)), (0, .ref a_), (1, .int p1)]) hx hb dX7_law_9 rfl hl (by decide) rfl (fun ls hl => ?_)
  refine lv_aload_n hx hb dX7_law_10 rfl (lv_at hl 1 rfl) ?_
  refine lv_iconst (v := 3) hx hb dX7_law_11 (by decide) ?_
  refine lv_iload_n hx hb dX7_law_12 rfl (lv_at hl 2 rfl) ?_
  refine lv_iconst (v := 0) hx hb dX7_law_13 (by decide) ?_
  refine lv_iconst (v := 0) hx hb dX7_law_14 (by decide) ?_
  refine lv_iconst (v := 1) hx hb dX7_law_15 (by decide) ?_
  replace hF := bd12_s hF
  obtain ⟨r_1, w_2, w_3, w_4, w_5, w_6, w_7, w_8, w_9, w_10, w_11, w_12, hc_13, hF⟩ := hF
  obtain ⟨hPc, hDc, hFc⟩ := wcut (wc := (w_X7_act E a_ a_tape a_reader a_scripts a_now a_trial a_kept a_book a_keptBook a_history a_draws a_refused a_now_row a_now_partners a_now_share a_now_leftOver a_book_lines a_history_rows c_hasImage c_now_askedCount c_now_outcome c_now_row c_now_partners c_now_share c_now_leftOver c_book_lines c_history_next c_history_held c_history_rows c_refused)) hP hD hS hA [0, 1, 2, 3, 4, 5, 6, 7, 8, 9, 10] (by decide) rfl
  have hrc := va_recv hK hPc (ci := 8) (q0 := 0) rfl rfl
  refine cE_i (wc := (w_X7_act E a_ a_tape a_reader a_scripts a_now a_trial a_kept a_book a_keptBook a_history a_draws a_refused a_now_row a_now_partners a_now_share a_now_leftOver a_book_lines a_history_rows c_hasImage c_now_askedCount c_now_outcome c_now_row c_now_partners c_now_share c_now_leftOver c_book_lines c_history_next c_history_held c_history_rows c_refused)) (wr := []) (w1 := (w_X7_act E a_ a_tape a_reader a_scripts a_now a_trial a_kept a_book a_keptBook a_history a_draws a_refused a_now_row a_now_partners a_now_share a_now_leftOver a_book_lines a_history_rows c_hasImage w_4 w_5 w_2 w_3 w_6 w_7 w_8 w_10 w_11 w_9 w_12)) (va_runV (As := [.int (3 : Int32), .int p1, .int (0 : Int32), .int (0 : Int32), .int (1 : Int32)]) (rest := [])  ⟨hx, hb, hml, hown, hts⟩ (f_X7_act l E H.size K (a_ := a_) (a_tape := a_tape) (a_reader := a_reader) (a_scripts := a_scripts) (a_now := a_now) (a_trial := a_trial) (a_kept := a_kept) (a_book := a_book) (a_keptBook := a_keptBook) (a_history := a_history) (a_draws := a_draws) (a_refused := a_refused) (a_now_row := a_now_row) (a_now_partners := a_now_partners) (a_now_share := a_now_share) (a_now_leftOver := a_now_leftOver) (a_book_lines := a_book_lines) (a_history_rows := a_history_rows) (p1 := (3 : Int32)) (p2 := p1) (p3 := (0 : Int32)) (p4 := (0 : Int32)) (p5 := (1 : Int32)) (c_hasImage := c_hasImage) (c_now_askedCount := c_now_askedCount) (c_now_outcome := c_now_outcome) (c_now_row := c_now_row) (c_now_partners := c_now_partners) (c_now_share := c_now_share) (c_now_leftOver := c_now_leftOver) (c_book_lines := c_book_lines) (c_history_next := c_history_next) (c_history_held := c_history_held) (c_history_rows := c_history_rows) (c_refused := c_refused) hc_13) (cwV 5 hts g_f_X7_law_f_X7_act_163 rfl rfl rfl hd_X7_act ⟨Nat.le_of_ble_eq_true rfl, Nat.le_of_ble_eq_true rfl⟩) ⟨pW.blind, hrc, (pW.pre ⟨hK, hN⟩ hPc hDc)⟩ rfl rfl hl.1 rfl (lv_room (Nat.le_of_ble_eq_true rfl)) dX7_law_16 ⟨Nat.le_of_ble_eq_true rfl, Nat.le_of_ble_eq_true rfl⟩) hS hFc hP hD [0, 1, 2, 3, 4, 5, 6, 7, 8, 9, 10] [] rfl rfl (by decide) (by decide) (fun H locs hP hD hS => ?_)
  replace hP : va_P E.1 vwCl [(a_, .inr (8, [.ref a_tape, .ref a_reader, .ref a_scripts, .ref a_now, .ref a_trial, .ref a_kept, .ref a_book, .ref a_keptBook, .ref a_history, .ref a_draws, .ref a_refused, .int c_hasImage])), (a_now, .inr (6, [.ref a_now_row, .ref a_now_partners, .int w_4, .int w_5, .ref a_now_share, .ref a_now_leftOver])), (a_now_row, .inl (E.2.1, 81, .inl w_2)), (a_now_partners, .inl (E.2.1, 8, .inl w_3)), (a_now_share, .inl (E.2.1, 2, .inl w_6)), (a_now_leftOver, .inl (E.2.1, 2, .inl w_7)), (a_book, .inr (1, [.ref a_book_lines])), (a_book_lines, .inl (E.2.1, 300, .inl w_8)), (a_history, .inr (3, [.ref a_history_rows, .int w_10, .int w_11])), (a_history_rows, .inl (E.2.1, 3240, .inl w_9)), (a_refused, .inl (E.2.1, 3, .inl w_12))] H := hP
  replace hD : va_D A [(a_, .inr (8, [.ref a_tape, .ref a_reader, .ref a_scripts, .ref a_now, .ref a_trial, .ref a_kept, .ref a_book, .ref a_keptBook, .ref a_history, .ref a_draws, .ref a_refused, .int c_hasImage])), (a_now, .inr (6, [.ref a_now_row, .ref a_now_partners, .int w_4, .int w_5, .ref a_now_share, .ref a_now_leftOver])), (a_now_row, .inl (E.2.1, 81, .inl w_2)), (a_now_partners, .inl (E.2.1, 8, .inl w_3)), (a_now_share, .inl (E.2.1, 2, .inl w_6)), (a_now_leftOver, .inl (E.2.1, 2, .inl w_7)), (a_book, .inr (1, [.ref a_book_lines])), (a_book_lines, .inl (E.2.1, 300, .inl w_8)), (a_history, .inr (3, [.ref a_history_rows, .int w_10, .int w_11])), (a_history_rows, .inl (E.2.1, 3240, .inl w_9)), (a_refused, .inl (E.2.1, 3, .inl w_12))] := hD
  refine lv_if_ge (tgt := 26) hx hb dX7_law_19 (by decide) (fun c_14 => ?_) (fun c_14 => ?_)
  ·
    replace hF := ip c_14 hF
    refine lv_iload_n hx hb dX7_law_26 rfl (lv_at hl 0 rfl) ?_
    rw [hQ]
    have h9 := fin9 (P := fun u9 : Int32 × (Nat → Int32) × (Nat → Int32) × Int32 × Int32 × (Nat → Int32) × (Nat → Int32) × (Nat → Int32) × (Nat → Int32) × Int32 × Int32 × (Nat → Int32) => (c_now_row 0) = u9.1 ∧ va_P E.1 vwCl (w_X7_law E a_ a_tape a_reader a_scripts a_now a_trial a_kept a_book a_keptBook a_history a_draws a_refused a_now_row a_now_partners a_now_share a_now_leftOver a_book_lines a_history_rows c_hasImage u9.2.2.2.1 u9.2.2.2.2.1 u9.2.1 u9.2.2.1 u9.2.2.2.2.2.1 u9.2.2.2.2.2.2.1 u9.2.2.2.2.2.2.2.1 u9.2.2.2.2.2.2.2.2.2.1 u9.2.2.2.2.2.2.2.2.2.2.1 u9.2.2.2.2.2.2.2.2.1 u9.2.2.2.2.2.2.2.2.2.2.2) H ∧ va_D A (w_X7_law E a_ a_tape a_reader a_scripts a_now a_trial a_kept a_book a_keptBook a_history a_draws a_refused a_now_row a_now_partners a_now_share a_now_leftOver a_book_lines a_history_rows c_hasImage u9.2.2.2.1 u9.2.2.2.2.1 u9.2.1 u9.2.2.1 u9.2.2.2.2.2.1 u9.2.2.2.2.2.2.1 u9.2.2.2.2.2.2.2.1 u9.2.2.2.2.2.2.2.2.2.1 u9.2.2.2.2.2.2.2.2.2.2.1 u9.2.2.2.2.2.2.2.2.1 u9.2.2.2.2.2.2.2.2.2.2.2)) hF ⟨rfl, hP, hD⟩
    obtain ⟨e9_0, hP9, hD9⟩ := h9
    exact W.iret (v := c_now_row 0) hx hb hr (fun tt ht hW => ⟨⟨_, (), rfl, e9_0, ht ▸ hP9, hD9⟩, hS.F ht⟩) hS.2.2 dX7_law_27
  ·
    replace hF := inn c_14 hF
    refine lv_iconst (v := -1) hx hb dX7_law_22 (by decide) ?_
    refine lv_goto (tgt := 27) hx hb dX7_law_23 (by decide) ?_
    rw [hQ]
    have h9 := fin9 (P := fun u9 : Int32 × (Nat → Int32) × (Nat → Int32) × Int32 × Int32 × (Nat → Int32) × (Nat → Int32) × (Nat → Int32) × (Nat → Int32) × Int32 × Int32 × (Nat → Int32) => (-1 : Int32) = u9.1 ∧ va_P E.1 vwCl (w_X7_law E a_ a_tape a_reader a_scripts a_now a_trial a_kept a_book a_keptBook a_history a_draws a_refused a_now_row a_now_partners a_now_share a_now_leftOver a_book_lines a_history_rows c_hasImage u9.2.2.2.1 u9.2.2.2.2.1 u9.2.1 u9.2.2.1 u9.2.2.2.2.2.1 u9.2.2.2.2.2.2.1 u9.2.2.2.2.2.2.2.1 u9.2.2.2.2.2.2.2.2.2.1 u9.2.2.2.2.2.2.2.2.2.2.1 u9.2.2.2.2.2.2.2.2.1 u9.2.2.2.2.2.2.2.2.2.2.2) H ∧ va_D A (w_X7_law E a_ a_tape a_reader a_scripts a_now a_trial a_kept a_book a_keptBook a_history a_draws a_refused a_now_row a_now_partners a_now_share a_now_leftOver a_book_lines a_history_rows c_hasImage u9.2.2.2.1 u9.2.2.2.2.1 u9.2.1 u9.2.2.1 u9.2.2.2.2.2.1 u9.2.2.2.2.2.2.1 u9.2.2.2.2.2.2.2.1 u9.2.2.2.2.2.2.2.2.2.1 u9.2.2.2.2.2.2.2.2.2.2.1 u9.2.2.2.2.2.2.2.2.1 u9.2.2.2.2.2.2.2.2.2.2.2)) hF ⟨rfl, hP, hD⟩
    obtain ⟨e9_0, hP9, hD9⟩ := h9
    exact W.iret (v := (-1 : Int32)) hx hb hr (fun tt ht hW => ⟨⟨_, (), rfl, e9_0, ht ▸ hP9, hD9⟩, hS.F ht⟩) hS.2.2 dX7_law_27
