def dl_X8_bad_30_md11_0 : List (Nat × Instr × Nat) := [(0, .aload_n 0, 1), (1, .aload_n 0, 1), (2, .getfield 103, 3), (5, .iconst (-1), 1), (6, .if_icmp .ne 10, 3), (16, .aload_n 0, 1), (17, .getfield 103, 3), (20, .putfield 103, 3), (23, .return_, 1), (9, .aload_n 0, 1), (10, .getfield 94, 3), (13, .goto 7, 3)]
set_option maxRecDepth 100000 in
theorem dall_X8_bad_30_md11_0 : dchk cX8_bad dl_X8_bad_30_md11_0 = true := by decide +kernel
theorem dX8_bad_0 : decode cX8_bad 0 = .ok (.aload_n 0, 1) := dchk_at dall_X8_bad_30_md11_0 (k := 0) rfl
theorem dX8_bad_1 : decode cX8_bad 1 = .ok (.aload_n 0, 1) := dchk_at dall_X8_bad_30_md11_0 (k := 1) rfl
theorem dX8_bad_2 : decode cX8_bad 2 = .ok (.getfield 103, 3) := dchk_at dall_X8_bad_30_md11_0 (k := 2) rfl
theorem dX8_bad_5 : decode cX8_bad 5 = .ok (.iconst (-1), 1) := dchk_at dall_X8_bad_30_md11_0 (k := 3) rfl
theorem dX8_bad_6 : decode cX8_bad 6 = .ok (.if_icmp .ne 10, 3) := dchk_at dall_X8_bad_30_md11_0 (k := 4) rfl
theorem dX8_bad_16 : decode cX8_bad 16 = .ok (.aload_n 0, 1) := dchk_at dall_X8_bad_30_md11_0 (k := 5) rfl
theorem dX8_bad_17 : decode cX8_bad 17 = .ok (.getfield 103, 3) := dchk_at dall_X8_bad_30_md11_0 (k := 6) rfl
theorem dX8_bad_20 : decode cX8_bad 20 = .ok (.putfield 103, 3) := dchk_at dall_X8_bad_30_md11_0 (k := 7) rfl
theorem dX8_bad_23 : decode cX8_bad 23 = .ok (.return_, 1) := dchk_at dall_X8_bad_30_md11_0 (k := 8) rfl
theorem dX8_bad_9 : decode cX8_bad 9 = .ok (.aload_n 0, 1) := dchk_at dall_X8_bad_30_md11_0 (k := 9) rfl
theorem dX8_bad_10 : decode cX8_bad 10 = .ok (.getfield 94, 3) := dchk_at dall_X8_bad_30_md11_0 (k := 10) rfl
theorem dX8_bad_13 : decode cX8_bad 13 = .ok (.goto 7, 3) := dchk_at dall_X8_bad_30_md11_0 (k := 11) rfl
def dl_X8_here_30_md11_0 : List (Nat × Instr × Nat) := [(0, .aload_n 0, 1), (1, .getfield 64, 3), (4, .aload_n 0, 1), (5, .getfield 57, 3), (8, .if_icmp .ge 15, 3), (23, .iconst (-1), 1), (24, .ireturn, 1), (11, .aload_n 0, 1), (12, .getfield 9, 3), (15, .aload_n 0, 1), (16, .getfield 64, 3), (19, .iaload, 1), (20, .goto 4, 3)]
set_option maxRecDepth 100000 in
theorem dall_X8_here_30_md11_0 : dchk cX8_here dl_X8_here_30_md11_0 = true := by decide +kernel
theorem dX8_here_0 : decode cX8_here 0 = .ok (.aload_n 0, 1) := dchk_at dall_X8_here_30_md11_0 (k := 0) rfl
theorem dX8_here_1 : decode cX8_here 1 = .ok (.getfield 64, 3) := dchk_at dall_X8_here_30_md11_0 (k := 1) rfl
theorem dX8_here_4 : decode cX8_here 4 = .ok (.aload_n 0, 1) := dchk_at dall_X8_here_30_md11_0 (k := 2) rfl
theorem dX8_here_5 : decode cX8_here 5 = .ok (.getfield 57, 3) := dchk_at dall_X8_here_30_md11_0 (k := 3) rfl
theorem dX8_here_8 : decode cX8_here 8 = .ok (.if_icmp .ge 15, 3) := dchk_at dall_X8_here_30_md11_0 (k := 4) rfl
theorem dX8_here_23 : decode cX8_here 23 = .ok (.iconst (-1), 1) := dchk_at dall_X8_here_30_md11_0 (k := 5) rfl
theorem dX8_here_24 : decode cX8_here 24 = .ok (.ireturn, 1) := dchk_at dall_X8_here_30_md11_0 (k := 6) rfl
theorem dX8_here_11 : decode cX8_here 11 = .ok (.aload_n 0, 1) := dchk_at dall_X8_here_30_md11_0 (k := 7) rfl
theorem dX8_here_12 : decode cX8_here 12 = .ok (.getfield 9, 3) := dchk_at dall_X8_here_30_md11_0 (k := 8) rfl
theorem dX8_here_15 : decode cX8_here 15 = .ok (.aload_n 0, 1) := dchk_at dall_X8_here_30_md11_0 (k := 9) rfl
theorem dX8_here_16 : decode cX8_here 16 = .ok (.getfield 64, 3) := dchk_at dall_X8_here_30_md11_0 (k := 10) rfl
theorem dX8_here_19 : decode cX8_here 19 = .ok (.iaload, 1) := dchk_at dall_X8_here_30_md11_0 (k := 11) rfl
theorem dX8_here_20 : decode cX8_here 20 = .ok (.goto 4, 3) := dchk_at dall_X8_here_30_md11_0 (k := 12) rfl
def dl_X8_isLetter_30_md11_0 : List (Nat × Instr × Nat) := [(0, .iload_n 0, 1), (1, .bipush 97, 2), (3, .if_icmp .lt 13, 3), (16, .iconst 0, 1), (17, .ireturn, 1), (6, .iload_n 0, 1), (7, .bipush 122, 2), (9, .if_icmp .gt 7, 3), (12, .iconst 1, 1), (13, .goto 4, 3)]
set_option maxRecDepth 100000 in
theorem dall_X8_isLetter_30_md11_0 : dchk cX8_isLetter dl_X8_isLetter_30_md11_0 = true := by decide +kernel
theorem dX8_isLetter_0 : decode cX8_isLetter 0 = .ok (.iload_n 0, 1) := dchk_at dall_X8_isLetter_30_md11_0 (k := 0) rfl
theorem dX8_isLetter_1 : decode cX8_isLetter 1 = .ok (.bipush 97, 2) := dchk_at dall_X8_isLetter_30_md11_0 (k := 1) rfl
theorem dX8_isLetter_3 : decode cX8_isLetter 3 = .ok (.if_icmp .lt 13, 3) := dchk_at dall_X8_isLetter_30_md11_0 (k := 2) rfl
theorem dX8_isLetter_16 : decode cX8_isLetter 16 = .ok (.iconst 0, 1) := dchk_at dall_X8_isLetter_30_md11_0 (k := 3) rfl
theorem dX8_isLetter_17 : decode cX8_isLetter 17 = .ok (.ireturn, 1) := dchk_at dall_X8_isLetter_30_md11_0 (k := 4) rfl
theorem dX8_isLetter_6 : decode cX8_isLetter 6 = .ok (.iload_n 0, 1) := dchk_at dall_X8_isLetter_30_md11_0 (k := 5) rfl
theorem dX8_isLetter_7 : decode cX8_isLetter 7 = .ok (.bipush 122, 2) := dchk_at dall_X8_isLetter_30_md11_0 (k := 6) rfl
theorem dX8_isLetter_9 : decode cX8_isLetter 9 = .ok (.if_icmp .gt 7, 3) := dchk_at dall_X8_isLetter_30_md11_0 (k := 7) rfl
theorem dX8_isLetter_12 : decode cX8_isLetter 12 = .ok (.iconst 1, 1) := dchk_at dall_X8_isLetter_30_md11_0 (k := 8) rfl
theorem dX8_isLetter_13 : decode cX8_isLetter 13 = .ok (.goto 4, 3) := dchk_at dall_X8_isLetter_30_md11_0 (k := 9) rfl
def dl_X8_readWord_30_md11_0 : List (Nat × Instr × Nat) := [(7, .aload_n 0, 1), (8, .invokevirtual 71, 3), (11, .invokestatic 75, 3), (14, .ifCond .eq 53, 3), (17, .aload_n 0, 1), (18, .iload_n 1, 1), (19, .bipush 8, 2), (21, .if_icmp .ge 26, 3), (47, .lconst 0, 1), (48, .putfield 67, 3), (51, .iinc 1 1, 3), (54, .aload_n 0, 1), (55, .dup, 1), (56, .getfield 64, 3), (59, .iconst 1, 1), (60, .iadd, 1), (61, .putfield 64, 3), (64, .goto (-57), 3), (24, .ldc2_w 79, 3), (27, .aload_n 0, 1), (28, .getfield 67, 3), (31, .lmul, 1), (32, .aload_n 0, 1), (33, .invokevirtual 71, 3), (36, .i2l, 1), (37, .ladd, 1), (38, .ldc2_w 81, 3), (41, .lsub, 1), (42, .lconst 1, 1), (43, .ladd, 1), (44, .goto 4, 3), (0, .aload_n 0, 1), (1, .lconst 0, 1), (2, .putfield 67, 3), (5, .iconst 0, 1), (6, .istore_n 1, 1), (67, .aload_n 0, 1), (68, .iconst 1, 1), (69, .putfield 83, 3), (72, .return_, 1)]
set_option maxRecDepth 100000 in
theorem dall_X8_readWord_30_md11_0 : dchk cX8_readWord dl_X8_readWord_30_md11_0 = true := by decide +kernel
theorem dX8_readWord_7 : decode cX8_readWord 7 = .ok (.aload_n 0, 1) := dchk_at dall_X8_readWord_30_md11_0 (k := 0) rfl
theorem dX8_readWord_8 : decode cX8_readWord 8 = .ok (.invokevirtual 71, 3) := dchk_at dall_X8_readWord_30_md11_0 (k := 1) rfl
theorem dX8_readWord_11 : decode cX8_readWord 11 = .ok (.invokestatic 75, 3) := dchk_at dall_X8_readWord_30_md11_0 (k := 2) rfl
theorem dX8_readWord_14 : decode cX8_readWord 14 = .ok (.ifCond .eq 53, 3) := dchk_at dall_X8_readWord_30_md11_0 (k := 3) rfl
theorem dX8_readWord_17 : decode cX8_readWord 17 = .ok (.aload_n 0, 1) := dchk_at dall_X8_readWord_30_md11_0 (k := 4) rfl
theorem dX8_readWord_18 : decode cX8_readWord 18 = .ok (.iload_n 1, 1) := dchk_at dall_X8_readWord_30_md11_0 (k := 5) rfl
theorem dX8_readWord_19 : decode cX8_readWord 19 = .ok (.bipush 8, 2) := dchk_at dall_X8_readWord_30_md11_0 (k := 6) rfl
theorem dX8_readWord_21 : decode cX8_readWord 21 = .ok (.if_icmp .ge 26, 3) := dchk_at dall_X8_readWord_30_md11_0 (k := 7) rfl
theorem dX8_readWord_47 : decode cX8_readWord 47 = .ok (.lconst 0, 1) := dchk_at dall_X8_readWord_30_md11_0 (k := 8) rfl
theorem dX8_readWord_48 : decode cX8_readWord 48 = .ok (.putfield 67, 3) := dchk_at dall_X8_readWord_30_md11_0 (k := 9) rfl
theorem dX8_readWord_51 : decode cX8_readWord 51 = .ok (.iinc 1 1, 3) := dchk_at dall_X8_readWord_30_md11_0 (k := 10) rfl
theorem dX8_readWord_54 : decode cX8_readWord 54 = .ok (.aload_n 0, 1) := dchk_at dall_X8_readWord_30_md11_0 (k := 11) rfl
theorem dX8_readWord_55 : decode cX8_readWord 55 = .ok (.dup, 1) := dchk_at dall_X8_readWord_30_md11_0 (k := 12) rfl
theorem dX8_readWord_56 : decode cX8_readWord 56 = .ok (.getfield 64, 3) := dchk_at dall_X8_readWord_30_md11_0 (k := 13) rfl
theorem dX8_readWord_59 : decode cX8_readWord 59 = .ok (.iconst 1, 1) := dchk_at dall_X8_readWord_30_md11_0 (k := 14) rfl
theorem dX8_readWord_60 : decode cX8_readWord 60 = .ok (.iadd, 1) := dchk_at dall_X8_readWord_30_md11_0 (k := 15) rfl
theorem dX8_readWord_61 : decode cX8_readWord 61 = .ok (.putfield 64, 3) := dchk_at dall_X8_readWord_30_md11_0 (k := 16) rfl
theorem dX8_readWord_64 : decode cX8_readWord 64 = .ok (.goto (-57), 3) := dchk_at dall_X8_readWord_30_md11_0 (k := 17) rfl
theorem dX8_readWord_24 : decode cX8_readWord 24 = .ok (.ldc2_w 79, 3) := dchk_at dall_X8_readWord_30_md11_0 (k := 18) rfl
theorem dX8_readWord_27 : decode cX8_readWord 27 = .ok (.aload_n 0, 1) := dchk_at dall_X8_readWord_30_md11_0 (k := 19) rfl
theorem dX8_readWord_28 : decode cX8_readWord 28 = .ok (.getfield 67, 3) := dchk_at dall_X8_readWord_30_md11_0 (k := 20) rfl
theorem dX8_readWord_31 : decode cX8_readWord 31 = .ok (.lmul, 1) := dchk_at dall_X8_readWord_30_md11_0 (k := 21) rfl
theorem dX8_readWord_32 : decode cX8_readWord 32 = .ok (.aload_n 0, 1) := dchk_at dall_X8_readWord_30_md11_0 (k := 22) rfl
theorem dX8_readWord_33 : decode cX8_readWord 33 = .ok (.invokevirtual 71, 3) := dchk_at dall_X8_readWord_30_md11_0 (k := 23) rfl
theorem dX8_readWord_36 : decode cX8_readWord 36 = .ok (.i2l, 1) := dchk_at dall_X8_readWord_30_md11_0 (k := 24) rfl
theorem dX8_readWord_37 : decode cX8_readWord 37 = .ok (.ladd, 1) := dchk_at dall_X8_readWord_30_md11_0 (k := 25) rfl
theorem dX8_readWord_38 : decode cX8_readWord 38 = .ok (.ldc2_w 81, 3) := dchk_at dall_X8_readWord_30_md11_0 (k := 26) rfl
theorem dX8_readWord_41 : decode cX8_readWord 41 = .ok (.lsub, 1) := dchk_at dall_X8_readWord_30_md11_0 (k := 27) rfl
theorem dX8_readWord_42 : decode cX8_readWord 42 = .ok (.lconst 1, 1) := dchk_at dall_X8_readWord_30_md11_0 (k := 28) rfl
theorem dX8_readWord_43 : decode cX8_readWord 43 = .ok (.ladd, 1) := dchk_at dall_X8_readWord_30_md11_0 (k := 29) rfl
theorem dX8_readWord_44 : decode cX8_readWord 44 = .ok (.goto 4, 3) := dchk_at dall_X8_readWord_30_md11_0 (k := 30) rfl
theorem dX8_readWord_0 : decode cX8_readWord 0 = .ok (.aload_n 0, 1) := dchk_at dall_X8_readWord_30_md11_0 (k := 31) rfl
theorem dX8_readWord_1 : decode cX8_readWord 1 = .ok (.lconst 0, 1) := dchk_at dall_X8_readWord_30_md11_0 (k := 32) rfl
theorem dX8_readWord_2 : decode cX8_readWord 2 = .ok (.putfield 67, 3) := dchk_at dall_X8_readWord_30_md11_0 (k := 33) rfl
theorem dX8_readWord_5 : decode cX8_readWord 5 = .ok (.iconst 0, 1) := dchk_at dall_X8_readWord_30_md11_0 (k := 34) rfl
theorem dX8_readWord_6 : decode cX8_readWord 6 = .ok (.istore_n 1, 1) := dchk_at dall_X8_readWord_30_md11_0 (k := 35) rfl
theorem dX8_readWord_67 : decode cX8_readWord 67 = .ok (.aload_n 0, 1) := dchk_at dall_X8_readWord_30_md11_0 (k := 36) rfl
theorem dX8_readWord_68 : decode cX8_readWord 68 = .ok (.iconst 1, 1) := dchk_at dall_X8_readWord_30_md11_0 (k := 37) rfl
theorem dX8_readWord_69 : decode cX8_readWord 69 = .ok (.putfield 83, 3) := dchk_at dall_X8_readWord_30_md11_0 (k := 38) rfl
theorem dX8_readWord_72 : decode cX8_readWord 72 = .ok (.return_, 1) := dchk_at dall_X8_readWord_30_md11_0 (k := 39) rfl
def dl_X8_isDigit_30_md11_0 : List (Nat × Instr × Nat) := [(0, .iload_n 0, 1), (1, .bipush 48, 2), (3, .if_icmp .lt 13, 3), (16, .iconst 0, 1), (17, .ireturn, 1), (6, .iload_n 0, 1), (7, .bipush 57, 2), (9, .if_icmp .gt 7, 3), (12, .iconst 1, 1), (13, .goto 4, 3)]
set_option maxRecDepth 100000 in
theorem dall_X8_isDigit_30_md11_0 : dchk cX8_isDigit dl_X8_isDigit_30_md11_0 = true := by decide +kernel
theorem dX8_isDigit_0 : decode cX8_isDigit 0 = .ok (.iload_n 0, 1) := dchk_at dall_X8_isDigit_30_md11_0 (k := 0) rfl
theorem dX8_isDigit_1 : decode cX8_isDigit 1 = .ok (.bipush 48, 2) := dchk_at dall_X8_isDigit_30_md11_0 (k := 1) rfl
theorem dX8_isDigit_3 : decode cX8_isDigit 3 = .ok (.if_icmp .lt 13, 3) := dchk_at dall_X8_isDigit_30_md11_0 (k := 2) rfl
theorem dX8_isDigit_16 : decode cX8_isDigit 16 = .ok (.iconst 0, 1) := dchk_at dall_X8_isDigit_30_md11_0 (k := 3) rfl
theorem dX8_isDigit_17 : decode cX8_isDigit 17 = .ok (.ireturn, 1) := dchk_at dall_X8_isDigit_30_md11_0 (k := 4) rfl
theorem dX8_isDigit_6 : decode cX8_isDigit 6 = .ok (.iload_n 0, 1) := dchk_at dall_X8_isDigit_30_md11_0 (k := 5) rfl
theorem dX8_isDigit_7 : decode cX8_isDigit 7 = .ok (.bipush 57, 2) := dchk_at dall_X8_isDigit_30_md11_0 (k := 6) rfl
theorem dX8_isDigit_9 : decode cX8_isDigit 9 = .ok (.if_icmp .gt 7, 3) := dchk_at dall_X8_isDigit_30_md11_0 (k := 7) rfl
theorem dX8_isDigit_12 : decode cX8_isDigit 12 = .ok (.iconst 1, 1) := dchk_at dall_X8_isDigit_30_md11_0 (k := 8) rfl
theorem dX8_isDigit_13 : decode cX8_isDigit 13 = .ok (.goto 4, 3) := dchk_at dall_X8_isDigit_30_md11_0 (k := 9) rfl
def F_X8_bad (c_partFrom : Int32) (c_wrong : Int32) : Option (Int32) :=
  if c_wrong = (-1 : Int32) then some c_partFrom else some c_wrong
abbrev w_X8_bad (E : EE) (a_ a_tape a_readPlace a_script a_scriptLong a_now a_refused a_shareX a_shareY a_askedRow a_kept a_aside a_spelled a_image : Nat) (c_thrown : Int32) (c_taped : Int32) (c_at : Int32) (c_part : Int32) (c_partFrom : Int32) (c_partNumber : Int32) (c_wrong : Int32) (c_partWord : Int64) (c_readLaw : Int32) (c_readBound : Int32) (c_readGoal : Int32) (c_readSites : Int32) (c_scripts : Int32) (c_sites : Int32) (c_asked : Int32) (c_outcome : Int32) (c_took : Int32) (c_acts : Int32) (c_drawn : Int64) (c_racer : Int32) (c_raced : Int32) (c_spelledMany : Int32) (c_hasImage : Int32) : va_W := [(a_, .inr (9, [.int c_thrown, .ref a_tape, .int c_taped, .int c_at, .int c_part, .int c_partFrom, .int c_partNumber, .int c_wrong, .long c_partWord, .int c_readLaw, .int c_readBound, .int c_readGoal, .int c_readSites, .ref a_readPlace, .ref a_script, .ref a_scriptLong, .int c_scripts, .ref a_now, .ref a_refused, .int c_sites, .ref a_shareX, .ref a_shareY, .int c_asked, .int c_outcome, .ref a_askedRow, .int c_took, .ref a_kept, .int c_acts, .long c_drawn, .ref a_aside, .int c_racer, .int c_raced, .ref a_spelled, .int c_spelledMany, .ref a_image, .int c_hasImage]))]
def v_f_X8_bad : List Cond := .code yX8_bad cX8_bad 1 none :: ([.fieldLink RX8 103 "HushWatchModel" "wrong" "I", .fieldLink RX8 94 "HushWatchModel" "partFrom" "I"] ++ (wsX80 ++ ([])))
theorem gw_f_X8_bad : v_f_X8_bad.all goodWord = true := by decide +kernel
theorem i_f_X8_bad_X8 : ∀ w ∈ wsX80, w ∈ v_f_X8_bad := fun _ h => List.mem_cons_of_mem _ (List.mem_append_right _ (List.mem_append_left _ h))
set_option maxHeartbeats 4000000 in
set_option maxRecDepth 100000 in
theorem f_X8_bad (l : Launch) (E : EE) (sz : Nat) {a_ a_tape a_readPlace a_script a_scriptLong a_now a_refused a_shareX a_shareY a_askedRow a_kept a_aside a_spelled a_image : Nat} {c_thrown : Int32} {c_taped : Int32} {c_at : Int32} {c_part : Int32} {c_partFrom : Int32} {c_partNumber : Int32} {c_wrong : Int32} {c_partWord : Int64} {c_readLaw : Int32} {c_readBound : Int32} {c_readGoal : Int32} {c_readSites : Int32} {c_scripts : Int32} {c_sites : Int32} {c_asked : Int32} {c_outcome : Int32} {c_took : Int32} {c_acts : Int32} {c_drawn : Int64} {c_racer : Int32} {c_raced : Int32} {c_spelledMany : Int32} {c_hasImage : Int32} {n_wrong : Int32} (hF : F_X8_bad c_partFrom c_wrong = some n_wrong) : Met l yX8_bad v_f_X8_bad (({ frames := 0, cells := 0, slots := 0, locals := 0 } : Room)) (va_Pc [.ref a_] (pW E sz (w_X8_bad E a_ a_tape a_readPlace a_script a_scriptLong a_now a_refused a_shareX a_shareY a_askedRow a_kept a_aside a_spelled a_image c_thrown c_taped c_at c_part c_partFrom c_partNumber c_wrong c_partWord c_readLaw c_readBound c_readGoal c_readSites c_scripts c_sites c_asked c_outcome c_took c_acts c_drawn c_racer c_raced c_spelledMany c_hasImage))) (va_Qv (fun (_u : Unit) => True) (fun (_u : Unit) tt => va_P E.1 vwCl (w_X8_bad E a_ a_tape a_readPlace a_script a_scriptLong a_now a_refused a_shareX a_shareY a_askedRow a_kept a_aside a_spelled a_image c_thrown c_taped c_at c_part c_partFrom c_partNumber n_wrong c_partWord c_readLaw c_readBound c_readGoal c_readSites c_scripts c_sites c_asked c_outcome c_took c_acts c_drawn c_racer c_raced c_spelledMany c_hasImage) tt.heap ∧ va_D (va_A (w_X8_bad E a_ a_tape a_readPlace a_script a_scriptLong a_now a_refused a_shareX a_shareY a_askedRow a_kept a_aside a_spelled a_image c_thrown c_taped c_at c_part c_partFrom c_partNumber c_wrong c_partWord c_readLaw c_readBound c_readGoal c_readSites c_scripts c_sites c_asked c_outcome c_took c_acts c_drawn c_racer c_raced c_spelledMany c_hasImage) sz) (w_X8_bad E a_ a_tape a_readPlace a_script a_scriptLong a_now a_refused a_shareX a_shareY a_askedRow a_kept a_aside a_spelled a_image c_thrown c_taped c_at c_part c_partFrom c_partNumber n_wrong c_partWord c_readLaw c_readBound c_readGoal c_readSites c_scripts c_sites c_asked c_outcome c_took c_acts c_drawn c_racer c_raced c_spelledMany c_hasImage)) (va_A (w_X8_bad E a_ a_tape a_readPlace a_script a_scriptLong a_now a_refused a_shareX a_shareY a_askedRow a_kept a_aside a_spelled a_image c_thrown c_taped c_at c_part c_partFrom c_partNumber c_wrong c_partWord c_readLaw c_readBound c_readGoal c_readSites c_scripts c_sites c_asked c_outcome c_took c_acts c_drawn c_racer c_raced c_spelledMany c_hasImage) sz)) 0 0 (va_A (w_X8_bad E a_ a_tape a_readPlace a_script a_scriptLong a_now a_refused a_shareX a_shareY a_askedRow a_kept a_aside a_spelled a_image c_thrown c_taped c_at c_part c_partFrom c_partNumber c_wrong c_partWord c_readLaw c_readBound c_readGoal c_readSites c_scripts c_sites c_asked c_outcome c_took c_acts c_drawn c_racer c_raced c_spelledMany c_hasImage) sz) := by
  refine Met.ofW (cc := cX8_bad) (maxL := 1) (ret := none) (by decide) rfl ?_
  intro p e s m args below meth c s₁ B hml hv
  obtain ⟨rfl, hsz, ⟨hK, hN⟩, hP, hD0⟩ := hv
  have hx := B.exec
  have hb := B.bytes
  have hr := B.returns
  have hts := atoms_spec (ws := v_f_X8_bad) B.pre
  have hown : s.vm.findClass RX8 = some m.cls := findClass_of_methodNamed B.named
  have hlocks : meth.locks = false := B.notSynchronized
  subst hsz
  have hD := hD0.self (sz := s.heap.size)
  generalize hAe : va_A (w_X8_bad E a_ a_tape a_readPlace a_script a_scriptLong a_now a_refused a_shareX a_shareY a_askedRow a_kept a_aside a_spelled a_image c_thrown c_taped c_at c_part c_partFrom c_partNumber c_wrong c_partWord c_readLaw c_readBound c_readGoal c_readSites c_scripts c_sites c_asked c_outcome c_took c_acts c_drawn c_racer c_raced c_spelledMany c_hasImage) s.heap.size = A at hD ⊢
  have hA : ∀ q : Nat, s.heap.size ≤ q → A q := fun q h => by rw [← hAe]; exact Or.inr h
  have hS : va_S A s.heap s.heap [] := va_S.rf
  have hl := lv_entry ([.ref a_]) (n := 1) (Nat.le_of_ble_eq_true rfl)
  rw [lg_entry_eq]
  generalize (lg_sl ([.ref a_]) ++ List.replicate (1 - (lg_sl ([.ref a_])).length) Slot.unset).toArray = ls at hl ⊢
  have hl : lv_has ls 1 [(0, .ref a_)] := hl
  obtain ⟨Q, hQ⟩ : ∃ Q : State → Prop, Q = MQ below (va_Qv (fun (_u : Unit) => True) (fun (_u : Unit) tt => va_P E.1 vwCl (w_X8_bad E a_ a_tape a_readPlace a_script a_scriptLong a_now a_refused a_shareX a_shareY a_askedRow a_kept a_aside a_spelled a_image c_thrown c_taped c_at c_part c_partFrom c_partNumber n_wrong c_partWord c_readLaw c_readBound c_readGoal c_readSites c_scripts c_sites c_asked c_outcome c_took c_acts c_drawn c_racer c_raced c_spelledMany c_hasImage) tt.heap ∧ va_D A (w_X8_bad E a_ a_tape a_readPlace a_script a_scriptLong a_now a_refused a_shareX a_shareY a_askedRow a_kept a_aside a_spelled a_image c_thrown c_taped c_at c_part c_partFrom c_partNumber n_wrong c_partWord c_readLaw c_readBound c_readGoal c_readSites c_scripts c_sites c_asked c_outcome c_took c_acts c_drawn c_racer c_raced c_spelledMany c_hasImage)) A) #[Value.ref a_] s 0 0 A := ⟨_, rfl⟩
  rw [← hQ]
  change W p l e ({ frames := 0, cells := 0, slots := 0, locals := 0 } : Room) s m #[Value.ref a_] below meth c s.heap [] 0 0 Q (F0 m 0 ls [])
  suffices hh9 : ∀ (H : Heap) (locs : List Loc), va_P E.1 vwCl (w_X8_bad E a_ a_tape a_readPlace a_script a_scriptLong a_now a_refused a_shareX a_shareY a_askedRow a_kept a_aside a_spelled a_image c_thrown c_taped c_at c_part c_partFrom c_partNumber c_wrong c_partWord c_readLaw c_readBound c_readGoal c_readSites c_scripts c_sites c_asked c_outcome c_took c_acts c_drawn c_racer c_raced c_spelledMany c_hasImage) H → va_D A (w_X8_bad E a_ a_tape a_readPlace a_script a_scriptLong a_now a_refused a_shareX a_shareY a_askedRow a_kept a_aside a_spelled a_image c_thrown c_taped c_at c_part c_partFrom c_partNumber c_wrong c_partWord c_readLaw c_readBound c_readGoal c_readSites c_scripts c_sites c_asked c_outcome c_took c_acts c_drawn c_racer c_raced c_spelledMany c_hasImage) → va_S A s.heap H locs → W p l e ({ frames := 0, cells := 0, slots := 0, locals := 0 } : Room) s m #[Value.ref a_] below meth c H locs 0 0 Q (F0 m 0 ls []) from hh9 s.heap [] hP hD hS
  clear hP hD hS
  intro H locs hP hD hS
  replace hP : va_P E.1 vwCl [(a_, .inr (9, [.int c_thrown, .ref a_tape, .int c_taped, .int c_at, .int c_part, .int c_partFrom, .int c_partNumber, .int c_wrong, .long c_partWord, .int c_readLaw, .int c_readBound, .int c_readGoal, .int c_readSites, .ref a_readPlace, .ref a_script, .ref a_scriptLong, .int c_scripts, .ref a_now, .ref a_refused, .int c_sites, .ref a_shareX, .ref a_shareY, .int c_asked, .int c_outcome, .ref a_askedRow, .int c_took, .ref a_kept, .int c_acts, .long c_drawn, .ref a_aside, .int c_racer, .int c_raced, .ref a_spelled, .int c_spelledMany, .ref a_image, .int c_hasImage]))] H := hP
  replace hD : va_D A [(a_, .inr (9, [.int c_thrown, .ref a_tape, .int c_taped, .int c_at, .int c_part, .int c_partFrom, .int c_partNumber, .int c_wrong, .long c_partWord, .int c_readLaw, .int c_readBound, .int c_readGoal, .int c_readSites, .ref a_readPlace, .ref a_script, .ref a_scriptLong, .int c_scripts, .ref a_now, .ref a_refused, .int c_sites, .ref a_shareX, .ref a_shareY, .int c_asked, .int c_outcome, .ref a_askedRow, .int c_took, .ref a_kept, .int c_acts, .long c_drawn, .ref a_aside, .int c_racer, .int c_raced, .ref a_spelled, .int c_spelledMany, .ref a_image, .int c_hasImage]))] := hD
  unfold F_X8_bad at hF
  refine lv_aload_n hx hb dX8_bad_0 rfl (lv_at hl 0 rfl) ?_
  refine lv_aload_n hx hb dX8_bad_1 rfl (lv_at hl 0 rfl) ?_
  refine va_get (D := E.1) (ci := 9) (v := .int c_wrong) (C := RX8) (T := TX8) (N := 36) hx hb hts i_f_X8_bad_X8 hown hK hP 0 rfl rfl 7 (by decide) (hts (.fieldLink RX8 103 "HushWatchModel" "wrong" "I") (List.mem_of_getElem? (i := 1) rfl)) (fun _ h9 => h9) rfl dX8_bad_2 ?_
  refine lv_iconst (v := -1) hx hb dX8_bad_5 (by decide) ?_
  refine lv_icmp_ne (tgt := 16) hx hb dX8_bad_6 (by decide) (fun c_1 => ?_) (fun c_1 => ?_)
  ·
    replace hF := inn c_1 hF
    refine lv_aload_n hx hb dX8_bad_16 rfl (lv_at hl 0 rfl) ?_
    refine va_get (D := E.1) (ci := 9) (v := .int c_wrong) (C := RX8) (T := TX8) (N := 36) hx hb hts i_f_X8_bad_X8 hown hK hP 0 rfl rfl 7 (by decide) (hts (.fieldLink RX8 103 "HushWatchModel" "wrong" "I") (List.mem_of_getElem? (i := 1) rfl)) (fun _ h9 => h9) rfl dX8_bad_17 ?_
    refine va_put (D := E.1) (ci := 9) (v := .int c_wrong) (ty := .int) (C := RX8) (T := TX8) (N := 36) hx hb hts i_f_X8_bad_X8 tyX8 tyX8_ok nmX8 hown hK hP hD hS 0 rfl rfl 7 (by decide) (hts (.fieldLink RX8 103 "HushWatchModel" "wrong" "I") (List.mem_of_getElem? (i := 1) rfl)) (fun _ h9 => h9) rfl (by decide +kernel) rfl rfl (Nat.le_of_ble_eq_true rfl) dX8_bad_20 (fun H locs hP hD hS => ?_)
    replace hP : va_P E.1 vwCl [(a_, .inr (9, [.int c_thrown, .ref a_tape, .int c_taped, .int c_at, .int c_part, .int c_partFrom, .int c_partNumber, .int c_wrong, .long c_partWord, .int c_readLaw, .int c_readBound, .int c_readGoal, .int c_readSites, .ref a_readPlace, .ref a_script, .ref a_scriptLong, .int c_scripts, .ref a_now, .ref a_refused, .int c_sites, .ref a_shareX, .ref a_shareY, .int c_asked, .int c_outcome, .ref a_askedRow, .int c_took, .ref a_kept, .int c_acts, .long c_drawn, .ref a_aside, .int c_racer, .int c_raced, .ref a_spelled, .int c_spelledMany, .ref a_image, .int c_hasImage]))] H := hP
    replace hD : va_D A [(a_, .inr (9, [.int c_thrown, .ref a_tape, .int c_taped, .int c_at, .int c_part, .int c_partFrom, .int c_partNumber, .int c_wrong, .long c_partWord, .int c_readLaw, .int c_readBound, .int c_readGoal, .int c_readSites, .ref a_readPlace, .ref a_script, .ref a_scriptLong, .int c_scripts, .ref a_now, .ref a_refused, .int c_sites, .ref a_shareX, .ref a_shareY, .int c_asked, .int c_outcome, .ref a_askedRow, .int c_took, .ref a_kept, .int c_acts, .long c_drawn, .ref a_aside, .int c_racer, .int c_raced, .ref a_spelled, .int c_spelledMany, .ref a_image, .int c_hasImage]))] := hD
    rw [hQ]
    obtain e9_0 := inj1 hF
    have hP9 : va_P E.1 vwCl [(a_, .inr (9, [.int c_thrown, .ref a_tape, .int c_taped, .int c_at, .int c_part, .int c_partFrom, .int c_partNumber, .int n_wrong, .long c_partWord, .int c_readLaw, .int c_readBound, .int c_readGoal, .int c_readSites, .ref a_readPlace, .ref a_script, .ref a_scriptLong, .int c_scripts, .ref a_now, .ref a_refused, .int c_sites, .ref a_shareX, .ref a_shareY, .int c_asked, .int c_outcome, .ref a_askedRow, .int c_took, .ref a_kept, .int c_acts, .long c_drawn, .ref a_aside, .int c_racer, .int c_raced, .ref a_spelled, .int c_spelledMany, .ref a_image, .int c_hasImage]))] H := by rw [← e9_0]; exact hP.sub (ws' := [(a_, .inr (9, [.int c_thrown, .ref a_tape, .int c_taped, .int c_at, .int c_part, .int c_partFrom, .int c_partNumber, .int c_wrong, .long c_partWord, .int c_readLaw, .int c_readBound, .int c_readGoal, .int c_readSites, .ref a_readPlace, .ref a_script, .ref a_scriptLong, .int c_scripts, .ref a_now, .ref a_refused, .int c_sites, .ref a_shareX, .ref a_shareY, .int c_asked, .int c_outcome, .ref a_askedRow, .int c_took, .ref a_kept, .int c_acts, .long c_drawn, .ref a_aside, .int c_racer, .int c_raced, .ref a_spelled, .int c_spelledMany, .ref a_image, .int c_hasImage]))]) [0] rfl
    have hD9 : va_D A [(a_, .inr (9, [.int c_thrown, .ref a_tape, .int c_taped, .int c_at, .int c_part, .int c_partFrom, .int c_partNumber, .int n_wrong, .long c_partWord, .int c_readLaw, .int c_readBound, .int c_readGoal, .int c_readSites, .ref a_readPlace, .ref a_script, .ref a_scriptLong, .int c_scripts, .ref a_now, .ref a_refused, .int c_sites, .ref a_shareX, .ref a_shareY, .int c_asked, .int c_outcome, .ref a_askedRow, .int c_took, .ref a_kept, .int c_acts, .long c_drawn, .ref a_aside, .int c_racer, .int c_raced, .ref a_spelled, .int c_spelledMany, .ref a_image, .int c_hasImage]))] := by rw [← e9_0]; exact hD.sub (ws' := [(a_, .inr (9, [.int c_thrown, .ref a_tape, .int c_taped, .int c_at, .int c_part, .int c_partFrom, .int c_partNumber, .int c_wrong, .long c_partWord, .int c_readLaw, .int c_readBound, .int c_readGoal, .int c_readSites, .ref a_readPlace, .ref a_script, .ref a_scriptLong, .int c_scripts, .ref a_now, .ref a_refused, .int c_sites, .ref a_shareX, .ref a_shareY, .int c_asked, .int c_outcome, .ref a_askedRow, .int c_took, .ref a_kept, .int c_acts, .long c_drawn, .ref a_aside, .int c_racer, .int c_raced, .ref a_spelled, .int c_spelledMany, .ref a_image, .int c_hasImage]))]) [0] (by decide) rfl
    exact W.vret hx hb hr (fun tt ht hW => ⟨⟨(), rfl, trivial, by rw [ht]; exact hP9, hD9⟩, hS.F ht⟩) hS.2.2 dX8_bad_23
  ·
    replace hF := ip c_1 hF
    refine lv_aload_n hx hb dX8_bad_9 rfl (lv_at hl 0 rfl) ?_
    refine va_get (D := E.1) (ci := 9) (v := .int c_partFrom) (C := RX8) (T := TX8) (N := 36) hx hb hts i_f_X8_bad_X8 hown hK hP 0 rfl rfl 5 (by decide) (hts (.fieldLink RX8 94 "HushWatchModel" "partFrom" "I") (List.mem_of_getElem? (i := 2) rfl)) (fun _ h9 => h9) rfl dX8_bad_10 ?_
    refine lv_goto (tgt := 20) hx hb dX8_bad_13 (by decide) ?_
    refine va_put (D := E.1) (ci := 9) (v := .int c_partFrom) (ty := .int) (C := RX8) (T := TX8) (N := 36) hx hb hts i_f_X8_bad_X8 tyX8 tyX8_ok nmX8 hown hK hP hD hS 0 rfl rfl 7 (by decide) (hts (.fieldLink RX8 103 "HushWatchModel" "wrong" "I") (List.mem_of_getElem? (i := 1) rfl)) (fun _ h9 => h9) rfl (by decide +kernel) rfl rfl (Nat.le_of_ble_eq_true rfl) dX8_bad_20 (fun H locs hP hD hS => ?_)
    replace hP : va_P E.1 vwCl [(a_, .inr (9, [.int c_thrown, .ref a_tape, .int c_taped, .int c_at, .int c_part, .int c_partFrom, .int c_partNumber, .int c_partFrom, .long c_partWord, .int c_readLaw, .int c_readBound, .int c_readGoal, .int c_readSites, .ref a_readPlace, .ref a_script, .ref a_scriptLong, .int c_scripts, .ref a_now, .ref a_refused, .int c_sites, .ref a_shareX, .ref a_shareY, .int c_asked, .int c_outcome, .ref a_askedRow, .int c_took, .ref a_kept, .int c_acts, .long c_drawn, .ref a_aside, .int c_racer, .int c_raced, .ref a_spelled, .int c_spelledMany, .ref a_image, .int c_hasImage]))] H := hP
    replace hD : va_D A [(a_, .inr (9, [.int c_thrown, .ref a_tape, .int c_taped, .int c_at, .int c_part, .int c_partFrom, .int c_partNumber, .int c_partFrom, .long c_partWord, .int c_readLaw, .int c_readBound, .int c_readGoal, .int c_readSites, .ref a_readPlace, .ref a_script, .ref a_scriptLong, .int c_scripts, .ref a_now, .ref a_refused, .int c_sites, .ref a_shareX, .ref a_shareY, .int c_asked, .int c_outcome, .ref a_askedRow, .int c_took, .ref a_kept, .int c_acts, .long c_drawn, .ref a_aside, .int c_racer, .int c_raced, .ref a_spelled, .int c_spelledMany, .ref a_image, .int c_hasImage]))] := hD
    rw [hQ]
    obtain e9_0 := inj1 hF
    have hP9 : va_P E.1 vwCl [(a_, .inr (9, [.int c_thrown, .ref a_tape, .int c_taped, .int c_at, .int c_part, .int c_partFrom, .int c_partNumber, .int n_wrong, .long c_partWord, .int c_readLaw, .int c_readBound, .int c_readGoal, .int c_readSites, .ref a_readPlace, .ref a_script, .ref a_scriptLong, .int c_scripts, .ref a_now, .ref a_refused, .int c_sites, .ref a_shareX, .ref a_shareY, .int c_asked, .int c_outcome, .ref a_askedRow, .int c_took, .ref a_kept, .int c_acts, .long c_drawn, .ref a_aside, .int c_racer, .int c_raced, .ref a_spelled, .int c_spelledMany, .ref a_image, .int c_hasImage]))] H := by rw [← e9_0]; exact hP.sub (ws' := [(a_, .inr (9, [.int c_thrown, .ref a_tape, .int c_taped, .int c_at, .int c_part, .int c_partFrom, .int c_partNumber, .int c_partFrom, .long c_partWord, .int c_readLaw, .int c_readBound, .int c_readGoal, .int c_readSites, .ref a_readPlace, .ref a_script, .ref a_scriptLong, .int c_scripts, .ref a_now, .ref a_refused, .int c_sites, .ref a_shareX, .ref a_shareY, .int c_asked, .int c_outcome, .ref a_askedRow, .int c_took, .ref a_kept, .int c_acts, .long c_drawn, .ref a_aside, .int c_racer, .int c_raced, .ref a_spelled, .int c_spelledMany, .ref a_image, .int c_hasImage]))]) [0] rfl
    have hD9 : va_D A [(a_, .inr (9, [.int c_thrown, .ref a_tape, .int c_taped, .int c_at, .int c_part, .int c_partFrom, .int c_partNumber, .int n_wrong, .long c_partWord, .int c_readLaw, .int c_readBound, .int c_readGoal, .int c_readSites, .ref a_readPlace, .ref a_script, .ref a_scriptLong, .int c_scripts, .ref a_now, .ref a_refused, .int c_sites, .ref a_shareX, .ref a_shareY, .int c_asked, .int c_outcome, .ref a_askedRow, .int c_took, .ref a_kept, .int c_acts, .long c_drawn, .ref a_aside, .int c_racer, .int c_raced, .ref a_spelled, .int c_spelledMany, .ref a_image, .int c_hasImage]))] := by rw [← e9_0]; exact hD.sub (ws' := [(a_, .inr (9, [.int c_thrown, .ref a_tape, .int c_taped, .int c_at, .int c_part, .int c_partFrom, .int c_partNumber, .int c_partFrom, .long c_partWord, .int c_readLaw, .int c_readBound, .int c_readGoal, .int c_readSites, .ref a_readPlace, .ref a_script, .ref a_scriptLong, .int c_scripts, .ref a_now, .ref a_refused, .int c_sites, .ref a_shareX, .ref a_shareY, .int c_asked, .int c_outcome, .ref a_askedRow, .int c_took, .ref a_kept, .int c_acts, .long c_drawn, .ref a_aside, .int c_racer, .int c_raced, .ref a_spelled, .int c_spelledMany, .ref a_image, .int c_hasImage]))]) [0] (by decide) rfl
    exact W.vret hx hb hr (fun tt ht hW => ⟨⟨(), rfl, trivial, by rw [ht]; exact hP9, hD9⟩, hS.F ht⟩) hS.2.2 dX8_bad_23

def F_X8_here (c_tape : Nat → Int32) (c_taped : Int32) (c_at : Int32) : Option (Int32) :=
  if c_taped ≤ c_at then some (-1 : Int32) else ixF c_at 320 (some (c_tape c_at.toNatClampNeg))
abbrev w_X8_here (E : EE) (a_ a_tape a_readPlace a_script a_scriptLong a_now a_refused a_shareX a_shareY a_askedRow a_kept a_aside a_spelled a_image : Nat) (c_thrown : Int32) (c_taped : Int32) (c_at : Int32) (c_part : Int32) (c_partFrom : Int32) (c_partNumber : Int32) (c_wrong : Int32) (c_partWord : Int64) (c_readLaw : Int32) (c_readBound : Int32) (c_readGoal : Int32) (c_readSites : Int32) (c_scripts : Int32) (c_sites : Int32) (c_asked : Int32) (c_outcome : Int32) (c_took : Int32) (c_acts : Int32) (c_drawn : Int64) (c_racer : Int32) (c_raced : Int32) (c_spelledMany : Int32) (c_hasImage : Int32) (c_tape : Nat → Int32) : va_W := [(a_, .inr (9, [.int c_thrown, .ref a_tape, .int c_taped, .int c_at, .int c_part, .int c_partFrom, .int c_partNumber, .int c_wrong, .long c_partWord, .int c_readLaw, .int c_readBound, .int c_readGoal, .int c_readSites, .ref a_readPlace, .ref a_script, .ref a_scriptLong, .int c_scripts, .ref a_now, .ref a_refused, .int c_sites, .ref a_shareX, .ref a_shareY, .int c_asked, .int c_outcome, .ref a_askedRow, .int c_took, .ref a_kept, .int c_acts, .long c_drawn, .ref a_aside, .int c_racer, .int c_raced, .ref a_spelled, .int c_spelledMany, .ref a_image, .int c_hasImage])), (a_tape, .inl (E.2.1, 320, .inl c_tape))]
def v_f_X8_here : List Cond := .code yX8_here cX8_here 1 (some .int) :: ([.fieldLink RX8 64 "HushWatchModel" "at" "I", .fieldLink RX8 57 "HushWatchModel" "taped" "I", .fieldLink RX8 9 "HushWatchModel" "tape" "[I"] ++ (wsX80 ++ ([])))
theorem gw_f_X8_here : v_f_X8_here.all goodWord = true := by decide +kernel
theorem i_f_X8_here_X8 : ∀ w ∈ wsX80, w ∈ v_f_X8_here := fun _ h => List.mem_cons_of_mem _ (List.mem_append_right _ (List.mem_append_left _ h))
set_option maxHeartbeats 4000000 in
set_option maxRecDepth 100000 in
theorem f_X8_here (l : Launch) (E : EE) {a_ a_tape a_readPlace a_script a_scriptLong a_now a_refused a_shareX a_shareY a_askedRow a_kept a_aside a_spelled a_image : Nat} {c_thrown : Int32} {c_taped : Int32} {c_at : Int32} {c_part : Int32} {c_partFrom : Int32} {c_partNumber : Int32} {c_wrong : Int32} {c_partWord : Int64} {c_readLaw : Int32} {c_readBound : Int32} {c_readGoal : Int32} {c_readSites : Int32} {c_scripts : Int32} {c_sites : Int32} {c_asked : Int32} {c_outcome : Int32} {c_took : Int32} {c_acts : Int32} {c_drawn : Int64} {c_racer : Int32} {c_raced : Int32} {c_spelledMany : Int32} {c_hasImage : Int32} {c_tape : Nat → Int32} {rr : Int32} (hF : F_X8_here c_tape c_taped c_at = some rr) : Met l yX8_here v_f_X8_here (({ frames := 0, cells := 0, slots := 0, locals := 0 } : Room)) (va_Pc [.ref a_] (pP E (w_X8_here E a_ a_tape a_readPlace a_script a_scriptLong a_now a_refused a_shareX a_shareY a_askedRow a_kept a_aside a_spelled a_image c_thrown c_taped c_at c_part c_partFrom c_partNumber c_wrong c_partWord c_readLaw c_readBound c_readGoal c_readSites c_scripts c_sites c_asked c_outcome c_took c_acts c_drawn c_racer c_raced c_spelledMany c_hasImage c_tape))) (vp_Si (fun q : Int32 => q = rr)) 0 0 (fun _ => False) := by
  refine Met.ofW (cc := cX8_here) (maxL := 1) (ret := (some .int)) (by decide) rfl ?_
  intro p e s m args below meth c s₁ B hml hv
  obtain ⟨rfl, ⟨hK, hN⟩, hP⟩ := hv
  have hx := B.exec
  have hb := B.bytes
  have hr := B.returns
  have hts := atoms_spec (ws := v_f_X8_here) B.pre
  have hown : s.vm.findClass RX8 = some m.cls := findClass_of_methodNamed B.named
  have hlocks : meth.locks = false := B.notSynchronized
  replace hP : va_P E.1 vwCl [(a_, .inr (9, [.int c_thrown, .ref a_tape, .int c_taped, .int c_at, .int c_part, .int c_partFrom, .int c_partNumber, .int c_wrong, .long c_partWord, .int c_readLaw, .int c_readBound, .int c_readGoal, .int c_readSites, .ref a_readPlace, .ref a_script, .ref a_scriptLong, .int c_scripts, .ref a_now, .ref a_refused, .int c_sites, .ref a_shareX, .ref a_shareY, .int c_asked, .int c_outcome, .ref a_askedRow, .int c_took, .ref a_kept, .int c_acts, .long c_drawn, .ref a_aside, .int c_racer, .int c_raced, .ref a_spelled, .int c_spelledMany, .ref a_image, .int c_hasImage])), (a_tape, .inl (E.2.1, 320, .inl c_tape))] s.heap := hP
  have hl := lv_entry ([.ref a_]) (n := 1) (Nat.le_of_ble_eq_true rfl)
  rw [lg_entry_eq]
  generalize (lg_sl ([.ref a_]) ++ List.replicate (1 - (lg_sl ([.ref a_])).length) Slot.unset).toArray = ls at hl ⊢
  have hl : lv_has ls 1 [(0, .ref a_)] := hl
  obtain ⟨Q, hQ⟩ : ∃ Q : State → Prop, Q = MQ below (vp_Si (fun q : Int32 => q = rr)) #[Value.ref a_] s 0 0 (fun _ => False) := ⟨_, rfl⟩
  rw [← hQ]
  change W p l e ({ frames := 0, cells := 0, slots := 0, locals := 0 } : Room) s m #[Value.ref a_] below meth c s.heap [] 0 0 Q (F0 m 0 ls [])
  unfold F_X8_here at hF
  refine lv_aload_n hx hb dX8_here_0 rfl (lv_at hl 0 rfl) ?_
  refine va_get (D := E.1) (ci := 9) (v := .int c_at) (C := RX8) (T := TX8) (N := 36) hx hb hts i_f_X8_here_X8 hown hK hP 0 rfl rfl 3 (by decide) (hts (.fieldLink RX8 64 "HushWatchModel" "at" "I") (List.mem_of_getElem? (i := 1) rfl)) (fun _ h9 => h9) rfl dX8_here_1 ?_
  refine lv_aload_n hx hb dX8_here_4 rfl (lv_at hl 0 rfl) ?_
  refine va_get (D := E.1) (ci := 9) (v := .int c_taped) (C := RX8) (T := TX8) (N := 36) hx hb hts i_f_X8_here_X8 hown hK hP 0 rfl rfl 2 (by decide) (hts (.fieldLink RX8 57 "HushWatchModel" "taped" "I") (List.mem_of_getElem? (i := 2) rfl)) (fun _ h9 => h9) rfl dX8_here_5 ?_
  refine lv_icmp_ge (tgt := 23) hx hb dX8_here_8 (by decide) (fun c_1 => ?_) (fun c_1 => ?_)
  ·
    replace hF := ip c_1 hF
    refine lv_iconst (v := -1) hx hb dX8_here_23 (by decide) ?_
    rw [hQ]
    obtain e9_0 := inj1 hF
    exact W.iret (v := (-1 : Int32)) hx hb hr (fun tt ht hW => ⟨_, rfl, e9_0, ht⟩) (fun _ h => by cases h) dX8_here_24
  ·
    replace hF := inn c_1 hF
    refine lv_aload_n hx hb dX8_here_11 rfl (lv_at hl 0 rfl) ?_
    refine va_get (D := E.1) (ci := 9) (v := .ref a_tape) (C := RX8) (T := TX8) (N := 36) hx hb hts i_f_X8_here_X8 hown hK hP 0 rfl rfl 1 (by decide) (hts (.fieldLink RX8 9 "HushWatchModel" "tape" "[I") (List.mem_of_getElem? (i := 3) rfl)) (fun _ h9 => h9) rfl dX8_here_12 ?_
    refine lv_aload_n hx hb dX8_here_15 rfl (lv_at hl 0 rfl) ?_
    refine va_get (D := E.1) (ci := 9) (v := .int c_at) (C := RX8) (T := TX8) (N := 36) hx hb hts i_f_X8_here_X8 hown hK hP 0 rfl rfl 3 (by decide) (hts (.fieldLink RX8 64 "HushWatchModel" "at" "I") (List.mem_of_getElem? (i := 1) rfl)) (fun _ h9 => h9) rfl dX8_here_16 ?_
    replace hF := ix_s hF
    obtain ⟨hi_2, hF⟩ := hF
    refine va_iald hx hb hK hP 1 0 rfl rfl hi_2 dX8_here_19 ?_
    refine lv_goto (tgt := 24) hx hb dX8_here_20 (by decide) ?_
    rw [hQ]
    obtain e9_0 := inj1 hF
    exact W.iret (v := c_tape c_at.toNatClampNeg) hx hb hr (fun tt ht hW => ⟨_, rfl, e9_0, ht⟩) (fun _ h => by cases h) dX8_here_24

def F_X8_isLetter (p0 : Int32) : Option (Int32) :=
  if p0 < (97 : Int32) then some (0 : Int32) else if (122 : Int32) < p0 then some (0 : Int32) else some (1 : Int32)

def v_f_X8_isLetter : List Cond := .code yX8_isLetter cX8_isLetter 1 (some .boolean) :: ([] ++ ([]))
theorem gw_f_X8_isLetter : v_f_X8_isLetter.all goodWord = true := by decide +kernel
set_option maxHeartbeats 4000000 in
set_option maxRecDepth 100000 in
theorem f_X8_isLetter (l : Launch) (E : EE) {p0 : Int32} {rr : Int32} (hF : F_X8_isLetter p0 = some rr) : Met l yX8_isLetter v_f_X8_isLetter (({ frames := 0, cells := 0, slots := 0, locals := 0 } : Room)) (va_Pc [.int p0] (pP E [])) (vp_Si (fun q : Int32 => q = rr ∧ (q = 0 ∨ q = 1))) 0 0 (fun _ => False) := by
  refine Met.ofW (cc := cX8_isLetter) (maxL := 1) (ret := (some .boolean)) (by decide) rfl ?_
  intro p e s m args below meth c s₁ B hml hv
  obtain ⟨rfl, ⟨hK, hN⟩, hP⟩ := hv
  have hx := B.exec
  have hb := B.bytes
  have hr := B.returns
  have hts := atoms_spec (ws := v_f_X8_isLetter) B.pre
  have hown : s.vm.findClass RX8 = some m.cls := findClass_of_methodNamed B.named
  have hlocks : meth.locks = false := B.notSynchronized
  replace hP : va_P E.1 vwCl [] s.heap := hP
  have hl := lv_entry ([.int p0]) (n := 1) (Nat.le_of_ble_eq_true rfl)
  rw [lg_entry_eq]
  generalize (lg_sl ([.int p0]) ++ List.replicate (1 - (lg_sl ([.int p0])).length) Slot.unset).toArray = ls at hl ⊢
  have hl : lv_has ls 1 [(0, .int p0)] := hl
  obtain ⟨Q, hQ⟩ : ∃ Q : State → Prop, Q = MQ below (vp_Si (fun q : Int32 => q = rr ∧ (q = 0 ∨ q = 1))) #[Value.int p0] s 0 0 (fun _ => False) := ⟨_, rfl⟩
  rw [← hQ]
  change W p l e ({ frames := 0, cells := 0, slots := 0, locals := 0 } : Room) s m #[Value.int p0] below meth c s.heap [] 0 0 Q (F0 m 0 ls [])
  unfold F_X8_isLetter at hF
  refine lv_iload_n hx hb dX8_isLetter_0 rfl (lv_at hl 0 rfl) ?_
  refine lv_bipush (v := 97) hx hb dX8_isLetter_1 (by decide) ?_
  refine lv_icmp_lt (tgt := 16) hx hb dX8_isLetter_3 (by decide) (fun c_1 => ?_) (fun c_1 => ?_)
  ·
    replace hF := ip c_1 hF
    refine lv_iconst (v := 0) hx hb dX8_isLetter_16 (by decide) ?_
    rw [hQ]
    obtain e9_0 := inj1 hF
    exact W.zret (v := (0 : Int32)) hx hb hr rfl (fun tt ht hW => ⟨_, rfl, ⟨e9_0, Or.inl rfl⟩, ht⟩) (fun _ h => by cases h) dX8_isLetter_17
  ·
    replace hF := inn c_1 hF
    refine lv_iload_n hx hb dX8_isLetter_6 rfl (lv_at hl 0 rfl) ?_
    refine lv_bipush (v := 122) hx hb dX8_isLetter_7 (by decide) ?_
    refine lv_icmp_gt (tgt := 16) hx hb dX8_isLetter_9 (by decide) (fun c_2 => ?_) (fun c_2 => ?_)
    ·
      replace hF := ip c_2 hF
      refine lv_iconst (v := 0) hx hb dX8_isLetter_16 (by decide) ?_
      rw [hQ]
      obtain e9_0 := inj1 hF
      exact W.zret (v := (0 : Int32)) hx hb hr rfl (fun tt ht hW => ⟨_, rfl, ⟨e9_0, Or.inl rfl⟩, ht⟩) (fun _ h => by cases h) dX8_isLetter_17
    ·
      replace hF := inn c_2 hF
      refine lv_iconst (v := 1) hx hb dX8_isLetter_12 (by decide) ?_
      refine lv_goto (tgt := 17) hx hb dX8_isLetter_13 (by decide) ?_
      rw [hQ]
      obtain e9_0 := inj1 hF
      exact W.zret (v := (1 : Int32)) hx hb hr rfl (fun tt ht hW => ⟨_, rfl, ⟨e9_0, Or.inr rfl⟩, ht⟩) (fun _ h => by cases h) dX8_isLetter_17

def B_X8_readWord_7 (c_taped : Int32) (c_tape : Nat → Int32) (x1 : Int32) (c_at : Int32) (c_partWord : Int64) : Option ((Int32 × Int32 × Int64) ⊕ (Int32 × Int64)) :=
  bd1 (F_X8_here c_tape c_taped c_at) (fun r_1 => bd1 (F_X8_isLetter r_1) (fun r_3 => if r_3 = (0 : Int32) then some (.inr (c_at, c_partWord)) else if (8 : Int32) ≤ x1 then some (.inl (x1 + (1 : Int32), c_at + (1 : Int32), (0 : Int64))) else bd1 (F_X8_here c_tape c_taped c_at) (fun r_8 => some (.inl (x1 + (1 : Int32), c_at + (1 : Int32), ((((32 : Int64) * c_partWord) + r_8.toInt64) - (97 : Int64)) + (1 : Int64))))))
def F_X8_readWord (K : Nat) (c_tape : Nat → Int32) (c_taped : Int32) (c_at : Int32) (c_part : Int32) (c_partWord : Int64) : Option (Int32 × Int32 × Int64) :=
  bd2 (lpF (fun u9 : Int32 × Int32 × Int64 => B_X8_readWord_7 c_taped c_tape u9.1 u9.2.1 u9.2.2) K ((0 : Int32), c_at, (0 : Int64))) (fun c_at_10 c_partWord_11 => some (c_at_10, (1 : Int32), c_partWord_11))
abbrev w_X8_readWord (E : EE) (a_ a_tape a_readPlace a_script a_scriptLong a_now a_refused a_shareX a_shareY a_askedRow a_kept a_aside a_spelled a_image : Nat) (c_thrown : Int32) (c_taped : Int32) (c_at : Int32) (c_part : Int32) (c_partFrom : Int32) (c_partNumber : Int32) (c_wrong : Int32) (c_partWord : Int64) (c_readLaw : Int32) (c_readBound : Int32) (c_readGoal : Int32) (c_readSites : Int32) (c_scripts : Int32) (c_sites : Int32) (c_asked : Int32) (c_outcome : Int32) (c_took : Int32) (c_acts : Int32) (c_drawn : Int64) (c_racer : Int32) (c_raced : Int32) (c_spelledMany : Int32) (c_hasImage : Int32) (c_tape : Nat → Int32) : va_W := [(a_, .inr (9, [.int c_thrown, .ref a_tape, .int c_taped, .int c_at, .int c_part, .int c_partFrom, .int c_partNumber, .int c_wrong, .long c_partWord, .int c_readLaw, .int c_readBound, .int c_readGoal, .int c_readSites, .ref a_readPlace, .ref a_script, .ref a_scriptLong, .int c_scripts, .ref a_now, .ref a_refused, .int c_sites, .ref a_shareX, .ref a_shareY, .int c_asked, .int c_outcome, .ref a_askedRow, .int c_took, .ref a_kept, .int c_acts, .long c_drawn, .ref a_aside, .int c_racer, .int c_raced, .ref a_spelled, .int c_spelledMany, .ref a_image, .int c_hasImage])), (a_tape, .inl (E.2.1, 320, .inl c_tape))]
def v_f_X8_readWord : List Cond := .code yX8_readWord cX8_readWord 2 none :: ([.fieldLink RX8 67 "HushWatchModel" "partWord" "J", .fieldLink RX8 64 "HushWatchModel" "at" "I", .constantLong RX8 79 (32), .constantLong RX8 81 (97), .fieldLink RX8 83 "HushWatchModel" "part" "I", .methodLink RX8 71 yX8_here, .instanceMethod yX8_here, .selects RX8 yX8_here yX8_here, .initialized RX8, .methodLink RX8 75 yX8_isLetter, .static yX8_isLetter] ++ (wsX80 ++ (v_f_X8_here ++ (v_f_X8_isLetter ++ ([])))))
theorem gw_f_X8_readWord : v_f_X8_readWord.all goodWord = true := by decide +kernel
theorem i_f_X8_readWord_X8 : ∀ w ∈ wsX80, w ∈ v_f_X8_readWord := fun _ h => List.mem_cons_of_mem _ (List.mem_append_right _ (List.mem_append_left _ h))
theorem g_f_X8_readWord_f_X8_here_71 : GoodIn v_f_X8_readWord (wsV RX8 71 RX8 yX8_here v_f_X8_here) := goodIn_app (goodIn_of _ (by decide +kernel)) (goodIn_sub (fun _ h => List.mem_cons_of_mem _ (List.mem_append_right _ (List.mem_append_right _ (List.mem_append_left _ h)))) gw_f_X8_here)
theorem g_f_X8_readWord_f_X8_isLetter_75 : GoodIn v_f_X8_readWord (va_wsS RX8 75 yX8_isLetter v_f_X8_isLetter) := goodIn_app (goodIn_of _ (by decide +kernel)) (goodIn_sub (fun _ h => List.mem_cons_of_mem _ (List.mem_append_right _ (List.mem_append_right _ (List.mem_append_right _ (List.mem_append_left _ h))))) gw_f_X8_isLetter)
set_option maxHeartbeats 4000000 in
set_option maxRecDepth 100000 in
theorem wb_X8_readWord_7 {p : Program} (l : Launch) {e : Env} {s : State} {m : MethodId} {below : List Frame} {meth : Method} {c : Code} {Q : State → Prop} (E : EE) (K : Nat) {a_ a_tape a_readPlace a_script a_scriptLong a_now a_refused a_shareX a_shareY a_askedRow a_kept a_aside a_spelled a_image : Nat} {c_thrown : Int32} {c_taped : Int32} {c_partFrom : Int32} {c_partNumber : Int32} {c_wrong : Int32} {c_readLaw : Int32} {c_readBound : Int32} {c_readGoal : Int32} {c_readSites : Int32} {c_scripts : Int32} {c_sites : Int32} {c_asked : Int32} {c_outcome : Int32} {c_took : Int32} {c_acts : Int32} {c_drawn : Int64} {c_racer : Int32} {c_raced : Int32} {c_spelledMany : Int32} {c_hasImage : Int32} {c_tape : Nat → Int32} {x1 : Int32} {c_at : Int32} {c_part : Int32} {c_partWord : Int64} (hx : p.tables.exec = Jvm.exec) (hb : c.code = cX8_readWord) (hml : c.maxLocals = 2) (hown : s.vm.findClass RX8 = some m.cls) (hts : ∀ w ∈ v_f_X8_readWord, w.before #[Value.ref a_] s = true) (hK : va_K E.1 vwCl (TY E) s) (hN : NX s) {A : Nat → Prop} (hA : ∀ q : Nat, s.heap.size ≤ q → A q) {xx : (Int32 × Int32 × Int64) ⊕ (Int32 × Int64)} (hC : ∀ (x1 : Int32), ∀ (c_at : Int32), ∀ (c_partWord : Int64), xx = .inl (x1, c_at, c_partWord) → ∀ (H : Heap) (locs : List Loc) (ls : Array Slot), va_P E.1 vwCl (w_X8_readWord E a_ a_tape a_readPlace a_script a_scriptLong a_now a_refused a_shareX a_shareY a_askedRow a_kept a_aside a_spelled a_image c_thrown c_taped c_at c_part c_partFrom c_partNumber c_wrong c_partWord c_readLaw c_readBound c_readGoal c_readSites c_scripts c_sites c_asked c_outcome c_took c_acts c_drawn c_racer c_raced c_spelledMany c_hasImage c_tape) H → va_D A (w_X8_readWord E a_ a_tape a_readPlace a_script a_scriptLong a_now a_refused a_shareX a_shareY a_askedRow a_kept a_aside a_spelled a_image c_thrown c_taped c_at c_part c_partFrom c_partNumber c_wrong c_partWord c_readLaw c_readBound c_readGoal c_readSites c_scripts c_sites c_asked c_outcome c_took c_acts c_drawn c_racer c_raced c_spelledMany c_hasImage c_tape) → va_S A s.heap H locs → lv_has ls 2 [(0, .ref a_), (1, .int x1)] → W p l e ({ frames := 1, cells := 0, slots := 0, locals := 20 } : Room) s m #[Value.ref a_] below meth c H locs 0 0 Q (F0 m 7 ls [])) (hE : ∀ (c_at : Int32), ∀ (c_partWord : Int64), xx = .inr (c_at, c_partWord) → ((∀ (H : Heap) (locs : List Loc) (ls : Array Slot), va_P E.1 vwCl (w_X8_readWord E a_ a_tape a_readPlace a_script a_scriptLong a_now a_refused a_shareX a_shareY a_askedRow a_kept a_aside a_spelled a_image c_thrown c_taped c_at c_part c_partFrom c_partNumber c_wrong c_partWord c_readLaw c_readBound c_readGoal c_readSites c_scripts c_sites c_asked c_outcome c_took c_acts c_drawn c_racer c_raced c_spelledMany c_hasImage c_tape) H → va_D A (w_X8_readWord E a_ a_tape a_readPlace a_script a_scriptLong a_now a_refused a_shareX a_shareY a_askedRow a_kept a_aside a_spelled a_image c_thrown c_taped c_at c_part c_partFrom c_partNumber c_wrong c_partWord c_readLaw c_readBound c_readGoal c_readSites c_scripts c_sites c_asked c_outcome c_took c_acts c_drawn c_racer c_raced c_spelledMany c_hasImage c_tape) → va_S A s.heap H locs → lv_has ls 2 [(0, .ref a_)] → W p l e ({ frames := 1, cells := 0, slots := 0, locals := 20 } : Room) s m #[Value.ref a_] below meth c H locs 0 0 Q (F0 m 67 ls [])))) (hF : B_X8_readWord_7 c_taped c_tape x1 c_at c_partWord = some xx) : ∀ (H : Heap) (locs : List Loc) (ls : Array Slot), va_P E.1 vwCl (w_X8_readWord E a_ a_tape a_readPlace a_script a_scriptLong a_now a_refused a_shareX a_shareY a_askedRow a_kept a_aside a_spelled a_image c_thrown c_taped c_at c_part c_partFrom c_partNumber c_wrong c_partWord c_readLaw c_readBound c_readGoal c_readSites c_scripts c_sites c_asked c_outcome c_took c_acts c_drawn c_racer c_raced c_spelledMany c_hasImage c_tape) H → va_D A (w_X8_readWord E a_ a_tape a_readPlace a_script a_scriptLong a_now a_refused a_shareX a_shareY a_askedRow a_kept a_aside a_spelled a_image c_thrown c_taped c_at c_part c_partFrom c_partNumber c_wrong c_partWord c_readLaw c_readBound c_readGoal c_readSites c_scripts c_sites c_asked c_outcome c_took c_acts c_drawn c_racer c_raced c_spelledMany c_hasImage c_tape) → va_S A s.heap H locs → lv_has ls 2 [(0, .ref a_), (1, .int x1)] → W p l e ({ frames := 1, cells := 0, slots := 0, locals := 20 } : Room) s m #[Value.ref a_] below meth c H locs 0 0 Q (F0 m 7 ls []) := by
  unfold B_X8_readWord_7 at hF
  intro H locs ls hP hD hS hl
  replace hP : va_P E.1 vwCl [(a_, .inr (9, [.int c_thrown, .ref a_tape, .int c_taped, .int c_at, .int c_part, .int c_partFrom, .int c_partNumber, .int c_wrong, .long c_partWord, .int c_readLaw, .int c_readBound, .int c_readGoal, .int c_readSites, .ref a_readPlace, .ref a_script, .ref a_scriptLong, .int c_scripts, .ref a_now, .ref a_refused, .int c_sites, .ref a_shareX, .ref a_shareY, .int c_asked, .int c_outcome, .ref a_askedRow, .int c_took, .ref a_kept, .int c_acts, .long c_drawn, .ref a_aside, .int c_racer, .int c_raced, .ref a_spelled, .int c_spelledMany, .ref a_image, .int c_hasImage])), (a_tape, .inl (E.2.1, 320, .inl c_tape))] H := hP
  replace hD : va_D A [(a_, .inr (9, [.int c_thrown, .ref a_tape, .int c_taped, .int c_at, .int c_part, .int c_partFrom, .int c_partNumber, .int c_wrong, .long c_partWord, .int c_readLaw, .int c_readBound, .int c_readGoal, .int c_readSites, .ref a_readPlace, .ref a_script, .ref a_scriptLong, .int c_scripts, .ref a_now, .ref a_refused, .int c_sites, .ref a_shareX, .ref a_shareY, .int c_asked, .int c_outcome, .ref a_askedRow, .int c_took, .ref a_kept, .int c_acts, .long c_drawn, .ref a_aside, .int c_racer, .int c_raced, .ref a_spelled, .int c_spelledMany, .ref a_image, .int c_hasImage])), (a_tape, .inl (E.2.1, 320, .inl c_tape))] := hD
  refine lv_aload_n hx hb dX8_readWord_7 rfl (lv_at hl 0 rfl) ?_
  replace hF := bd1_s hF
  obtain ⟨r_1, hc_2, hF⟩ := hF
  have hPc : va_P E.1 vwCl (w_X8_here E a_ a_tape a_readPlace a_script a_scriptLong a_now a_refused a_shareX a_shareY a_askedRow a_kept a_aside a_spelled a_image c_thrown c_taped c_at c_part c_partFrom c_partNumber c_wrong c_partWord c_readLaw c_readBound c_readGoal c_readSites c_scripts c_sites c_asked c_outcome c_took c_acts c_drawn c_racer c_raced c_spelledMany c_hasImage c_tape) H := hP.sub (ws' := [(a_, .inr (9, [.int c_thrown, .ref a_tape, .int c_taped, .int c_at, .int c_part, .int c_partFrom, .int c_partNumber, .int c_wrong, .long c_partWord, .int c_readLaw, .int c_readBound, .int c_readGoal, .int c_readSites, .ref a_readPlace, .ref a_script, .ref a_scriptLong, .int c_scripts, .ref a_now, .ref a_refused, .int c_sites, .ref a_shareX, .ref a_shareY, .int c_asked, .int c_outcome, .ref a_askedRow, .int c_took, .ref a_kept, .int c_acts, .long c_drawn, .ref a_aside, .int c_racer, .int c_raced, .ref a_spelled, .int c_spelledMany, .ref a_image, .int c_hasImage])), (a_tape, .inl (E.2.1, 320, .inl c_tape))]) [0, 1] rfl
  refine pE_i (va_runV (As := []) (rest := [])  ⟨hx, hb, hml, hown, hts⟩ (f_X8_here l E (a_ := a_) (a_tape := a_tape) (a_readPlace := a_readPlace) (a_script := a_script) (a_scriptLong := a_scriptLong) (a_now := a_now) (a_refused := a_refused) (a_shareX := a_shareX) (a_shareY := a_shareY) (a_askedRow := a_askedRow) (a_kept := a_kept) (a_aside := a_aside) (a_spelled := a_spelled) (a_image := a_image) (c_thrown := c_thrown) (c_taped := c_taped) (c_at := c_at) (c_part := c_part) (c_partFrom := c_partFrom) (c_partNumber := c_partNumber) (c_wrong := c_wrong) (c_partWord := c_partWord) (c_readLaw := c_readLaw) (c_readBound := c_readBound) (c_readGoal := c_readGoal) (c_readSites := c_readSites) (c_scripts := c_scripts) (c_sites := c_sites) (c_asked := c_asked) (c_outcome := c_outcome) (c_took := c_took) (c_acts := c_acts) (c_drawn := c_drawn) (c_racer := c_racer) (c_raced := c_raced) (c_spelledMany := c_spelledMany) (c_hasImage := c_hasImage) (c_tape := c_tape) hc_2) (cwV 0 hts g_f_X8_readWord_f_X8_here_71 rfl rfl rfl (by decide +kernel) ⟨Nat.le_of_ble_eq_true rfl, Nat.le_of_ble_eq_true rfl⟩) ⟨pP.blind, va_recv hK hPc (ci := 9) (q0 := 0) rfl rfl, (pP.pre ⟨hK, hN⟩ hPc)⟩ rfl rfl hl.1 rfl (lv_room (Nat.le_of_ble_eq_true rfl)) dX8_readWord_8 ⟨Nat.le_of_ble_eq_true rfl, Nat.le_of_ble_eq_true rfl⟩) ?_
  replace hF := bd1_s hF
  obtain ⟨r_3, hc_4, hF⟩ := hF
  have hPc : va_P E.1 vwCl [] H := fun k q h => by simp at h
  refine pE_z (va_runS (As := [.int r_1]) (rest := [])  ⟨hx, hb, hml, hown, hts⟩ (f_X8_isLetter l E (p0 := r_1) hc_4) (va_cwS 1 hts g_f_X8_readWord_f_X8_isLetter_75 rfl rfl rfl (by decide +kernel) ⟨Nat.le_of_ble_eq_true rfl, Nat.le_of_ble_eq_true rfl⟩) ⟨pP.blind, (pP.pre ⟨hK, hN⟩ hPc)⟩ rfl rfl hl.1 rfl (lv_room (Nat.le_of_ble_eq_true rfl)) dX8_readWord_11 ⟨Nat.le_of_ble_eq_true rfl, Nat.le_of_ble_eq_true rfl⟩) (fun hb_5 => ?_)
  refine lv_if_eq (tgt := 67) hx hb dX8_readWord_14 (by decide) (fun c_6 => ?_) (fun c_6 => ?_)
  ·
    replace hF := ip c_6 hF
    cases hF
    exact hE c_at c_partWord rfl H locs ls (hP.sub [0, 1] rfl) (hD.sub [0, 1] (by decide) rfl) hS (lv_sub hl [0] rfl)
  ·
    replace hF := inn c_6 hF
    refine lv_aload_n hx hb dX8_readWord_17 rfl (lv_at hl 0 rfl) ?_
    refine lv_iload_n hx hb dX8_readWord_18 rfl (lv_at hl 1 rfl) ?_
    refine lv_bipush (v := 8) hx hb dX8_readWord_19 (by decide) ?_
    refine lv_icmp_ge (tgt := 47) hx hb dX8_readWord_21 (by decide) (fun c_7 => ?_) (fun c_7 => ?_)
    ·
      replace hF := ip c_7 hF
      refine lv_lconst (v := 0) hx hb dX8_readWord_47 (by decide) ?_
      refine va_put (D := E.1) (ci := 9) (v := .long (0 : Int64)) (ty := .long) (C := RX8) (T := TX8) (N := 36) hx hb hts i_f_X8_readWord_X8 tyX8 tyX8_ok nmX8 hown hK hP hD hS 0 rfl rfl 8 (by decide) (hts (.fieldLink RX8 67 "HushWatchModel" "partWord" "J") (List.mem_of_getElem? (i := 1) rfl)) (fun _ h9 => h9) rfl (by decide +kernel) rfl rfl (Nat.le_of_ble_eq_true rfl) dX8_readWord_48 (fun H locs hP hD hS => ?_)
      replace hP : va_P E.1 vwCl [(a_, .inr (9, [.int c_thrown, .ref a_tape, .int c_taped, .int c_at, .int c_part, .int c_partFrom, .int c_partNumber, .int c_wrong, .long (0 : Int64), .int c_readLaw, .int c_readBound, .int c_readGoal, .int c_readSites, .ref a_readPlace, .ref a_script, .ref a_scriptLong, .int c_scripts, .ref a_now, .ref a_refused, .int c_sites, .ref a_shareX, .ref a_shareY, .int c_asked, .int c_outcome, .ref a_askedRow, .int c_took, .ref a_kept, .int c_acts, .long c_drawn, .ref a_aside, .int c_racer, .int c_raced, .ref a_spelled, .int c_spelledMany, .ref a_image, .int c_hasImage])), (a_tape, .inl (E.2.1, 320, .inl c_tape))] H := hP
      replace hD : va_D A [(a_, .inr (9, [.int c_thrown, .ref a_tape, .int c_taped, .int c_at, .int c_part, .int c_partFrom, .int c_partNumber, .int c_wrong, .long (0 : Int64), .int c_readLaw, .int c_readBound, .int c_readGoal, .int c_readSites, .ref a_readPlace, .ref a_script, .ref a_scriptLong, .int c_scripts, .ref a_now, .ref a_refused, .int c_sites, .ref a_shareX, .ref a_shareY, .int c_asked, .int c_outcome, .ref a_askedRow, .int c_took, .ref a_kept, .int c_acts, .long c_drawn, .ref a_aside, .int c_racer, .int c_raced, .ref a_spelled, .int c_spelledMany, .ref a_image, .int c_hasImage])), (a_tape, .inl (E.2.1, 320, .inl c_tape))] := hD
      refine lv_iinc (v := x1 + (1 : Int32)) (lv' := [(1, .int (x1 + (1 : Int32))), (0, .ref a_)]) hx hb dX8_readWord_51 hl (k := 1) rfl (rfl) (by decide) rfl (fun ls hl => ?_)
      refine lv_aload_n hx hb dX8_readWord_54 rfl (lv_at hl 1 rfl) ?_
      refine lv_dup hx hb dX8_readWord_55 rfl ?_
      refine va_get (D := E.1) (ci := 9) (v := .int c_at) (C := RX8) (T := TX8) (N := 36) hx hb hts i_f_X8_readWord_X8 hown hK hP 0 rfl rfl 3 (by decide) (hts (.fieldLink RX8 64 "HushWatchModel" "at" "I") (List.mem_of_getElem? (i := 2) rfl)) (fun _ h9 => h9) rfl dX8_readWord_56 ?_
      refine lv_iconst (v := 1) hx hb dX8_readWord_59 (by decide) ?_
      refine lv_iadd hx hb dX8_readWord_60 ?_
      refine va_put (D := E.1) (ci := 9) (v := .int (c_at + (1 : Int32))) (ty := .int) (C := RX8) (T := TX8) (N := 36) hx hb hts i_f_X8_readWord_X8 tyX8 tyX8_ok nmX8 hown hK hP hD hS 0 rfl rfl 3 (by decide) (hts (.fieldLink RX8 64 "HushWatchModel" "at" "I") (List.mem_of_getElem? (i := 2) rfl)) (fun _ h9 => h9) rfl (by decide +kernel) rfl rfl (Nat.le_of_ble_eq_true rfl) dX8_readWord_61 (fun H locs hP hD hS => ?_)
      replace hP : va_P E.1 vwCl [(a_, .inr (9, [.int c_thrown, .ref a_tape, .int c_taped, .int (c_at + (1 : Int32)), .int c_part, .int c_partFrom, .int c_partNumber, .int c_wrong, .long (0 : Int64), .int c_readLaw, .int c_readBound, .int c_readGoal, .int c_readSites, .ref a_readPlace, .ref a_script, .ref a_scriptLong, .int c_scripts, .ref a_now, .ref a_refused, .int c_sites, .ref a_shareX, .ref a_shareY, .int c_asked, .int c_outcome, .ref a_askedRow, .int c_took, .ref a_kept, .int c_acts, .long c_drawn, .ref a_aside, .int c_racer, .int c_raced, .ref a_spelled, .int c_spelledMany, .ref a_image, .int c_hasImage])), (a_tape, .inl (E.2.1, 320, .inl c_tape))] H := hP
      replace hD : va_D A [(a_, .inr (9, [.int c_thrown, .ref a_tape, .int c_taped, .int (c_at + (1 : Int32)), .int c_part, .int c_partFrom, .int c_partNumber, .int c_wrong, .long (0 : Int64), .int c_readLaw, .int c_readBound, .int c_readGoal, .int c_readSites, .ref a_readPlace, .ref a_script, .ref a_scriptLong, .int c_scripts, .ref a_now, .ref a_refused, .int c_sites, .ref a_shareX, .ref a_shareY, .int c_asked, .int c_outcome, .ref a_askedRow, .int c_took, .ref a_kept, .int c_acts, .long c_drawn, .ref a_aside, .int c_racer, .int c_raced, .ref a_spelled, .int c_spelledMany, .ref a_image, .int c_hasImage])), (a_tape, .inl (E.2.1, 320, .inl c_tape))] := hD
      refine lv_goto (tgt := 7) hx hb dX8_readWord_64 (by decide) ?_
      cases hF
      exact hC (x1 + (1 : Int32)) (c_at + (1 : Int32)) (0 : Int64) rfl H locs ls (hP.sub [0, 1] rfl) (hD.sub [0, 1] (by decide) rfl) hS (lv_sub hl [1, 0] rfl)
    ·
      replace hF := inn c_7 hF
      refine lv_ldc2 (v := 32) hx hb hown (hts (.constantLong RX8 79 (32)) (List.mem_of_getElem? (i := 3) rfl)) dX8_readWord_24 ?_
      refine lv_aload_n hx hb dX8_readWord_27 rfl (lv_at hl 0 rfl) ?_
      refine va_get (D := E.1) (ci := 9) (v := .long c_partWord) (C := RX8) (T := TX8) (N := 36) hx hb hts i_f_X8_readWord_X8 hown hK hP 0 rfl rfl 8 (by decide) (hts (.fieldLink RX8 67 "HushWatchModel" "partWord" "J") (List.mem_of_getElem? (i := 1) rfl)) (fun _ h9 => h9) rfl dX8_readWord_28 ?_
      refine lv_lmul hx hb dX8_readWord_31 ?_
      refine lv_aload_n hx hb dX8_readWord_32 rfl (lv_at hl 0 rfl) ?_
      replace hF := bd1_s hF
      obtain ⟨r_8, hc_9, hF⟩ := hF
      have hPc : va_P E.1 vwCl (w_X8_here E a_ a_tape a_readPlace a_script a_scriptLong a_now a_refused a_shareX a_shareY a_askedRow a_kept a_aside a_spelled a_image c_thrown c_taped c_at c_part c_partFrom c_partNumber c_wrong c_partWord c_readLaw c_readBound c_readGoal c_readSites c_scripts c_sites c_asked c_outcome c_took c_acts c_drawn c_racer c_raced c_spelledMany c_hasImage c_tape) H := hP.sub (ws' := [(a_, .inr (9, [.int c_thrown, .ref a_tape, .int c_taped, .int c_at, .int c_part, .int c_partFrom, .int c_partNumber, .int c_wrong, .long c_partWord, .int c_readLaw, .int c_readBound, .int c_readGoal, .int c_readSites, .ref a_readPlace, .ref a_script, .ref a_scriptLong, .int c_scripts, .ref a_now, .ref a_refused, .int c_sites, .ref a_shareX, .ref a_shareY, .int c_asked, .int c_outcome, .ref a_askedRow, .int c_took, .ref a_kept, .int c_acts, .long c_drawn, .ref a_aside, .int c_racer, .int c_raced, .ref a_spelled, .int c_spelledMany, .ref a_image, .int c_hasImage])), (a_tape, .inl (E.2.1, 320, .inl c_tape))]) [0, 1] rfl
      refine pE_i (va_runV (As := []) (rest := [.long ((32 : Int64) * c_partWord), .ref a_])  ⟨hx, hb, hml, hown, hts⟩ (f_X8_here l E (a_ := a_) (a_tape := a_tape) (a_readPlace := a_readPlace) (a_script := a_script) (a_scriptLong := a_scriptLong) (a_now := a_now) (a_refused := a_refused) (a_shareX := a_shareX) (a_shareY := a_shareY) (a_askedRow := a_askedRow) (a_kept := a_kept) (a_aside := a_aside) (a_spelled := a_spelled) (a_image := a_image) (c_thrown := c_thrown) (c_taped := c_taped) (c_at := c_at) (c_part := c_part) (c_partFrom := c_partFrom) (c_partNumber := c_partNumber) (c_wrong := c_wrong) (c_partWord := c_partWord) (c_readLaw := c_readLaw) (c_readBound := c_readBound) (c_readGoal := c_readGoal) (c_readSites := c_readSites) (c_scripts := c_scripts) (c_sites := c_sites) (c_asked := c_asked) (c_outcome := c_outcome) (c_took := c_took) (c_acts := c_acts) (c_drawn := c_drawn) (c_racer := c_racer) (c_raced := c_raced) (c_spelledMany := c_spelledMany) (c_hasImage := c_hasImage) (c_tape := c_tape) hc_9) (cwV 0 hts g_f_X8_readWord_f_X8_here_71 rfl rfl rfl (by decide +kernel) ⟨Nat.le_of_ble_eq_true rfl, Nat.le_of_ble_eq_true rfl⟩) ⟨pP.blind, va_recv hK hPc (ci := 9) (q0 := 0) rfl rfl, (pP.pre ⟨hK, hN⟩ hPc)⟩ rfl rfl hl.1 rfl (lv_room (Nat.le_of_ble_eq_true rfl)) dX8_readWord_33 ⟨Nat.le_of_ble_eq_true rfl, Nat.le_of_ble_eq_true rfl⟩) ?_
      refine lv_i2l (v := r_8.toInt64) hx hb dX8_readWord_36 rfl ?_
      refine lv_ladd hx hb dX8_readWord_37 ?_
      refine lv_ldc2 (v := 97) hx hb hown (hts (.constantLong RX8 81 (97)) (List.mem_of_getElem? (i := 4) rfl)) dX8_readWord_38 ?_
      refine lv_lsub hx hb dX8_readWord_41 ?_
      refine lv_lconst (v := 1) hx hb dX8_readWord_42 (by decide) ?_
      refine lv_ladd hx hb dX8_readWord_43 ?_
      refine lv_goto (tgt := 48) hx hb dX8_readWord_44 (by decide) ?_
      refine va_put (D := E.1) (ci := 9) (v := .long (((((32 : Int64) * c_partWord) + r_8.toInt64) - (97 : Int64)) + (1 : Int64))) (ty := .long) (C := RX8) (T := TX8) (N := 36) hx hb hts i_f_X8_readWord_X8 tyX8 tyX8_ok nmX8 hown hK hP hD hS 0 rfl rfl 8 (by decide) (hts (.fieldLink RX8 67 "HushWatchModel" "partWord" "J") (List.mem_of_getElem? (i := 1) rfl)) (fun _ h9 => h9) rfl (by decide +kernel) rfl rfl (Nat.le_of_ble_eq_true rfl) dX8_readWord_48 (fun H locs hP hD hS => ?_)
      replace hP : va_P E.1 vwCl [(a_, .inr (9, [.int c_thrown, .ref a_tape, .int c_taped, .int c_at, .int c_part, .int c_partFrom, .int c_partNumber, .int c_wrong, .long (((((32 : Int64) * c_partWord) + r_8.toInt64) - (97 : Int64)) + (1 : Int64)), .int c_readLaw, .int c_readBound, .int c_readGoal, .int c_readSites, .ref a_readPlace, .ref a_script, .ref a_scriptLong, .int c_scripts, .ref a_now, .ref a_refused, .int c_sites, .ref a_shareX, .ref a_shareY, .int c_asked, .int c_outcome, .ref a_askedRow, .int c_took, .ref a_kept, .int c_acts, .long c_drawn, .ref a_aside, .int c_racer, .int c_raced, .ref a_spelled, .int c_spelledMany, .ref a_image, .int c_hasImage])), (a_tape, .inl (E.2.1, 320, .inl c_tape))] H := hP
      replace hD : va_D A [(a_, .inr (9, [.int c_thrown, .ref a_tape, .int c_taped, .int c_at, .int c_part, .int c_partFrom, .int c_partNumber, .int c_wrong, .long (((((32 : Int64) * c_partWord) + r_8.toInt64) - (97 : Int64)) + (1 : Int64)), .int c_readLaw, .int c_readBound, .int c_readGoal, .int c_readSites, .ref a_readPlace, .ref a_script, .ref a_scriptLong, .int c_scripts, .ref a_now, .ref a_refused, .int c_sites, .ref a_shareX, .ref a_shareY, .int c_asked, .int c_outcome, .ref a_askedRow, .int c_took, .ref a_kept, .int c_acts, .long c_drawn, .ref a_aside, .int c_racer, .int c_raced, .ref a_spelled, .int c_spelledMany, .ref a_image, .int c_hasImage])), (a_tape, .inl (E.2.1, 320, .inl c_tape))] := hD
      refine lv_iinc (v := x1 + (1 : Int32)) (lv' := [(1, .int (x1 + (1 : Int32))), (0, .ref a_)]) hx hb dX8_readWord_51 hl (k := 1) rfl (rfl) (by decide) rfl (fun ls hl => ?_)
      refine lv_aload_n hx hb dX8_readWord_54 rfl (lv_at hl 1 rfl) ?_
      refine lv_dup hx hb dX8_readWord_55 rfl ?_
      refine va_get (D := E.1) (ci := 9) (v := .int c_at) (C := RX8) (T := TX8) (N := 36) hx hb hts i_f_X8_readWord_X8 hown hK hP 0 rfl rfl 3 (by decide) (hts (.fieldLink RX8 64 "HushWatchModel" "at" "I") (List.mem_of_getElem? (i := 2) rfl)) (fun _ h9 => h9) rfl dX8_readWord_56 ?_
      refine lv_iconst (v := 1) hx hb dX8_readWord_59 (by decide) ?_
      refine lv_iadd hx hb dX8_readWord_60 ?_
      refine va_put (D := E.1) (ci := 9) (v := .int (c_at + (1 : Int32))) (ty := .int) (C := RX8) (T := TX8) (N := 36) hx hb hts i_f_X8_readWord_X8 tyX8 tyX8_ok nmX8 hown hK hP hD hS 0 rfl rfl 3 (by decide) (hts (.fieldLink RX8 64 "HushWatchModel" "at" "I") (List.mem_of_getElem? (i := 2) rfl)) (fun _ h9 => h9) rfl (by decide +kernel) rfl rfl (Nat.le_of_ble_eq_true rfl) dX8_readWord_61 (fun H locs hP hD hS => ?_)
      replace hP : va_P E.1 vwCl [(a_, .inr (9, [.int c_thrown, .ref a_tape, .int c_taped, .int (c_at + (1 : Int32)), .int c_part, .int c_partFrom, .int c_partNumber, .int c_wrong, .long (((((32 : Int64) * c_partWord) + r_8.toInt64) - (97 : Int64)) + (1 : Int64)), .int c_readLaw, .int c_readBound, .int c_readGoal, .int c_readSites, .ref a_readPlace, .ref a_script, .ref a_scriptLong, .int c_scripts, .ref a_now, .ref a_refused, .int c_sites, .ref a_shareX, .ref a_shareY, .int c_asked, .int c_outcome, .ref a_askedRow, .int c_took, .ref a_kept, .int c_acts, .long c_drawn, .ref a_aside, .int c_racer, .int c_raced, .ref a_spelled, .int c_spelledMany, .ref a_image, .int c_hasImage])), (a_tape, .inl (E.2.1, 320, .inl c_tape))] H := hP
      replace hD : va_D A [(a_, .inr (9, [.int c_thrown, .ref a_tape, .int c_taped, .int (c_at + (1 : Int32)), .int c_part, .int c_partFrom, .int c_partNumber, .int c_wrong, .long (((((32 : Int64) * c_partWord) + r_8.toInt64) - (97 : Int64)) + (1 : Int64)), .int c_readLaw, .int c_readBound, .int c_readGoal, .int c_readSites, .ref a_readPlace, .ref a_script, .ref a_scriptLong, .int c_scripts, .ref a_now, .ref a_refused, .int c_sites, .ref a_shareX, .ref a_shareY, .int c_asked, .int c_outcome, .ref a_askedRow, .int c_took, .ref a_kept, .int c_acts, .long c_drawn, .ref a_aside, .int c_racer, .int c_raced, .ref a_spelled, .int c_spelledMany, .ref a_image, .int c_hasImage])), (a_tape, .inl (E.2.1, 320, .inl c_tape))] := hD
      refine lv_goto (tgt := 7) hx hb dX8_readWord_64 (by decide) ?_
      cases hF
      exact hC (x1 + (1 : Int32)) (c_at + (1 : Int32)) (((((32 : Int64) * c_partWord) + r_8.toInt64) - (97 : Int64)) + (1 : Int64)) rfl H locs ls (hP.sub [0, 1] rfl) (hD.sub [0, 1] (by decide) rfl) hS (lv_sub hl [1, 0] rfl)

set_option maxHeartbeats 4000000 in
set_option maxRecDepth 100000 in
theorem lw_X8_readWord_7 {p : Program} (l : Launch) {e : Env} {s : State} {m : MethodId} {below : List Frame} {meth : Method} {c : Code} {Q : State → Prop} (E : EE) (K : Nat) {a_ a_tape a_readPlace a_script a_scriptLong a_now a_refused a_shareX a_shareY a_askedRow a_kept a_aside a_spelled a_image : Nat} {c_thrown : Int32} {c_taped : Int32} {c_partFrom : Int32} {c_partNumber : Int32} {c_wrong : Int32} {c_readLaw : Int32} {c_readBound : Int32} {c_readGoal : Int32} {c_readSites : Int32} {c_scripts : Int32} {c_sites : Int32} {c_asked : Int32} {c_outcome : Int32} {c_took : Int32} {c_acts : Int32} {c_drawn : Int64} {c_racer : Int32} {c_raced : Int32} {c_spelledMany : Int32} {c_hasImage : Int32} {c_tape : Nat → Int32} {c_part : Int32} (hx : p.tables.exec = Jvm.exec) (hb : c.code = cX8_readWord) (hml : c.maxLocals = 2) (hown : s.vm.findClass RX8 = some m.cls) (hts : ∀ w ∈ v_f_X8_readWord, w.before #[Value.ref a_] s = true) (hK : va_K E.1 vwCl (TY E) s) (hN : NX s) {A : Nat → Prop} (hA : ∀ q : Nat, s.heap.size ≤ q → A q) (j9 : Nat) (x1 : Int32) (c_at : Int32) (c_partWord : Int64) (c_at' : Int32) (c_partWord' : Int64) (hL : lpF (fun u9 : Int32 × Int32 × Int64 => B_X8_readWord_7 c_taped c_tape u9.1 u9.2.1 u9.2.2) j9 (x1, c_at, c_partWord) = some (c_at', c_partWord')) (hX : (∀ (H : Heap) (locs : List Loc) (ls : Array Slot), va_P E.1 vwCl (w_X8_readWord E a_ a_tape a_readPlace a_script a_scriptLong a_now a_refused a_shareX a_shareY a_askedRow a_kept a_aside a_spelled a_image c_thrown c_taped c_at' c_part c_partFrom c_partNumber c_wrong c_partWord' c_readLaw c_readBound c_readGoal c_readSites c_scripts c_sites c_asked c_outcome c_took c_acts c_drawn c_racer c_raced c_spelledMany c_hasImage c_tape) H → va_D A (w_X8_readWord E a_ a_tape a_readPlace a_script a_scriptLong a_now a_refused a_shareX a_shareY a_askedRow a_kept a_aside a_spelled a_image c_thrown c_taped c_at' c_part c_partFrom c_partNumber c_wrong c_partWord' c_readLaw c_readBound c_readGoal c_readSites c_scripts c_sites c_asked c_outcome c_took c_acts c_drawn c_racer c_raced c_spelledMany c_hasImage c_tape) → va_S A s.heap H locs → lv_has ls 2 [(0, .ref a_)] → W p l e ({ frames := 1, cells := 0, slots := 0, locals := 20 } : Room) s m #[Value.ref a_] below meth c H locs 0 0 Q (F0 m 67 ls []))) : ∀ (H : Heap) (locs : List Loc) (ls : Array Slot), va_P E.1 vwCl (w_X8_readWord E a_ a_tape a_readPlace a_script a_scriptLong a_now a_refused a_shareX a_shareY a_askedRow a_kept a_aside a_spelled a_image c_thrown c_taped c_at c_part c_partFrom c_partNumber c_wrong c_partWord c_readLaw c_readBound c_readGoal c_readSites c_scripts c_sites c_asked c_outcome c_took c_acts c_drawn c_racer c_raced c_spelledMany c_hasImage c_tape) H → va_D A (w_X8_readWord E a_ a_tape a_readPlace a_script a_scriptLong a_now a_refused a_shareX a_shareY a_askedRow a_kept a_aside a_spelled a_image c_thrown c_taped c_at c_part c_partFrom c_partNumber c_wrong c_partWord c_readLaw c_readBound c_readGoal c_readSites c_scripts c_sites c_asked c_outcome c_took c_acts c_drawn c_racer c_raced c_spelledMany c_hasImage c_tape) → va_S A s.heap H locs → lv_has ls 2 [(0, .ref a_), (1, .int x1)] → W p l e ({ frames := 1, cells := 0, slots := 0, locals := 20 } : Room) s m #[Value.ref a_] below meth c H locs 0 0 Q (F0 m 7 ls []) := by
  exact lp_rule (P := (fun u9 : Int32 × Int32 × Int64 => ∀ (H : Heap) (locs : List Loc) (ls : Array Slot), va_P E.1 vwCl (w_X8_readWord E a_ a_tape a_readPlace a_script a_scriptLong a_now a_refused a_shareX a_shareY a_askedRow a_kept a_aside a_spelled a_image c_thrown c_taped u9.2.1 c_part c_partFrom c_partNumber c_wrong u9.2.2 c_readLaw c_readBound c_readGoal c_readSites c_scripts c_sites c_asked c_outcome c_took c_acts c_drawn c_racer c_raced c_spelledMany c_hasImage c_tape) H → va_D A (w_X8_readWord E a_ a_tape a_readPlace a_script a_scriptLong a_now a_refused a_shareX a_shareY a_askedRow a_kept a_aside a_spelled a_image c_thrown c_taped u9.2.1 c_part c_partFrom c_partNumber c_wrong u9.2.2 c_readLaw c_readBound c_readGoal c_readSites c_scripts c_sites c_asked c_outcome c_took c_acts c_drawn c_racer c_raced c_spelledMany c_hasImage c_tape) → va_S A s.heap H locs → lv_has ls 2 [(0, .ref a_), (1, .int u9.1)] → W p l e ({ frames := 1, cells := 0, slots := 0, locals := 20 } : Room) s m #[Value.ref a_] below meth c H locs 0 0 Q (F0 m 7 ls []))) (R := (fun r9 : Int32 × Int64 => (∀ (H : Heap) (locs : List Loc) (ls : Array Slot), va_P E.1 vwCl (w_X8_readWord E a_ a_tape a_readPlace a_script a_scriptLong a_now a_refused a_shareX a_shareY a_askedRow a_kept a_aside a_spelled a_image c_thrown c_taped r9.1 c_part c_partFrom c_partNumber c_wrong r9.2 c_readLaw c_readBound c_readGoal c_readSites c_scripts c_sites c_asked c_outcome c_took c_acts c_drawn c_racer c_raced c_spelledMany c_hasImage c_tape) H → va_D A (w_X8_readWord E a_ a_tape a_readPlace a_script a_scriptLong a_now a_refused a_shareX a_shareY a_askedRow a_kept a_aside a_spelled a_image c_thrown c_taped r9.1 c_part c_partFrom c_partNumber c_wrong r9.2 c_readLaw c_readBound c_readGoal c_readSites c_scripts c_sites c_asked c_outcome c_took c_acts c_drawn c_racer c_raced c_spelledMany c_hasImage c_tape) → va_S A s.heap H locs → lv_has ls 2 [(0, .ref a_)] → W p l e ({ frames := 1, cells := 0, slots := 0, locals := 20 } : Room) s m #[Value.ref a_] below meth c H locs 0 0 Q (F0 m 67 ls [])))) (fun u9 xx hF hC hE => wb_X8_readWord_7 l E K (c_thrown := c_thrown) (c_taped := c_taped) (c_partFrom := c_partFrom) (c_partNumber := c_partNumber) (c_wrong := c_wrong) (c_readLaw := c_readLaw) (c_readBound := c_readBound) (c_readGoal := c_readGoal) (c_readSites := c_readSites) (c_scripts := c_scripts) (c_sites := c_sites) (c_asked := c_asked) (c_outcome := c_outcome) (c_took := c_took) (c_acts := c_acts) (c_drawn := c_drawn) (c_racer := c_racer) (c_raced := c_raced) (c_spelledMany := c_spelledMany) (c_hasImage := c_hasImage) (c_tape := c_tape) (x1 := u9.1) (c_at := u9.2.1) (c_part := c_part) (c_partWord := u9.2.2) hx hb hml hown hts hK hN hA (fun x1 c_at c_partWord q9 => hC _ q9) (fun c_at c_partWord q9 => hE _ q9) hF) j9 (x1, c_at, c_partWord) (c_at', c_partWord') hL hX

set_option maxHeartbeats 4000000 in
set_option maxRecDepth 100000 in
theorem f_X8_readWord (l : Launch) (E : EE) (sz : Nat) (K : Nat) {a_ a_tape a_readPlace a_script a_scriptLong a_now a_refused a_shareX a_shareY a_askedRow a_kept a_aside a_spelled a_image : Nat} {c_thrown : Int32} {c_taped : Int32} {c_at : Int32} {c_part : Int32} {c_partFrom : Int32} {c_partNumber : Int32} {c_wrong : Int32} {c_partWord : Int64} {c_readLaw : Int32} {c_readBound : Int32} {c_readGoal : Int32} {c_readSites : Int32} {c_scripts : Int32} {c_sites : Int32} {c_asked : Int32} {c_outcome : Int32} {c_took : Int32} {c_acts : Int32} {c_drawn : Int64} {c_racer : Int32} {c_raced : Int32} {c_spelledMany : Int32} {c_hasImage : Int32} {c_tape : Nat → Int32} {n_at : Int32} {n_part : Int32} {n_partWord : Int64} (hF : F_X8_readWord K c_tape c_taped c_at c_part c_partWord = some (n_at, n_part, n_partWord)) : Met l yX8_readWord v_f_X8_readWord (({ frames := 1, cells := 0, slots := 0, locals := 20 } : Room)) (va_Pc [.ref a_] (pW E sz (w_X8_readWord E a_ a_tape a_readPlace a_script a_scriptLong a_now a_refused a_shareX a_shareY a_askedRow a_kept a_aside a_spelled a_image c_thrown c_taped c_at c_part c_partFrom c_partNumber c_wrong c_partWord c_readLaw c_readBound c_readGoal c_readSites c_scripts c_sites c_asked c_outcome c_took c_acts c_drawn c_racer c_raced c_spelledMany c_hasImage c_tape))) (va_Qv (fun (_u : Unit) => True) (fun (_u : Unit) tt => va_P E.1 vwCl (w_X8_readWord E a_ a_tape a_readPlace a_script a_scriptLong a_now a_refused a_shareX a_shareY a_askedRow a_kept a_aside a_spelled a_image c_thrown c_taped n_at n_part c_partFrom c_partNumber c_wrong n_partWord c_readLaw c_readBound c_readGoal c_readSites c_scripts c_sites c_asked c_outcome c_took c_acts c_drawn c_racer c_raced c_spelledMany c_hasImage c_tape) tt.heap ∧ va_D (va_A (w_X8_readWord E a_ a_tape a_readPlace a_script a_scriptLong a_now a_refused a_shareX a_shareY a_askedRow a_kept a_aside a_spelled a_image c_thrown c_taped c_at c_part c_partFrom c_partNumber c_wrong c_partWord c_readLaw c_readBound c_readGoal c_readSites c_scripts c_sites c_asked c_outcome c_took c_acts c_drawn c_racer c_raced c_spelledMany c_hasImage c_tape) sz) (w_X8_readWord E a_ a_tape a_readPlace a_script a_scriptLong a_now a_refused a_shareX a_shareY a_askedRow a_kept a_aside a_spelled a_image c_thrown c_taped n_at n_part c_partFrom c_partNumber c_wrong n_partWord c_readLaw c_readBound c_readGoal c_readSites c_scripts c_sites c_asked c_outcome c_took c_acts c_drawn c_racer c_raced c_spelledMany c_hasImage c_tape)) (va_A (w_X8_readWord E a_ a_tape a_readPlace a_script a_scriptLong a_now a_refused a_shareX a_shareY a_askedRow a_kept a_aside a_spelled a_image c_thrown c_taped c_at c_part c_partFrom c_partNumber c_wrong c_partWord c_readLaw c_readBound c_readGoal c_readSites c_scripts c_sites c_asked c_outcome c_took c_acts c_drawn c_racer c_raced c_spelledMany c_hasImage c_tape) sz)) 0 0 (va_A (w_X8_readWord E a_ a_tape a_readPlace a_script a_scriptLong a_now a_refused a_shareX a_shareY a_askedRow a_kept a_aside a_spelled a_image c_thrown c_taped c_at c_part c_partFrom c_partNumber c_wrong c_partWord c_readLaw c_readBound c_readGoal c_readSites c_scripts c_sites c_asked c_outcome c_took c_acts c_drawn c_racer c_raced c_spelledMany c_hasImage c_tape) sz) := by
  refine Met.ofW (cc := cX8_readWord) (maxL := 2) (ret := none) (by decide) rfl ?_
  intro p e s m args below meth c s₁ B hml hv
  obtain ⟨rfl, hsz, ⟨hK, hN⟩, hP, hD0⟩ := hv
  have hx := B.exec
  have hb := B.bytes
  have hr := B.returns
  have hts := atoms_spec (ws := v_f_X8_readWord) B.pre
  have hown : s.vm.findClass RX8 = some m.cls := findClass_of_methodNamed B.named
  have hlocks : meth.locks = false := B.notSynchronized
  subst hsz
  have hD := hD0.self (sz := s.heap.size)
  generalize hAe : va_A (w_X8_readWord E a_ a_tape a_readPlace a_script a_scriptLong a_now a_refused a_shareX a_shareY a_askedRow a_kept a_aside a_spelled a_image c_thrown c_taped c_at c_part c_partFrom c_partNumber c_wrong c_partWord c_readLaw c_readBound c_readGoal c_readSites c_scripts c_sites c_asked c_outcome c_took c_acts c_drawn c_racer c_raced c_spelledMany c_hasImage c_tape) s.heap.size = A at hD ⊢
  have hA : ∀ q : Nat, s.heap.size ≤ q → A q := fun q h => by rw [← hAe]; exact Or.inr h
  have hS : va_S A s.heap s.heap [] := va_S.rf
  have hl := lv_entry ([.ref a_]) (n := 2) (Nat.le_of_ble_eq_true rfl)
  rw [lg_entry_eq]
  generalize (lg_sl ([.ref a_]) ++ List.replicate (2 - (lg_sl ([.ref a_])).length) Slot.unset).toArray = ls at hl ⊢
  have hl : lv_has ls 2 [(0, .ref a_)] := hl
  obtain ⟨Q, hQ⟩ : ∃ Q : State → Prop, Q = MQ below (va_Qv (fun (_u : Unit) => True) (fun (_u : Unit) tt => va_P E.1 vwCl (w_X8_readWord E a_ a_tape a_readPlace a_script a_scriptLong a_now a_refused a_shareX a_shareY a_askedRow a_kept a_aside a_spelled a_image c_thrown c_taped n_at n_part c_partFrom c_partNumber c_wrong n_partWord c_readLaw c_readBound c_readGoal c_readSites c_scripts c_sites c_asked c_outcome c_took c_acts c_drawn c_racer c_raced c_spelledMany c_hasImage c_tape) tt.heap ∧ va_D A (w_X8_readWord E a_ a_tape a_readPlace a_script a_scriptLong a_now a_refused a_shareX a_shareY a_askedRow a_kept a_aside a_spelled a_image c_thrown c_taped n_at n_part c_partFrom c_partNumber c_wrong n_partWord c_readLaw c_readBound c_readGoal c_readSites c_scripts c_sites c_asked c_outcome c_took c_acts c_drawn c_racer c_raced c_spelledMany c_hasImage c_tape)) A) #[Value.ref a_] s 0 0 A := ⟨_, rfl⟩
  rw [← hQ]
  change W p l e ({ frames := 1, cells := 0, slots := 0, locals := 20 } : Room) s m #[Value.ref a_] below meth c s.heap [] 0 0 Q (F0 m 0 ls [])
  suffices hh9 : ∀ (H : Heap) (locs : List Loc), va_P E.1 vwCl (w_X8_readWord E a_ a_tape a_readPlace a_script a_scriptLong a_now a_refused a_shareX a_shareY a_askedRow a_kept a_aside a_spelled a_image c_thrown c_taped c_at c_part c_partFrom c_partNumber c_wrong c_partWord c_readLaw c_readBound c_readGoal c_readSites c_scripts c_sites c_asked c_outcome c_took c_acts c_drawn c_racer c_raced c_spelledMany c_hasImage c_tape) H → va_D A (w_X8_readWord E a_ a_tape a_readPlace a_script a_scriptLong a_now a_refused a_shareX a_shareY a_askedRow a_kept a_aside a_spelled a_image c_thrown c_taped c_at c_part c_partFrom c_partNumber c_wrong c_partWord c_readLaw c_readBound c_readGoal c_readSites c_scripts c_sites c_asked c_outcome c_took c_acts c_drawn c_racer c_raced c_spelledMany c_hasImage c_tape) → va_S A s.heap H locs → W p l e ({ frames := 1, cells := 0, slots := 0, locals := 20 } : Room) s m #[Value.ref a_] below meth c H locs 0 0 Q (F0 m 0 ls []) from hh9 s.heap [] hP hD hS
  clear hP hD hS
  intro H locs hP hD hS
  replace hP : va_P E.1 vwCl [(a_, .inr (9, [.int c_thrown, .ref a_tape, .int c_taped, .int c_at, .int c_part, .int c_partFrom, .int c_partNumber, .int c_wrong, .long c_partWord, .int c_readLaw, .int c_readBound, .int c_readGoal, .int c_readSites, .ref a_readPlace, .ref a_script, .ref a_scriptLong, .int c_scripts, .ref a_now, .ref a_refused, .int c_sites, .ref a_shareX, .ref a_shareY, .int c_asked, .int c_outcome, .ref a_askedRow, .int c_took, .ref a_kept, .int c_acts, .long c_drawn, .ref a_aside, .int c_racer, .int c_raced, .ref a_spelled, .int c_spelledMany, .ref a_image, .int c_hasImage])), (a_tape, .inl (E.2.1, 320, .inl c_tape))] H := hP
  replace hD : va_D A [(a_, .inr (9, [.int c_thrown, .ref a_tape, .int c_taped, .int c_at, .int c_part, .int c_partFrom, .int c_partNumber, .int c_wrong, .long c_partWord, .int c_readLaw, .int c_readBound, .int c_readGoal, .int c_readSites, .ref a_readPlace, .ref a_script, .ref a_scriptLong, .int c_scripts, .ref a_now, .ref a_refused, .int c_sites, .ref a_shareX, .ref a_shareY, .int c_asked, .int c_outcome, .ref a_askedRow, .int c_took, .ref a_kept, .int c_acts, .long c_drawn, .ref a_aside, .int c_racer, .int c_raced, .ref a_spelled, .int c_spelledMany, .ref a_image, .int c_hasImage])), (a_tape, .inl (E.2.1, 320, .inl c_tape))] := hD
  unfold F_X8_readWord at hF
  refine lv_aload_n hx hb dX8_readWord_0 rfl (lv_at hl 0 rfl) ?_
  refine lv_lconst (v := 0) hx hb dX8_readWord_1 (by decide) ?_
  refine va_put (D := E.1) (ci := 9) (v := .long (0 : Int64)) (ty := .long) (C := RX8) (T := TX8) (N := 36) hx hb hts i_f_X8_readWord_X8 tyX8 tyX8_ok nmX8 hown hK hP hD hS 0 rfl rfl 8 (by decide) (hts (.fieldLink RX8 67 "HushWatchModel" "partWord" "J") (List.mem_of_getElem? (i := 1) rfl)) (fun _ h9 => h9) rfl (by decide +kernel) rfl rfl (Nat.le_of_ble_eq_true rfl) dX8_readWord_2 (fun H locs hP hD hS => ?_)
  replace hP : va_P E.1 vwCl [(a_, .inr (9, [.int c_thrown, .ref a_tape, .int c_taped, .int c_at, .int c_part, .int c_partFrom, .int c_partNumber, .int c_wrong, .long (0 : Int64), .int c_readLaw, .int c_readBound, .int c_readGoal, .int c_readSites, .ref a_readPlace, .ref a_script, .ref a_scriptLong, .int c_scripts, .ref a_now, .ref a_refused, .int c_sites, .ref a_shareX, .ref a_shareY, .int c_asked, .int c_outcome, .ref a_askedRow, .int c_took, .ref a_kept, .int c_acts, .long c_drawn, .ref a_aside, .int c_racer, .int c_raced, .ref a_spelled, .int c_spelledMany, .ref a_image, .int c_hasImage])), (a_tape, .inl (E.2.1, 320, .inl c_tape))] H := hP
  replace hD : va_D A [(a_, .inr (9, [.int c_thrown, .ref a_tape, .int c_taped, .int c_at, .int c_part, .int c_partFrom, .int c_partNumber, .int c_wrong, .long (0 : Int64), .int c_readLaw, .int c_readBound, .int c_readGoal, .int c_readSites, .ref a_readPlace, .ref a_script, .ref a_scriptLong, .int c_scripts, .ref a_now, .ref a_refused, .int c_sites, .ref a_shareX, .ref a_shareY, .int c_asked, .int c_outcome, .ref a_askedRow, .int c_took, .ref a_kept, .int c_acts, .long c_drawn, .ref a_aside, .int c_racer, .int c_raced, .ref a_spelled, .int c_spelledMany, .ref a_image, .int c_hasImage])), (a_tape, .inl (E.2.1, 320, .inl c_tape))] := hD
  refine lv_iconst (v := 0) hx hb dX8_readWord_5 (by decide) ?_
  refine lv_istore_n (lv' := [(1, .int (0 : Int32)), (0, .ref a_)]) hx hb dX8_readWord_6 rfl hl (by decide) rfl (fun ls hl => ?_)
  replace hF := bd2_s hF
  obtain ⟨c_at_10, c_partWord_11, hL_12, hF⟩ := hF
  refine lw_X8_readWord_7 l E K (c_thrown := c_thrown) (c_taped := c_taped) (c_partFrom := c_partFrom) (c_partNumber := c_partNumber) (c_wrong := c_wrong) (c_readLaw := c_readLaw) (c_readBound := c_readBound) (c_readGoal := c_readGoal) (c_readSites := c_readSites) (c_scripts := c_scripts) (c_sites := c_sites) (c_asked := c_asked) (c_outcome := c_outcome) (c_took := c_took) (c_acts := c_acts) (c_drawn := c_drawn) (c_racer := c_racer) (c_raced := c_raced) (c_spelledMany := c_spelledMany) (c_hasImage := c_hasImage) (c_tape := c_tape) (c_part := c_part) hx hb hml hown hts hK hN hA K (0 : Int32) c_at (0 : Int64) c_at_10 c_partWord_11 hL_12 ?_ H locs ls (hP.sub [0, 1] rfl) (hD.sub [0, 1] (by decide) rfl) hS (lv_sub hl [1, 0] rfl)
  ·
    intro H locs ls hP hD hS hl
    replace hP : va_P E.1 vwCl [(a_, .inr (9, [.int c_thrown, .ref a_tape, .int c_taped, .int c_at_10, .int c_part, .int c_partFrom, .int c_partNumber, .int c_wrong, .long c_partWord_11, .int c_readLaw, .int c_readBound, .int c_readGoal, .int c_readSites, .ref a_readPlace, .ref a_script, .ref a_scriptLong, .int c_scripts, .ref a_now, .ref a_refused, .int c_sites, .ref a_shareX, .ref a_shareY, .int c_asked, .int c_outcome, .ref a_askedRow, .int c_took, .ref a_kept, .int c_acts, .long c_drawn, .ref a_aside, .int c_racer, .int c_raced, .ref a_spelled, .int c_spelledMany, .ref a_image, .int c_hasImage])), (a_tape, .inl (E.2.1, 320, .inl c_tape))] H := hP
    replace hD : va_D A [(a_, .inr (9, [.int c_thrown, .ref a_tape, .int c_taped, .int c_at_10, .int c_part, .int c_partFrom, .int c_partNumber, .int c_wrong, .long c_partWord_11, .int c_readLaw, .int c_readBound, .int c_readGoal, .int c_readSites, .ref a_readPlace, .ref a_script, .ref a_scriptLong, .int c_scripts, .ref a_now, .ref a_refused, .int c_sites, .ref a_shareX, .ref a_shareY, .int c_asked, .int c_outcome, .ref a_askedRow, .int c_took, .ref a_kept, .int c_acts, .long c_drawn, .ref a_aside, .int c_racer, .int c_raced, .ref a_spelled, .int c_spelledMany, .ref a_image, .int c_hasImage])), (a_tape, .inl (E.2.1, 320, .inl c_tape))] := hD
    refine lv_aload_n hx hb dX8_readWord_67 rfl (lv_at hl 0 rfl) ?_
    refine lv_iconst (v := 1) hx hb dX8_readWord_68 (by decide) ?_
    refine va_put (D := E.1) (ci := 9) (v := .int (1 : Int32)) (ty := .int) (C := RX8) (T := TX8) (N := 36) hx hb hts i_f_X8_readWord_X8 tyX8 tyX8_ok nmX8 hown hK hP hD hS 0 rfl rfl 4 (by decide) (hts (.fieldLink RX8 83 "HushWatchModel" "part" "I") (List.mem_of_getElem? (i := 5) rfl)) (fun _ h9 => h9) rfl (by decide +kernel) rfl rfl (Nat.le_of_ble_eq_true rfl) dX8_readWord_69 (fun H locs hP hD hS => ?_)
    replace hP : va_P E.1 vwCl [(a_, .inr (9, [.int c_thrown, .ref a_tape, .int c_taped, .int c_at_10, .int (1 : Int32), .int c_partFrom, .int c_partNumber, .int c_wrong, .long c_partWord_11, .int c_readLaw, .int c_readBound, .int c_readGoal, .int c_readSites, .ref a_readPlace, .ref a_script, .ref a_scriptLong, .int c_scripts, .ref a_now, .ref a_refused, .int c_sites, .ref a_shareX, .ref a_shareY, .int c_asked, .int c_outcome, .ref a_askedRow, .int c_took, .ref a_kept, .int c_acts, .long c_drawn, .ref a_aside, .int c_racer, .int c_raced, .ref a_spelled, .int c_spelledMany, .ref a_image, .int c_hasImage])), (a_tape, .inl (E.2.1, 320, .inl c_tape))] H := hP
    replace hD : va_D A [(a_, .inr (9, [.int c_thrown, .ref a_tape, .int c_taped, .int c_at_10, .int (1 : Int32), .int c_partFrom, .int c_partNumber, .int c_wrong, .long c_partWord_11, .int c_readLaw, .int c_readBound, .int c_readGoal, .int c_readSites, .ref a_readPlace, .ref a_script, .ref a_scriptLong, .int c_scripts, .ref a_now, .ref a_refused, .int c_sites, .ref a_shareX, .ref a_shareY, .int c_asked, .int c_outcome, .ref a_askedRow, .int c_took, .ref a_kept, .int c_acts, .long c_drawn, .ref a_aside, .int c_racer, .int c_raced, .ref a_spelled, .int c_spelledMany, .ref a_image, .int c_hasImage])), (a_tape, .inl (E.2.1, 320, .inl c_tape))] := hD
    rw [hQ]
    obtain ⟨e9_0, e9_1, e9_2⟩ := inj3 hF
    have hP9 : va_P E.1 vwCl [(a_, .inr (9, [.int c_thrown, .ref a_tape, .int c_taped, .int n_at, .int n_part, .int c_partFrom, .int c_partNumber, .int c_wrong, .long n_partWord, .int c_readLaw, .int c_readBound, .int c_readGoal, .int c_readSites, .ref a_readPlace, .ref a_script, .ref a_scriptLong, .int c_scripts, .ref a_now, .ref a_refused, .int c_sites, .ref a_shareX, .ref a_shareY, .int c_asked, .int c_outcome, .ref a_askedRow, .int c_took, .ref a_kept, .int c_acts, .long c_drawn, .ref a_aside, .int c_racer, .int c_raced, .ref a_spelled, .int c_spelledMany, .ref a_image, .int c_hasImage])), (a_tape, .inl (E.2.1, 320, .inl c_tape))] H := by rw [← e9_0, ← e9_1, ← e9_2]; exact hP.sub (ws' := [(a_, .inr (9, [.int c_thrown, .ref a_tape, .int c_taped, .int c_at_10, .int (1 : Int32), .int c_partFrom, .int c_partNumber, .int c_wrong, .long c_partWord_11, .int c_readLaw, .int c_readBound, .int c_readGoal, .int c_readSites, .ref a_readPlace, .ref a_script, .ref a_scriptLong, .int c_scripts, .ref a_now, .ref a_refused, .int c_sites, .ref a_shareX, .ref a_shareY, .int c_asked, .int c_outcome, .ref a_askedRow, .int c_took, .ref a_kept, .int c_acts, .long c_drawn, .ref a_aside, .int c_racer, .int c_raced, .ref a_spelled, .int c_spelledMany, .ref a_image, .int c_hasImage])), (a_tape, .inl (E.2.1, 320, .inl c_tape))]) [0, 1] rfl
    have hD9 : va_D A [(a_, .inr (9, [.int c_thrown, .ref a_tape, .int c_taped, .int n_at, .int n_part, .int c_partFrom, .int c_partNumber, .int c_wrong, .long n_partWord, .int c_readLaw, .int c_readBound, .int c_readGoal, .int c_readSites, .ref a_readPlace, .ref a_script, .ref a_scriptLong, .int c_scripts, .ref a_now, .ref a_refused, .int c_sites, .ref a_shareX, .ref a_shareY, .int c_asked, .int c_outcome, .ref a_askedRow, .int c_took, .ref a_kept, .int c_acts, .long c_drawn, .ref a_aside, .int c_racer, .int c_raced, .ref a_spelled, .int c_spelledMany, .ref a_image, .int c_hasImage])), (a_tape, .inl (E.2.1, 320, .inl c_tape))] := by rw [← e9_0, ← e9_1, ← e9_2]; exact hD.sub (ws' := [(a_, .inr (9, [.int c_thrown, .ref a_tape, .int c_taped, .int c_at_10, .int (1 : Int32), .int c_partFrom, .int c_partNumber, .int c_wrong, .long c_partWord_11, .int c_readLaw, .int c_readBound, .int c_readGoal, .int c_readSites, .ref a_readPlace, .ref a_script, .ref a_scriptLong, .int c_scripts, .ref a_now, .ref a_refused, .int c_sites, .ref a_shareX, .ref a_shareY, .int c_asked, .int c_outcome, .ref a_askedRow, .int c_took, .ref a_kept, .int c_acts, .long c_drawn, .ref a_aside, .int c_racer, .int c_raced, .ref a_spelled, .int c_spelledMany, .ref a_image, .int c_hasImage])), (a_tape, .inl (E.2.1, 320, .inl c_tape))]) [0, 1] (by decide) rfl
    exact W.vret hx hb hr (fun tt ht hW => ⟨⟨(), rfl, trivial, by rw [ht]; exact hP9, hD9⟩, hS.F ht⟩) hS.2.2 dX8_readWord_72

def F_X8_isDigit (p0 : Int32) : Option (Int32) :=
  if p0 < (48 : Int32) then some (0 : Int32) else if (57 : Int32) < p0 then some (0 : Int32) else some (1 : Int32)

def v_f_X8_isDigit : List Cond := .code yX8_isDigit cX8_isDigit 1 (some .boolean) :: ([] ++ ([]))
theorem gw_f_X8_isDigit : v_f_X8_isDigit.all goodWord = true := by decide +kernel
set_option maxHeartbeats 4000000 in
set_option maxRecDepth 100000 in
theorem f_X8_isDigit (l : Launch) (E : EE) {p0 : Int32} {rr : Int32} (hF : F_X8_isDigit p0 = some rr) : Met l yX8_isDigit v_f_X8_isDigit (({ frames := 0, cells := 0, slots := 0, locals := 0 } : Room)) (va_Pc [.int p0] (pP E [])) (vp_Si (fun q : Int32 => q = rr ∧ (q = 0 ∨ q = 1))) 0 0 (fun _ => False) := by
  refine Met.ofW (cc := cX8_isDigit) (maxL := 1) (ret := (some .boolean)) (by decide) rfl ?_
  intro p e s m args below meth c s₁ B hml hv
  obtain ⟨rfl, ⟨hK, hN⟩, hP⟩ := hv
  have hx := B.exec
  have hb := B.bytes
  have hr := B.returns
  have hts := atoms_spec (ws := v_f_X8_isDigit) B.pre
  have hown : s.vm.findClass RX8 = some m.cls := findClass_of_methodNamed B.named
  have hlocks : meth.locks = false := B.notSynchronized
  replace hP : va_P E.1 vwCl [] s.heap := hP
  have hl := lv_entry ([.int p0]) (n := 1) (Nat.le_of_ble_eq_true rfl)
  rw [lg_entry_eq]
  generalize (lg_sl ([.int p0]) ++ List.replicate (1 - (lg_sl ([.int p0])).length) Slot.unset).toArray = ls at hl ⊢
  have hl : lv_has ls 1 [(0, .int p0)] := hl
  obtain ⟨Q, hQ⟩ : ∃ Q : State → Prop, Q = MQ below (vp_Si (fun q : Int32 => q = rr ∧ (q = 0 ∨ q = 1))) #[Value.int p0] s 0 0 (fun _ => False) := ⟨_, rfl⟩
  rw [← hQ]
  change W p l e ({ frames := 0, cells := 0, slots := 0, locals := 0 } : Room) s m #[Value.int p0] below meth c s.heap [] 0 0 Q (F0 m 0 ls [])
  unfold F_X8_isDigit at hF
  refine lv_iload_n hx hb dX8_isDigit_0 rfl (lv_at hl 0 rfl) ?_
  refine lv_bipush (v := 48) hx hb dX8_isDigit_1 (by decide) ?_
  refine lv_icmp_lt (tgt := 16) hx hb dX8_isDigit_3 (by decide) (fun c_1 => ?_) (fun c_1 => ?_)
  ·
    replace hF := ip c_1 hF
    refine lv_iconst (v := 0) hx hb dX8_isDigit_16 (by decide) ?_
    rw [hQ]
    obtain e9_0 := inj1 hF
    exact W.zret (v := (0 : Int32)) hx hb hr rfl (fun tt ht hW => ⟨_, rfl, ⟨e9_0, Or.inl rfl⟩, ht⟩) (fun _ h => by cases h) dX8_isDigit_17
  ·
    replace hF := inn c_1 hF
    refine lv_iload_n hx hb dX8_isDigit_6 rfl (lv_at hl 0 rfl) ?_
    refine lv_bipush (v := 57) hx hb dX8_isDigit_7 (by decide) ?_
    refine lv_icmp_gt (tgt := 16) hx hb dX8_isDigit_9 (by decide) (fun c_2 => ?_) (fun c_2 => ?_)
    ·
      replace hF := ip c_2 hF
      refine lv_iconst (v := 0) hx hb dX8_isDigit_16 (by decide) ?_
      rw [hQ]
      obtain e9_0 := inj1 hF
      exact W.zret (v := (0 : Int32)) hx hb hr rfl (fun tt ht hW => ⟨_, rfl, ⟨e9_0, Or.inl rfl⟩, ht⟩) (fun _ h => by cases h) dX8_isDigit_17
    ·
      replace hF := inn c_2 hF
      refine lv_iconst (v := 1) hx hb dX8_isDigit_12 (by decide) ?_
      refine lv_goto (tgt := 17) hx hb dX8_isDigit_13 (by decide) ?_
      rw [hQ]
      obtain e9_0 := inj1 hF
      exact W.zret (v := (1 : Int32)) hx hb hr rfl (fun tt ht hW => ⟨_, rfl, ⟨e9_0, Or.inr rfl⟩, ht⟩) (fun _ h => by cases h) dX8_isDigit_17
