-- 86.ctor
section
noncomputable def blX6_init_0 : List Nat := [42, 183, 0, 3, 42, 17, 1, 64, 188, 8, 181, 0, 11, 42, 3, 181, 0, 15, 177]
set_option maxRecDepth 100000 in
theorem bcX6_init_0 : ((cX6_init.data.toList.drop 0).take blX6_init_0.length).map UInt8.toNat = blX6_init_0 := by decide +kernel
noncomputable def blX3_init_0 : List Nat := [42, 183, 0, 3, 42, 6, 188, 10, 181, 0, 9, 42, 16, 16, 188, 10, 181, 0, 15, 42, 16, 48, 188, 10, 181, 0, 18, 42, 3, 181, 0, 21, 42, 3, 181, 0, 25, 42, 3, 181, 0, 28, 42, 3, 181, 0, 31, 42, 3, 181, 0]
set_option maxRecDepth 100000 in
theorem bcX3_init_0 : ((cX3_init.data.toList.drop 0).take blX3_init_0.length).map UInt8.toNat = blX3_init_0 := by decide +kernel
noncomputable def blX3_init_1 : List Nat := [3, 181, 0, 34, 42, 3, 181, 0, 37, 42, 2, 181, 0, 40, 42, 43, 181, 0, 43, 177]
set_option maxRecDepth 100000 in
theorem bcX3_init_1 : ((cX3_init.data.toList.drop 48).take blX3_init_1.length).map UInt8.toNat = blX3_init_1 := by decide +kernel
noncomputable def blX4_init_0 : List Nat := [42, 183, 0, 3, 42, 17, 0, 192, 188, 10, 181, 0, 11, 42, 7, 188, 10, 181, 0, 15, 42, 3, 181, 0, 18, 177]
set_option maxRecDepth 100000 in
theorem bcX4_init_0 : ((cX4_init.data.toList.drop 0).take blX4_init_0.length).map UInt8.toNat = blX4_init_0 := by decide +kernel
noncomputable def blX5_init_0 : List Nat := [42, 183, 0, 5, 42, 16, 81, 188, 10, 181, 0, 11, 42, 16, 8, 188, 10, 181, 0, 15, 42, 3, 181, 0, 18, 42, 3, 181, 0, 22, 42, 5, 188, 10, 181, 0, 25, 42, 5, 188, 10, 181, 0, 28, 177]
set_option maxRecDepth 100000 in
theorem bcX5_init_0 : ((cX5_init.data.toList.drop 0).take blX5_init_0.length).map UInt8.toNat = blX5_init_0 := by decide +kernel
noncomputable def blX0_init_0 : List Nat := [42, 183, 0, 3, 42, 17, 1, 44, 188, 10, 181, 0, 11, 177]
set_option maxRecDepth 100000 in
theorem bcX0_init_0 : ((cX0_init.data.toList.drop 0).take blX0_init_0.length).map UInt8.toNat = blX0_init_0 := by decide +kernel
noncomputable def blX2_init_0 : List Nat := [42, 183, 0, 3, 42, 17, 12, 168, 188, 10, 181, 0, 11, 42, 3, 181, 0, 17, 42, 3, 181, 0, 21, 177]
set_option maxRecDepth 100000 in
theorem bcX2_init_0 : ((cX2_init.data.toList.drop 0).take blX2_init_0.length).map UInt8.toNat = blX2_init_0 := by decide +kernel
noncomputable def blX1_init_0 : List Nat := [42, 183, 0, 3, 42, 9, 181, 0, 9, 42, 4, 181, 0, 15, 42, 2, 181, 0, 19, 42, 3, 181, 0, 22, 42, 3, 181, 0, 25, 177]
set_option maxRecDepth 100000 in
theorem bcX1_init_0 : ((cX1_init.data.toList.drop 0).take blX1_init_0.length).map UInt8.toNat = blX1_init_0 := by decide +kernel
noncomputable def blX8_init_0 : List Nat := [42, 183, 0, 3, 42, 17, 1, 64, 188, 10, 181, 0, 9, 42, 16, 16, 188, 10, 181, 0, 13, 42, 17, 0, 240, 188, 10, 181, 0, 16, 42, 8, 188, 10, 181, 0, 19, 42, 17, 1, 9, 188, 10, 181, 0, 22, 42, 6, 188, 10, 181]
set_option maxRecDepth 100000 in
theorem bcX8_init_0 : ((cX8_init.data.toList.drop 0).take blX8_init_0.length).map UInt8.toNat = blX8_init_0 := by decide +kernel
noncomputable def blX8_init_1 : List Nat := [188, 10, 181, 0, 25, 42, 16, 8, 188, 10, 181, 0, 28, 42, 16, 8, 188, 10, 181, 0, 31, 42, 16, 8, 188, 10, 181, 0, 34, 42, 17, 41, 104, 188, 10, 181, 0, 37, 42, 16, 84, 188, 10, 181, 0, 40, 42, 16, 40, 188, 10]
set_option maxRecDepth 100000 in
theorem bcX8_init_1 : ((cX8_init.data.toList.drop 48).take blX8_init_1.length).map UInt8.toNat = blX8_init_1 := by decide +kernel
noncomputable def blX8_init_2 : List Nat := [40, 188, 10, 181, 0, 43, 42, 17, 1, 9, 188, 10, 181, 0, 46, 177]
set_option maxRecDepth 100000 in
theorem bcX8_init_2 : ((cX8_init.data.toList.drop 96).take blX8_init_2.length).map UInt8.toNat = blX8_init_2 := by decide +kernel
noncomputable def blX7_init_0 : List Nat := [42, 183, 0, 1, 42, 187, 0, 7, 89, 183, 0, 9, 181, 0, 10, 42, 187, 0, 16, 89, 42, 180, 0, 10, 183, 0, 18, 181, 0, 21, 42, 187, 0, 25, 89, 183, 0, 27, 181, 0, 28, 42, 187, 0, 32, 89, 183, 0, 34, 181, 0]
set_option maxRecDepth 100000 in
theorem bcX7_init_0 : ((cX7_init.data.toList.drop 0).take blX7_init_0.length).map UInt8.toNat = blX7_init_0 := by decide +kernel
noncomputable def blX7_init_1 : List Nat := [34, 181, 0, 35, 42, 187, 0, 32, 89, 183, 0, 34, 181, 0, 39, 42, 187, 0, 32, 89, 183, 0, 34, 181, 0, 42, 42, 187, 0, 45, 89, 183, 0, 47, 181, 0, 48, 42, 187, 0, 45, 89, 183, 0, 47, 181, 0, 52, 42, 187, 0]
set_option maxRecDepth 100000 in
theorem bcX7_init_1 : ((cX7_init.data.toList.drop 48).take blX7_init_1.length).map UInt8.toNat = blX7_init_1 := by decide +kernel
noncomputable def blX7_init_2 : List Nat := [42, 187, 0, 55, 89, 183, 0, 57, 181, 0, 58, 42, 187, 0, 62, 89, 183, 0, 64, 181, 0, 65, 42, 6, 188, 10, 181, 0, 69, 42, 3, 181, 0, 73, 177]
set_option maxRecDepth 100000 in
theorem bcX7_init_2 : ((cX7_init.data.toList.drop 96).take blX7_init_2.length).map UInt8.toNat = blX7_init_2 := by decide +kernel
def dl_X6_init_86_ctor_0 : List (Nat × Instr × Nat) := [(8, .newarray .byte, 2)]
set_option maxRecDepth 100000 in
theorem dall_X6_init_86_ctor_0 : dchk cX6_init dl_X6_init_86_ctor_0 = true := by decide +kernel
theorem dX6_init_8 : decode cX6_init 8 = .ok (.newarray .byte, 2) := dchk_at dall_X6_init_86_ctor_0 (k := 0) rfl
def dl_X3_init_86_ctor_0 : List (Nat × Instr × Nat) := [(6, .newarray .int, 2), (14, .newarray .int, 2), (22, .newarray .int, 2)]
set_option maxRecDepth 100000 in
theorem dall_X3_init_86_ctor_0 : dchk cX3_init dl_X3_init_86_ctor_0 = true := by decide +kernel
theorem dX3_init_6 : decode cX3_init 6 = .ok (.newarray .int, 2) := dchk_at dall_X3_init_86_ctor_0 (k := 0) rfl
theorem dX3_init_14 : decode cX3_init 14 = .ok (.newarray .int, 2) := dchk_at dall_X3_init_86_ctor_0 (k := 1) rfl
theorem dX3_init_22 : decode cX3_init 22 = .ok (.newarray .int, 2) := dchk_at dall_X3_init_86_ctor_0 (k := 2) rfl
def dl_X4_init_86_ctor_0 : List (Nat × Instr × Nat) := [(8, .newarray .int, 2), (15, .newarray .int, 2)]
set_option maxRecDepth 100000 in
theorem dall_X4_init_86_ctor_0 : dchk cX4_init dl_X4_init_86_ctor_0 = true := by decide +kernel
theorem dX4_init_8 : decode cX4_init 8 = .ok (.newarray .int, 2) := dchk_at dall_X4_init_86_ctor_0 (k := 0) rfl
theorem dX4_init_15 : decode cX4_init 15 = .ok (.newarray .int, 2) := dchk_at dall_X4_init_86_ctor_0 (k := 1) rfl
def dl_X5_init_86_ctor_0 : List (Nat × Instr × Nat) := [(7, .newarray .int, 2), (15, .newarray .int, 2), (32, .newarray .int, 2), (39, .newarray .int, 2)]
set_option maxRecDepth 100000 in
theorem dall_X5_init_86_ctor_0 : dchk cX5_init dl_X5_init_86_ctor_0 = true := by decide +kernel
theorem dX5_init_7 : decode cX5_init 7 = .ok (.newarray .int, 2) := dchk_at dall_X5_init_86_ctor_0 (k := 0) rfl
theorem dX5_init_15 : decode cX5_init 15 = .ok (.newarray .int, 2) := dchk_at dall_X5_init_86_ctor_0 (k := 1) rfl
theorem dX5_init_32 : decode cX5_init 32 = .ok (.newarray .int, 2) := dchk_at dall_X5_init_86_ctor_0 (k := 2) rfl
theorem dX5_init_39 : decode cX5_init 39 = .ok (.newarray .int, 2) := dchk_at dall_X5_init_86_ctor_0 (k := 3) rfl
def dl_X0_init_86_ctor_0 : List (Nat × Instr × Nat) := [(8, .newarray .int, 2)]
set_option maxRecDepth 100000 in
theorem dall_X0_init_86_ctor_0 : dchk cX0_init dl_X0_init_86_ctor_0 = true := by decide +kernel
theorem dX0_init_8 : decode cX0_init 8 = .ok (.newarray .int, 2) := dchk_at dall_X0_init_86_ctor_0 (k := 0) rfl
def dl_X2_init_86_ctor_0 : List (Nat × Instr × Nat) := [(8, .newarray .int, 2)]
set_option maxRecDepth 100000 in
theorem dall_X2_init_86_ctor_0 : dchk cX2_init dl_X2_init_86_ctor_0 = true := by decide +kernel
theorem dX2_init_8 : decode cX2_init 8 = .ok (.newarray .int, 2) := dchk_at dall_X2_init_86_ctor_0 (k := 0) rfl
def dl_X8_init_86_ctor_0 : List (Nat × Instr × Nat) := [(8, .newarray .int, 2), (16, .newarray .int, 2), (25, .newarray .int, 2), (32, .newarray .int, 2), (41, .newarray .int, 2), (48, .newarray .int, 2), (56, .newarray .int, 2), (64, .newarray .int, 2), (72, .newarray .int, 2), (81, .newarray .int, 2), (89, .newarray .int, 2), (97, .newarray .int, 2), (106, .newarray .int, 2)]
set_option maxRecDepth 100000 in
theorem dall_X8_init_86_ctor_0 : dchk cX8_init dl_X8_init_86_ctor_0 = true := by decide +kernel
theorem dX8_init_8 : decode cX8_init 8 = .ok (.newarray .int, 2) := dchk_at dall_X8_init_86_ctor_0 (k := 0) rfl
theorem dX8_init_16 : decode cX8_init 16 = .ok (.newarray .int, 2) := dchk_at dall_X8_init_86_ctor_0 (k := 1) rfl
theorem dX8_init_25 : decode cX8_init 25 = .ok (.newarray .int, 2) := dchk_at dall_X8_init_86_ctor_0 (k := 2) rfl
theorem dX8_init_32 : decode cX8_init 32 = .ok (.newarray .int, 2) := dchk_at dall_X8_init_86_ctor_0 (k := 3) rfl
theorem dX8_init_41 : decode cX8_init 41 = .ok (.newarray .int, 2) := dchk_at dall_X8_init_86_ctor_0 (k := 4) rfl
theorem dX8_init_48 : decode cX8_init 48 = .ok (.newarray .int, 2) := dchk_at dall_X8_init_86_ctor_0 (k := 5) rfl
theorem dX8_init_56 : decode cX8_init 56 = .ok (.newarray .int, 2) := dchk_at dall_X8_init_86_ctor_0 (k := 6) rfl
theorem dX8_init_64 : decode cX8_init 64 = .ok (.newarray .int, 2) := dchk_at dall_X8_init_86_ctor_0 (k := 7) rfl
theorem dX8_init_72 : decode cX8_init 72 = .ok (.newarray .int, 2) := dchk_at dall_X8_init_86_ctor_0 (k := 8) rfl
theorem dX8_init_81 : decode cX8_init 81 = .ok (.newarray .int, 2) := dchk_at dall_X8_init_86_ctor_0 (k := 9) rfl
theorem dX8_init_89 : decode cX8_init 89 = .ok (.newarray .int, 2) := dchk_at dall_X8_init_86_ctor_0 (k := 10) rfl
theorem dX8_init_97 : decode cX8_init 97 = .ok (.newarray .int, 2) := dchk_at dall_X8_init_86_ctor_0 (k := 11) rfl
theorem dX8_init_106 : decode cX8_init 106 = .ok (.newarray .int, 2) := dchk_at dall_X8_init_86_ctor_0 (k := 12) rfl
def dl_X7_init_86_ctor_0 : List (Nat × Instr × Nat) := [(120, .newarray .int, 2)]
set_option maxRecDepth 100000 in
theorem dall_X7_init_86_ctor_0 : dchk cX7_init dl_X7_init_86_ctor_0 = true := by decide +kernel
theorem dX7_init_120 : decode cX7_init 120 = .ok (.newarray .int, 2) := dchk_at dall_X7_init_86_ctor_0 (k := 0) rfl
abbrev wLX (E : EE) (xa_ xa_tape xa_tape_bytes xa_reader xa_reader_rules xa_reader_places xa_reader_steps xa_scripts xa_scripts_steps xa_scripts_counts xa_now xa_now_row xa_now_partners xa_now_share xa_now_leftOver xa_trial xa_trial_row xa_trial_partners xa_trial_share xa_trial_leftOver xa_kept xa_kept_row xa_kept_partners xa_kept_share xa_kept_leftOver xa_book xa_book_lines xa_keptBook xa_keptBook_lines xa_history xa_history_rows xa_draws xa_refused : Nat) (xc_hasImage : Int32) (xc_tape_length : Int32) (xc_tape_bytes : Nat → Int32) (xc_reader_siteCount : Int32) (xc_reader_stepCount : Int32) (xc_reader_seenRules : Int32) (xc_reader_at : Int32) (xc_reader_wordStart : Int32) (xc_reader_number : Int32) (xc_reader_failed : Int32) (xc_reader_rules : Nat → Int32) (xc_reader_places : Nat → Int32) (xc_reader_steps : Nat → Int32) (xc_scripts_held : Int32) (xc_scripts_steps : Nat → Int32) (xc_scripts_counts : Nat → Int32) (xc_now_askedCount : Int32) (xc_now_outcome : Int32) (xc_now_row : Nat → Int32) (xc_now_partners : Nat → Int32) (xc_now_share : Nat → Int32) (xc_now_leftOver : Nat → Int32) (xc_trial_askedCount : Int32) (xc_trial_outcome : Int32) (xc_trial_row : Nat → Int32) (xc_trial_partners : Nat → Int32) (xc_trial_share : Nat → Int32) (xc_trial_leftOver : Nat → Int32) (xc_kept_askedCount : Int32) (xc_kept_outcome : Int32) (xc_kept_row : Nat → Int32) (xc_kept_partners : Nat → Int32) (xc_kept_share : Nat → Int32) (xc_kept_leftOver : Nat → Int32) (xc_book_lines : Nat → Int32) (xc_keptBook_lines : Nat → Int32) (xc_history_next : Int32) (xc_history_held : Int32) (xc_history_rows : Nat → Int32) (xc_draws_x : Int64) (xc_draws_sort : Int32) (xc_draws_a : Int32) (xc_draws_b : Int32) (xc_draws_c : Int32) (xc_refused : Nat → Int32) : va_W := [k_X7 xa_ xa_tape xa_reader xa_scripts xa_now xa_trial xa_kept xa_book xa_keptBook xa_history xa_draws xa_refused xc_hasImage, k_X6 xa_tape xa_tape_bytes xc_tape_length, k_B E xa_tape_bytes 320 xc_tape_bytes, k_X3 xa_reader xa_tape xa_reader_rules xa_reader_places xa_reader_steps xc_reader_siteCount xc_reader_stepCount xc_reader_seenRules xc_reader_at xc_reader_wordStart xc_reader_number xc_reader_failed, k_I E xa_reader_rules 3 xc_reader_rules, k_I E xa_reader_places 16 xc_reader_places, k_I E xa_reader_steps 48 xc_reader_steps, k_X4 xa_scripts xa_scripts_steps xa_scripts_counts xc_scripts_held, k_I E xa_scripts_steps 192 xc_scripts_steps, k_I E xa_scripts_counts 4 xc_scripts_counts, k_X5 xa_now xa_now_row xa_now_partners xc_now_askedCount xc_now_outcome xa_now_share xa_now_leftOver, k_I E xa_now_row 81 xc_now_row, k_I E xa_now_partners 8 xc_now_partners, k_I E xa_now_share 2 xc_now_share, k_I E xa_now_leftOver 2 xc_now_leftOver, k_X5 xa_trial xa_trial_row xa_trial_partners xc_trial_askedCount xc_trial_outcome xa_trial_share xa_trial_leftOver, k_I E xa_trial_row 81 xc_trial_row, k_I E xa_trial_partners 8 xc_trial_partners, k_I E xa_trial_share 2 xc_trial_share, k_I E xa_trial_leftOver 2 xc_trial_leftOver, k_X5 xa_kept xa_kept_row xa_kept_partners xc_kept_askedCount xc_kept_outcome xa_kept_share xa_kept_leftOver, k_I E xa_kept_row 81 xc_kept_row, k_I E xa_kept_partners 8 xc_kept_partners, k_I E xa_kept_share 2 xc_kept_share, k_I E xa_kept_leftOver 2 xc_kept_leftOver, k_X0 xa_book xa_book_lines, k_I E xa_book_lines 300 xc_book_lines, k_X0 xa_keptBook xa_keptBook_lines, k_I E xa_keptBook_lines 300 xc_keptBook_lines, k_X2 xa_history xa_history_rows xc_history_next xc_history_held, k_I E xa_history_rows 3240 xc_history_rows, k_X1 xa_draws xc_draws_x xc_draws_sort xc_draws_a xc_draws_b xc_draws_c, k_I E xa_refused 3 xc_refused]
abbrev wLM (E : EE) (ma_ ma_tape ma_readPlace ma_script ma_scriptLong ma_now ma_refused ma_shareX ma_shareY ma_askedRow ma_kept ma_aside ma_spelled ma_image : Nat) (mc_thrown : Int32) (mc_taped : Int32) (mc_at : Int32) (mc_part : Int32) (mc_partFrom : Int32) (mc_partNumber : Int32) (mc_wrong : Int32) (mc_partWord : Int64) (mc_readLaw : Int32) (mc_readBound : Int32) (mc_readGoal : Int32) (mc_readSites : Int32) (mc_scripts : Int32) (mc_sites : Int32) (mc_asked : Int32) (mc_outcome : Int32) (mc_took : Int32) (mc_acts : Int32) (mc_drawn : Int64) (mc_racer : Int32) (mc_raced : Int32) (mc_spelledMany : Int32) (mc_hasImage : Int32) (mc_tape : Nat → Int32) (mc_readPlace : Nat → Int32) (mc_script : Nat → Int32) (mc_scriptLong : Nat → Int32) (mc_now : Nat → Int32) (mc_refused : Nat → Int32) (mc_shareX : Nat → Int32) (mc_shareY : Nat → Int32) (mc_askedRow : Nat → Int32) (mc_kept : Nat → Int32) (mc_aside : Nat → Int32) (mc_spelled : Nat → Int32) (mc_image : Nat → Int32) : va_W := [k_X8 ma_ mc_thrown ma_tape mc_taped mc_at mc_part mc_partFrom mc_partNumber mc_wrong mc_partWord mc_readLaw mc_readBound mc_readGoal mc_readSites ma_readPlace ma_script ma_scriptLong mc_scripts ma_now ma_refused mc_sites ma_shareX ma_shareY mc_asked mc_outcome ma_askedRow mc_took ma_kept mc_acts mc_drawn ma_aside mc_racer mc_raced ma_spelled mc_spelledMany ma_image mc_hasImage, k_I E ma_tape 320 mc_tape, k_I E ma_readPlace 16 mc_readPlace, k_I E ma_script 240 mc_script, k_I E ma_scriptLong 5 mc_scriptLong, k_I E ma_now 265 mc_now, k_I E ma_refused 3 mc_refused, k_I E ma_shareX 8 mc_shareX, k_I E ma_shareY 8 mc_shareY, k_I E ma_askedRow 8 mc_askedRow, k_I E ma_kept 10600 mc_kept, k_I E ma_aside 84 mc_aside, k_I E ma_spelled 40 mc_spelled, k_I E ma_image 265 mc_image]
def v_k_Tape : List Cond := List.cons (.code yX6_init cX6_init 1 none) (HAppend.hAppend (α := List Cond) (β := List Cond) (γ := List Cond) [.methodLink RX6 3 objectInit, .instanceMethod objectInit, .code objectInit ⟨#[0xb1]⟩ 1 none, .arrayClass .byte, .fieldLink RX6 11 "HushWatch$Tape" "bytes" "[B", .fieldLink RX6 15 "HushWatch$Tape" "length" "I"] (HAppend.hAppend (α := List Cond) (β := List Cond) (γ := List Cond) wsX60 []))
theorem gw_k_Tape : v_k_Tape.all goodWord = true := gw_c2 (by decide +kernel) (gw_ap gw_wsX60 gw_nil)
theorem i_k_Tape_X6 : ∀ w ∈ wsX60, w ∈ v_k_Tape := fun _ h => List.mem_cons_of_mem _ (List.mem_append_right _ (List.mem_append_left _ h))
set_option maxHeartbeats 4000000 in
set_option maxRecDepth 100000 in
theorem k_Tape (l : Launch) (E : EE) (sz : Nat) {av : Nat}   : Met l yX6_init v_k_Tape (({ frames := 1, cells := 1, slots := 320, locals := 20 } : Room)) (va_Pc [.ref av] (pW E sz [(av, .inr (7, [.null, .int (0 : Int32)]))])) (va_Qv (fun (_u : Nat → Nat) => True) (fun (u : Nat → Nat) tt => va_P E.1 vwCl [k_X6 av (u 0) (0 : Int32), k_B E (u 0) 320 (fun _ => 0)] tt.heap ∧ va_D (va_A [(av, .inr (7, [.null, .int (0 : Int32)]))] sz) [k_X6 av (u 0) (0 : Int32), k_B E (u 0) 320 (fun _ => 0)]) (va_A [(av, .inr (7, [.null, .int (0 : Int32)]))] sz)) 1 320 (va_A [(av, .inr (7, [.null, .int (0 : Int32)]))] sz) := by
  refine Met.ofW (cc := cX6_init) (maxL := 1) (ret := none) (by decide) rfl ?_
  intro p e s m args below meth c s₁ B hml hv
  obtain ⟨rfl, hsz, ⟨hK, hN⟩, hP, hD0⟩ := hv
  have hx := B.exec
  have hb := B.bytes
  have hr := B.returns
  have hts := atoms_spec (ws := v_k_Tape) B.pre
  have hown : s.vm.findClass RX6 = some m.cls := own_of (by decide +kernel) (findClass_of_methodNamed B.named)
  have hlocks : meth.locks = false := B.notSynchronized
  have hin : meth.name = "<init>" := (name_of_methodNamed B.named B.method).1
  subst hsz
  have hD := hD0.self (sz := s.heap.size)
  generalize hAe : va_A [(av, .inr (7, [.null, .int (0 : Int32)]))] s.heap.size = A at hD ⊢
  have hA : ∀ q : Nat, s.heap.size ≤ q → A q := fun q h => by rw [← hAe]; exact Or.inr h
  have hS : va_S A s.heap s.heap [] := va_S.rf
  have hl := lv_entry ([.ref av]) (n := 1) (Nat.le_of_ble_eq_true rfl)
  rw [lg_entry_eq]
  generalize (lg_sl ([.ref av]) ++ List.replicate (1 - (lg_sl ([.ref av])).length) Slot.unset).toArray = ls at hl ⊢
  have hl : lv_has ls 1 [(0, .ref av)] := hl
  obtain ⟨Q, hQ⟩ : ∃ Q : State → Prop, Q = MQ below (va_Qv (fun (_u : Nat → Nat) => True) (fun (u : Nat → Nat) tt => va_P E.1 vwCl [k_X6 av (u 0) (0 : Int32), k_B E (u 0) 320 (fun _ => 0)] tt.heap ∧ va_D A [k_X6 av (u 0) (0 : Int32), k_B E (u 0) 320 (fun _ => 0)]) A) #[Value.ref av] s 1 320 A := ⟨_, rfl⟩
  rw [← hQ]
  change W p l e ({ frames := 1, cells := 1, slots := 320, locals := 20 } : Room) s m #[Value.ref av] below meth c s.heap [] 0 0 Q (F0 m 0 ls [])
  suffices hh9 : ∀ (H : Heap) (locs : List Loc), va_P E.1 vwCl [(av, .inr (7, [.null, .int (0 : Int32)]))] H → va_D A [(av, .inr (7, [.null, .int (0 : Int32)]))] → va_S A s.heap H locs → W p l e ({ frames := 1, cells := 1, slots := 320, locals := 20 } : Room) s m #[Value.ref av] below meth c H locs 0 0 Q (F0 m 0 ls []) from hh9 s.heap [] hP hD hS
  clear hP hD hS
  intro H locs hP hD hS
  have h9 := fixPD (ws' := [(av, .inr (7, [.null, .int (0 : Int32)]))]) hP hD rfl
  clear hP hD
  obtain ⟨hP, hD⟩ := h9
  refine lv_aload_n hx hb (dq_42 0 bcX6_init_0 (j := 0) rfl rfl) rfl (lv_at hl 0 rfl) ?_
  refine W.objInit hx hb hown (hts (.methodLink RX6 3 objectInit) (List.mem_of_getElem? (i := 1) rfl)) (hts (.instanceMethod objectInit) (List.mem_of_getElem? (i := 2) rfl)) (hts (.code objectInit ⟨#[0xb1]⟩ 1 none) (List.mem_of_getElem? (i := 3) rfl)) rfl (by rw [hml]; exact hl.1) rfl (dq_183 0 bcX6_init_0 (j := 1) (i := 3) rfl rfl rfl) (Nat.le_of_ble_eq_true rfl) (Nat.le_of_ble_eq_true rfl) ?_
  refine W.eq (g2 := F0 m 4 ls []) rfl ?_
  refine lv_aload_n hx hb (dq_42 0 bcX6_init_0 (j := 4) rfl rfl) rfl (lv_at hl 0 rfl) ?_
  refine lv_sipush (v := 320) hx hb (dq_17 0 bcX6_init_0 (j := 5) (i := 320) rfl rfl rfl) (by decide) ?_
  refine nw_arr (atype := .byte) (ty := .byte) (a0 := (320, .inl (fun _ => 0))) hx hb (hts (.arrayClass .byte) (List.mem_of_getElem? (i := 4) rfl)) rfl hK hP hD hS hA 1 rfl (fun _ _ a b => Option.some.inj (a.symm.trans b)) (fun _ => rfl) (by decide) rfl (Nat.le_of_ble_eq_true rfl) (Nat.le_of_ble_eq_true rfl) (Nat.le_of_ble_eq_true rfl) dX6_init_8 (fun q_1 H hP hD hS => ?_)
  have h9 := fixPD (ws' := [(av, .inr (7, [.null, .int (0 : Int32)])), k_B E q_1 320 (fun _ => 0)]) hP hD rfl
  clear hP hD
  obtain ⟨hP, hD⟩ := h9
  refine W.widen (k := 1) (n := 320) (Nat.le_of_ble_eq_true rfl) (Nat.le_of_ble_eq_true rfl) ?_
  refine va_putF (D := E.1) (ci := 7) (v := .ref q_1) (ty := .array .byte) (C := RX6) (T := TX6) (N := 2) hx hb hts i_k_Tape_X6 tyX6 tyX6_ok nmX6 hown hK hP hD hS 0 rfl rfl 0 (by decide) (hts (.fieldLink RX6 11 "HushWatch$Tape" "bytes" "[B") (List.mem_of_getElem? (i := 5) rfl)) (fun _ h9 => h9) rfl hin rfl (by decide +kernel) rfl rfl (Nat.le_of_ble_eq_true rfl) (dq_181 0 bcX6_init_0 (j := 10) (i := 11) rfl rfl rfl) (fun H locs hP hD hS => ?_)
  have h9 := fixPD (ws' := [k_X6 av q_1 (0 : Int32), k_B E q_1 320 (fun _ => 0)]) hP hD rfl
  clear hP hD
  obtain ⟨hP, hD⟩ := h9
  refine lv_aload_n hx hb (dq_42 0 bcX6_init_0 (j := 13) rfl rfl) rfl (lv_at hl 0 rfl) ?_
  refine lv_iconst (v := 0) hx hb (dq_3 0 bcX6_init_0 (j := 14) rfl rfl) (by decide) ?_
  refine va_put (D := E.1) (ci := 7) (v := .int (0 : Int32)) (ty := .int) (C := RX6) (T := TX6) (N := 2) hx hb hts i_k_Tape_X6 tyX6 tyX6_ok nmX6 hown hK hP hD hS 0 rfl rfl 1 (by decide) (hts (.fieldLink RX6 15 "HushWatch$Tape" "length" "I") (List.mem_of_getElem? (i := 6) rfl)) (fun _ h9 => h9) rfl (by decide +kernel) rfl rfl (Nat.le_of_ble_eq_true rfl) (dq_181 0 bcX6_init_0 (j := 15) (i := 15) rfl rfl rfl) (fun H locs hP hD hS => ?_)
  have h9 := fixPD (ws' := [k_X6 av q_1 (0 : Int32), k_B E q_1 320 (fun _ => 0)]) hP hD rfl
  clear hP hD
  obtain ⟨hP, hD⟩ := h9
  have hP9 := hP.sub (ws' := [k_X6 av q_1 (0 : Int32), k_B E q_1 320 (fun _ => 0)]) [0, 1] rfl
  have hD9 := hD.sub (ws' := [k_X6 av q_1 (0 : Int32), k_B E q_1 320 (fun _ => 0)]) [0, 1] (by decide) rfl
  rw [hQ]
  exact W.vret hx hb hr (fun tt ht hW => ⟨⟨fun i => ([q_1] : List Nat).getD i 0, rfl, trivial, by rw [ht]; exact hP9, hD9⟩, hS.F ht⟩) hS.2.2 (dq_177 0 bcX6_init_0 (j := 18) rfl rfl)

def v_k_Reader : List Cond := List.cons (.code yX3_init cX3_init 2 none) (HAppend.hAppend (α := List Cond) (β := List Cond) (γ := List Cond) [.methodLink RX3 3 objectInit, .instanceMethod objectInit, .code objectInit ⟨#[0xb1]⟩ 1 none, .arrayClass .int, .fieldLink RX3 9 "HushWatch$Reader" "rules" "[I", .fieldLink RX3 15 "HushWatch$Reader" "places" "[I", .fieldLink RX3 18 "HushWatch$Reader" "steps" "[I", .fieldLink RX3 21 "HushWatch$Reader" "siteCount" "I", .fieldLink RX3 25 "HushWatch$Reader" "stepCount" "I", .fieldLink RX3 28 "HushWatch$Reader" "seenRules" "I", .fieldLink RX3 31 "HushWatch$Reader" "at" "I", .fieldLink RX3 34 "HushWatch$Reader" "wordStart" "I", .fieldLink RX3 37 "HushWatch$Reader" "number" "I", .fieldLink RX3 40 "HushWatch$Reader" "failed" "I", .fieldLink RX3 43 "HushWatch$Reader" "tape" "LHushWatch$Tape;"] (HAppend.hAppend (α := List Cond) (β := List Cond) (γ := List Cond) wsX30 []))
theorem gw_k_Reader : v_k_Reader.all goodWord = true := gw_c2 (by decide +kernel) (gw_ap gw_wsX30 gw_nil)
theorem i_k_Reader_X3 : ∀ w ∈ wsX30, w ∈ v_k_Reader := fun _ h => List.mem_cons_of_mem _ (List.mem_append_right _ (List.mem_append_left _ h))
set_option maxHeartbeats 4000000 in
set_option maxRecDepth 100000 in
theorem k_Reader (l : Launch) (E : EE) (sz : Nat) {av : Nat} {tp : Nat}  : Met l yX3_init v_k_Reader (({ frames := 1, cells := 3, slots := 67, locals := 20 } : Room)) (va_Pc [.ref av, .ref tp] (pW E sz [(av, .inr (4, [.null, .null, .null, .null, .int (0 : Int32), .int (0 : Int32), .int (0 : Int32), .int (0 : Int32), .int (0 : Int32), .int (0 : Int32), .int (0 : Int32)]))])) (va_Qv (fun (_u : Nat → Nat) => True) (fun (u : Nat → Nat) tt => va_P E.1 vwCl [k_X3 av tp (u 0) (u 1) (u 2) (0 : Int32) (0 : Int32) (0 : Int32) (0 : Int32) (0 : Int32) (0 : Int32) (-1 : Int32), k_I E (u 0) 3 (fun _ => 0), k_I E (u 1) 16 (fun _ => 0), k_I E (u 2) 48 (fun _ => 0)] tt.heap ∧ va_D (va_A [(av, .inr (4, [.null, .null, .null, .null, .int (0 : Int32), .int (0 : Int32), .int (0 : Int32), .int (0 : Int32), .int (0 : Int32), .int (0 : Int32), .int (0 : Int32)]))] sz) [k_X3 av tp (u 0) (u 1) (u 2) (0 : Int32) (0 : Int32) (0 : Int32) (0 : Int32) (0 : Int32) (0 : Int32) (-1 : Int32), k_I E (u 0) 3 (fun _ => 0), k_I E (u 1) 16 (fun _ => 0), k_I E (u 2) 48 (fun _ => 0)]) (va_A [(av, .inr (4, [.null, .null, .null, .null, .int (0 : Int32), .int (0 : Int32), .int (0 : Int32), .int (0 : Int32), .int (0 : Int32), .int (0 : Int32), .int (0 : Int32)]))] sz)) 3 67 (va_A [(av, .inr (4, [.null, .null, .null, .null, .int (0 : Int32), .int (0 : Int32), .int (0 : Int32), .int (0 : Int32), .int (0 : Int32), .int (0 : Int32), .int (0 : Int32)]))] sz) := by
  refine Met.ofW (cc := cX3_init) (maxL := 2) (ret := none) (by decide) rfl ?_
  intro p e s m args below meth c s₁ B hml hv
  obtain ⟨rfl, hsz, ⟨hK, hN⟩, hP, hD0⟩ := hv
  have hx := B.exec
  have hb := B.bytes
  have hr := B.returns
  have hts := atoms_spec (ws := v_k_Reader) B.pre
  have hown : s.vm.findClass RX3 = some m.cls := own_of (by decide +kernel) (findClass_of_methodNamed B.named)
  have hlocks : meth.locks = false := B.notSynchronized
  have hin : meth.name = "<init>" := (name_of_methodNamed B.named B.method).1
  subst hsz
  have hD := hD0.self (sz := s.heap.size)
  generalize hAe : va_A [(av, .inr (4, [.null, .null, .null, .null, .int (0 : Int32), .int (0 : Int32), .int (0 : Int32), .int (0 : Int32), .int (0 : Int32), .int (0 : Int32), .int (0 : Int32)]))] s.heap.size = A at hD ⊢
  have hA : ∀ q : Nat, s.heap.size ≤ q → A q := fun q h => by rw [← hAe]; exact Or.inr h
  have hS : va_S A s.heap s.heap [] := va_S.rf
  have hl := lv_entry ([.ref av, .ref tp]) (n := 2) (Nat.le_of_ble_eq_true rfl)
  rw [lg_entry_eq]
  generalize (lg_sl ([.ref av, .ref tp]) ++ List.replicate (2 - (lg_sl ([.ref av, .ref tp])).length) Slot.unset).toArray = ls at hl ⊢
  have hl : lv_has ls 2 [(0, .ref av), (1, .ref tp)] := hl
  obtain ⟨Q, hQ⟩ : ∃ Q : State → Prop, Q = MQ below (va_Qv (fun (_u : Nat → Nat) => True) (fun (u : Nat → Nat) tt => va_P E.1 vwCl [k_X3 av tp (u 0) (u 1) (u 2) (0 : Int32) (0 : Int32) (0 : Int32) (0 : Int32) (0 : Int32) (0 : Int32) (-1 : Int32), k_I E (u 0) 3 (fun _ => 0), k_I E (u 1) 16 (fun _ => 0), k_I E (u 2) 48 (fun _ => 0)] tt.heap ∧ va_D A [k_X3 av tp (u 0) (u 1) (u 2) (0 : Int32) (0 : Int32) (0 : Int32) (0 : Int32) (0 : Int32) (0 : Int32) (-1 : Int32), k_I E (u 0) 3 (fun _ => 0), k_I E (u 1) 16 (fun _ => 0), k_I E (u 2) 48 (fun _ => 0)]) A) #[Value.ref av, Value.ref tp] s 3 67 A := ⟨_, rfl⟩
  rw [← hQ]
  change W p l e ({ frames := 1, cells := 3, slots := 67, locals := 20 } : Room) s m #[Value.ref av, Value.ref tp] below meth c s.heap [] 0 0 Q (F0 m 0 ls [])
  suffices hh9 : ∀ (H : Heap) (locs : List Loc), va_P E.1 vwCl [(av, .inr (4, [.null, .null, .null, .null, .int (0 : Int32), .int (0 : Int32), .int (0 : Int32), .int (0 : Int32), .int (0 : Int32), .int (0 : Int32), .int (0 : Int32)]))] H → va_D A [(av, .inr (4, [.null, .null, .null, .null, .int (0 : Int32), .int (0 : Int32), .int (0 : Int32), .int (0 : Int32), .int (0 : Int32), .int (0 : Int32), .int (0 : Int32)]))] → va_S A s.heap H locs → W p l e ({ frames := 1, cells := 3, slots := 67, locals := 20 } : Room) s m #[Value.ref av, Value.ref tp] below meth c H locs 0 0 Q (F0 m 0 ls []) from hh9 s.heap [] hP hD hS
  clear hP hD hS
  intro H locs hP hD hS
  have h9 := fixPD (ws' := [(av, .inr (4, [.null, .null, .null, .null, .int (0 : Int32), .int (0 : Int32), .int (0 : Int32), .int (0 : Int32), .int (0 : Int32), .int (0 : Int32), .int (0 : Int32)]))]) hP hD rfl
  clear hP hD
  obtain ⟨hP, hD⟩ := h9
  refine lv_aload_n hx hb (dq_42 0 bcX3_init_0 (j := 0) rfl rfl) rfl (lv_at hl 0 rfl) ?_
  refine W.objInit hx hb hown (hts (.methodLink RX3 3 objectInit) (List.mem_of_getElem? (i := 1) rfl)) (hts (.instanceMethod objectInit) (List.mem_of_getElem? (i := 2) rfl)) (hts (.code objectInit ⟨#[0xb1]⟩ 1 none) (List.mem_of_getElem? (i := 3) rfl)) rfl (by rw [hml]; exact hl.1) rfl (dq_183 0 bcX3_init_0 (j := 1) (i := 3) rfl rfl rfl) (Nat.le_of_ble_eq_true rfl) (Nat.le_of_ble_eq_true rfl) ?_
  refine W.eq (g2 := F0 m 4 ls []) rfl ?_
  refine lv_aload_n hx hb (dq_42 0 bcX3_init_0 (j := 4) rfl rfl) rfl (lv_at hl 0 rfl) ?_
  refine lv_iconst (v := 3) hx hb (dq_6 0 bcX3_init_0 (j := 5) rfl rfl) (by decide) ?_
  refine nw_arr (atype := .int) (ty := .int) (a0 := (3, .inl (fun _ => 0))) hx hb (hts (.arrayClass .int) (List.mem_of_getElem? (i := 4) rfl)) rfl hK hP hD hS hA 0 rfl (fun _ _ a b => Option.some.inj (a.symm.trans b)) (fun _ => rfl) (by decide) rfl (Nat.le_of_ble_eq_true rfl) (Nat.le_of_ble_eq_true rfl) (Nat.le_of_ble_eq_true rfl) dX3_init_6 (fun q_1 H hP hD hS => ?_)
  have h9 := fixPD (ws' := [(av, .inr (4, [.null, .null, .null, .null, .int (0 : Int32), .int (0 : Int32), .int (0 : Int32), .int (0 : Int32), .int (0 : Int32), .int (0 : Int32), .int (0 : Int32)])), k_I E q_1 3 (fun _ => 0)]) hP hD rfl
  clear hP hD
  obtain ⟨hP, hD⟩ := h9
  refine W.widen (k := 1) (n := 3) (Nat.le_of_ble_eq_true rfl) (Nat.le_of_ble_eq_true rfl) ?_
  refine va_putF (D := E.1) (ci := 4) (v := .ref q_1) (ty := .array .int) (C := RX3) (T := TX3) (N := 11) hx hb hts i_k_Reader_X3 tyX3 tyX3_ok nmX3 hown hK hP hD hS 0 rfl rfl 1 (by decide) (hts (.fieldLink RX3 9 "HushWatch$Reader" "rules" "[I") (List.mem_of_getElem? (i := 5) rfl)) (fun _ h9 => h9) rfl hin rfl (by decide +kernel) rfl rfl (Nat.le_of_ble_eq_true rfl) (dq_181 0 bcX3_init_0 (j := 8) (i := 9) rfl rfl rfl) (fun H locs hP hD hS => ?_)
  have h9 := fixPD (ws' := [(av, .inr (4, [.null, .ref q_1, .null, .null, .int (0 : Int32), .int (0 : Int32), .int (0 : Int32), .int (0 : Int32), .int (0 : Int32), .int (0 : Int32), .int (0 : Int32)])), k_I E q_1 3 (fun _ => 0)]) hP hD rfl
  clear hP hD
  obtain ⟨hP, hD⟩ := h9
  refine lv_aload_n hx hb (dq_42 0 bcX3_init_0 (j := 11) rfl rfl) rfl (lv_at hl 0 rfl) ?_
  refine lv_bipush (v := 16) hx hb (dq_16 0 bcX3_init_0 (j := 12) (i := 16) rfl rfl rfl) (by decide) ?_
  refine nw_arr (atype := .int) (ty := .int) (a0 := (16, .inl (fun _ => 0))) hx hb (hts (.arrayClass .int) (List.mem_of_getElem? (i := 4) rfl)) rfl hK hP hD hS hA 0 rfl (fun _ _ a b => Option.some.inj (a.symm.trans b)) (fun _ => rfl) (by decide) rfl (Nat.le_of_ble_eq_true rfl) (Nat.le_of_ble_eq_true rfl) (Nat.le_of_ble_eq_true rfl) dX3_init_14 (fun q_2 H hP hD hS => ?_)
  have h9 := fixPD (ws' := [(av, .inr (4, [.null, .ref q_1, .null, .null, .int (0 : Int32), .int (0 : Int32), .int (0 : Int32), .int (0 : Int32), .int (0 : Int32), .int (0 : Int32), .int (0 : Int32)])), k_I E q_1 3 (fun _ => 0), k_I E q_2 16 (fun _ => 0)]) hP hD rfl
  clear hP hD
  obtain ⟨hP, hD⟩ := h9
  refine W.widen (k := 2) (n := 19) (Nat.le_of_ble_eq_true rfl) (Nat.le_of_ble_eq_true rfl) ?_
  refine va_putF (D := E.1) (ci := 4) (v := .ref q_2) (ty := .array .int) (C := RX3) (T := TX3) (N := 11) hx hb hts i_k_Reader_X3 tyX3 tyX3_ok nmX3 hown hK hP hD hS 0 rfl rfl 2 (by decide) (hts (.fieldLink RX3 15 "HushWatch$Reader" "places" "[I") (List.mem_of_getElem? (i := 6) rfl)) (fun _ h9 => h9) rfl hin rfl (by decide +kernel) rfl rfl (Nat.le_of_ble_eq_true rfl) (dq_181 0 bcX3_init_0 (j := 16) (i := 15) rfl rfl rfl) (fun H locs hP hD hS => ?_)
  have h9 := fixPD (ws' := [(av, .inr (4, [.null, .ref q_1, .ref q_2, .null, .int (0 : Int32), .int (0 : Int32), .int (0 : Int32), .int (0 : Int32), .int (0 : Int32), .int (0 : Int32), .int (0 : Int32)])), k_I E q_1 3 (fun _ => 0), k_I E q_2 16 (fun _ => 0)]) hP hD rfl
  clear hP hD
  obtain ⟨hP, hD⟩ := h9
  refine lv_aload_n hx hb (dq_42 0 bcX3_init_0 (j := 19) rfl rfl) rfl (lv_at hl 0 rfl) ?_
  refine lv_bipush (v := 48) hx hb (dq_16 0 bcX3_init_0 (j := 20) (i := 48) rfl rfl rfl) (by decide) ?_
  refine nw_arr (atype := .int) (ty := .int) (a0 := (48, .inl (fun _ => 0))) hx hb (hts (.arrayClass .int) (List.mem_of_getElem? (i := 4) rfl)) rfl hK hP hD hS hA 0 rfl (fun _ _ a b => Option.some.inj (a.symm.trans b)) (fun _ => rfl) (by decide) rfl (Nat.le_of_ble_eq_true rfl) (Nat.le_of_ble_eq_true rfl) (Nat.le_of_ble_eq_true rfl) dX3_init_22 (fun q_3 H hP hD hS => ?_)
  have h9 := fixPD (ws' := [(av, .inr (4, [.null, .ref q_1, .ref q_2, .null, .int (0 : Int32), .int (0 : Int32), .int (0 : Int32), .int (0 : Int32), .int (0 : Int32), .int (0 : Int32), .int (0 : Int32)])), k_I E q_1 3 (fun _ => 0), k_I E q_2 16 (fun _ => 0), k_I E q_3 48 (fun _ => 0)]) hP hD rfl
  clear hP hD
  obtain ⟨hP, hD⟩ := h9
  refine W.widen (k := 3) (n := 67) (Nat.le_of_ble_eq_true rfl) (Nat.le_of_ble_eq_true rfl) ?_
  refine va_putF (D := E.1) (ci := 4) (v := .ref q_3) (ty := .array .int) (C := RX3) (T := TX3) (N := 11) hx hb hts i_k_Reader_X3 tyX3 tyX3_ok nmX3 hown hK hP hD hS 0 rfl rfl 3 (by decide) (hts (.fieldLink RX3 18 "HushWatch$Reader" "steps" "[I") (List.mem_of_getElem? (i := 7) rfl)) (fun _ h9 => h9) rfl hin rfl (by decide +kernel) rfl rfl (Nat.le_of_ble_eq_true rfl) (dq_181 0 bcX3_init_0 (j := 24) (i := 18) rfl rfl rfl) (fun H locs hP hD hS => ?_)
  have h9 := fixPD (ws' := [(av, .inr (4, [.null, .ref q_1, .ref q_2, .ref q_3, .int (0 : Int32), .int (0 : Int32), .int (0 : Int32), .int (0 : Int32), .int (0 : Int32), .int (0 : Int32), .int (0 : Int32)])), k_I E q_1 3 (fun _ => 0), k_I E q_2 16 (fun _ => 0), k_I E q_3 48 (fun _ => 0)]) hP hD rfl
  clear hP hD
  obtain ⟨hP, hD⟩ := h9
  refine lv_aload_n hx hb (dq_42 0 bcX3_init_0 (j := 27) rfl rfl) rfl (lv_at hl 0 rfl) ?_
  refine lv_iconst (v := 0) hx hb (dq_3 0 bcX3_init_0 (j := 28) rfl rfl) (by decide) ?_
  refine va_put (D := E.1) (ci := 4) (v := .int (0 : Int32)) (ty := .int) (C := RX3) (T := TX3) (N := 11) hx hb hts i_k_Reader_X3 tyX3 tyX3_ok nmX3 hown hK hP hD hS 0 rfl rfl 4 (by decide) (hts (.fieldLink RX3 21 "HushWatch$Reader" "siteCount" "I") (List.mem_of_getElem? (i := 8) rfl)) (fun _ h9 => h9) rfl (by decide +kernel) rfl rfl (Nat.le_of_ble_eq_true rfl) (dq_181 0 bcX3_init_0 (j := 29) (i := 21) rfl rfl rfl) (fun H locs hP hD hS => ?_)
  have h9 := fixPD (ws' := [(av, .inr (4, [.null, .ref q_1, .ref q_2, .ref q_3, .int (0 : Int32), .int (0 : Int32), .int (0 : Int32), .int (0 : Int32), .int (0 : Int32), .int (0 : Int32), .int (0 : Int32)])), k_I E q_1 3 (fun _ => 0), k_I E q_2 16 (fun _ => 0), k_I E q_3 48 (fun _ => 0)]) hP hD rfl
  clear hP hD
  obtain ⟨hP, hD⟩ := h9
  refine lv_aload_n hx hb (dq_42 0 bcX3_init_0 (j := 32) rfl rfl) rfl (lv_at hl 0 rfl) ?_
  refine lv_iconst (v := 0) hx hb (dq_3 0 bcX3_init_0 (j := 33) rfl rfl) (by decide) ?_
  refine va_put (D := E.1) (ci := 4) (v := .int (0 : Int32)) (ty := .int) (C := RX3) (T := TX3) (N := 11) hx hb hts i_k_Reader_X3 tyX3 tyX3_ok nmX3 hown hK hP hD hS 0 rfl rfl 5 (by decide) (hts (.fieldLink RX3 25 "HushWatch$Reader" "stepCount" "I") (List.mem_of_getElem? (i := 9) rfl)) (fun _ h9 => h9) rfl (by decide +kernel) rfl rfl (Nat.le_of_ble_eq_true rfl) (dq_181 0 bcX3_init_0 (j := 34) (i := 25) rfl rfl rfl) (fun H locs hP hD hS => ?_)
  have h9 := fixPD (ws' := [(av, .inr (4, [.null, .ref q_1, .ref q_2, .ref q_3, .int (0 : Int32), .int (0 : Int32), .int (0 : Int32), .int (0 : Int32), .int (0 : Int32), .int (0 : Int32), .int (0 : Int32)])), k_I E q_1 3 (fun _ => 0), k_I E q_2 16 (fun _ => 0), k_I E q_3 48 (fun _ => 0)]) hP hD rfl
  clear hP hD
  obtain ⟨hP, hD⟩ := h9
  refine lv_aload_n hx hb (dq_42 0 bcX3_init_0 (j := 37) rfl rfl) rfl (lv_at hl 0 rfl) ?_
  refine lv_iconst (v := 0) hx hb (dq_3 0 bcX3_init_0 (j := 38) rfl rfl) (by decide) ?_
  refine va_put (D := E.1) (ci := 4) (v := .int (0 : Int32)) (ty := .int) (C := RX3) (T := TX3) (N := 11) hx hb hts i_k_Reader_X3 tyX3 tyX3_ok nmX3 hown hK hP hD hS 0 rfl rfl 6 (by decide) (hts (.fieldLink RX3 28 "HushWatch$Reader" "seenRules" "I") (List.mem_of_getElem? (i := 10) rfl)) (fun _ h9 => h9) rfl (by decide +kernel) rfl rfl (Nat.le_of_ble_eq_true rfl) (dq_181 0 bcX3_init_0 (j := 39) (i := 28) rfl rfl rfl) (fun H locs hP hD hS => ?_)
  have h9 := fixPD (ws' := [(av, .inr (4, [.null, .ref q_1, .ref q_2, .ref q_3, .int (0 : Int32), .int (0 : Int32), .int (0 : Int32), .int (0 : Int32), .int (0 : Int32), .int (0 : Int32), .int (0 : Int32)])), k_I E q_1 3 (fun _ => 0), k_I E q_2 16 (fun _ => 0), k_I E q_3 48 (fun _ => 0)]) hP hD rfl
  clear hP hD
  obtain ⟨hP, hD⟩ := h9
  refine lv_aload_n hx hb (dq_42 0 bcX3_init_0 (j := 42) rfl rfl) rfl (lv_at hl 0 rfl) ?_
  refine lv_iconst (v := 0) hx hb (dq_3 0 bcX3_init_0 (j := 43) rfl rfl) (by decide) ?_
  refine va_put (D := E.1) (ci := 4) (v := .int (0 : Int32)) (ty := .int) (C := RX3) (T := TX3) (N := 11) hx hb hts i_k_Reader_X3 tyX3 tyX3_ok nmX3 hown hK hP hD hS 0 rfl rfl 7 (by decide) (hts (.fieldLink RX3 31 "HushWatch$Reader" "at" "I") (List.mem_of_getElem? (i := 11) rfl)) (fun _ h9 => h9) rfl (by decide +kernel) rfl rfl (Nat.le_of_ble_eq_true rfl) (dq_181 0 bcX3_init_0 (j := 44) (i := 31) rfl rfl rfl) (fun H locs hP hD hS => ?_)
  have h9 := fixPD (ws' := [(av, .inr (4, [.null, .ref q_1, .ref q_2, .ref q_3, .int (0 : Int32), .int (0 : Int32), .int (0 : Int32), .int (0 : Int32), .int (0 : Int32), .int (0 : Int32), .int (0 : Int32)])), k_I E q_1 3 (fun _ => 0), k_I E q_2 16 (fun _ => 0), k_I E q_3 48 (fun _ => 0)]) hP hD rfl
  clear hP hD
  obtain ⟨hP, hD⟩ := h9
  refine lv_aload_n hx hb (dq_42 0 bcX3_init_0 (j := 47) rfl rfl) rfl (lv_at hl 0 rfl) ?_
  refine lv_iconst (v := 0) hx hb (dq_3 48 bcX3_init_1 (j := 0) rfl rfl) (by decide) ?_
  refine va_put (D := E.1) (ci := 4) (v := .int (0 : Int32)) (ty := .int) (C := RX3) (T := TX3) (N := 11) hx hb hts i_k_Reader_X3 tyX3 tyX3_ok nmX3 hown hK hP hD hS 0 rfl rfl 8 (by decide) (hts (.fieldLink RX3 34 "HushWatch$Reader" "wordStart" "I") (List.mem_of_getElem? (i := 12) rfl)) (fun _ h9 => h9) rfl (by decide +kernel) rfl rfl (Nat.le_of_ble_eq_true rfl) (dq_181 48 bcX3_init_1 (j := 1) (i := 34) rfl rfl rfl) (fun H locs hP hD hS => ?_)
  have h9 := fixPD (ws' := [(av, .inr (4, [.null, .ref q_1, .ref q_2, .ref q_3, .int (0 : Int32), .int (0 : Int32), .int (0 : Int32), .int (0 : Int32), .int (0 : Int32), .int (0 : Int32), .int (0 : Int32)])), k_I E q_1 3 (fun _ => 0), k_I E q_2 16 (fun _ => 0), k_I E q_3 48 (fun _ => 0)]) hP hD rfl
  clear hP hD
  obtain ⟨hP, hD⟩ := h9
  refine lv_aload_n hx hb (dq_42 48 bcX3_init_1 (j := 4) rfl rfl) rfl (lv_at hl 0 rfl) ?_
  refine lv_iconst (v := 0) hx hb (dq_3 48 bcX3_init_1 (j := 5) rfl rfl) (by decide) ?_
  refine va_put (D := E.1) (ci := 4) (v := .int (0 : Int32)) (ty := .int) (C := RX3) (T := TX3) (N := 11) hx hb hts i_k_Reader_X3 tyX3 tyX3_ok nmX3 hown hK hP hD hS 0 rfl rfl 9 (by decide) (hts (.fieldLink RX3 37 "HushWatch$Reader" "number" "I") (List.mem_of_getElem? (i := 13) rfl)) (fun _ h9 => h9) rfl (by decide +kernel) rfl rfl (Nat.le_of_ble_eq_true rfl) (dq_181 48 bcX3_init_1 (j := 6) (i := 37) rfl rfl rfl) (fun H locs hP hD hS => ?_)
  have h9 := fixPD (ws' := [(av, .inr (4, [.null, .ref q_1, .ref q_2, .ref q_3, .int (0 : Int32), .int (0 : Int32), .int (0 : Int32), .int (0 : Int32), .int (0 : Int32), .int (0 : Int32), .int (0 : Int32)])), k_I E q_1 3 (fun _ => 0), k_I E q_2 16 (fun _ => 0), k_I E q_3 48 (fun _ => 0)]) hP hD rfl
  clear hP hD
  obtain ⟨hP, hD⟩ := h9
  refine lv_aload_n hx hb (dq_42 48 bcX3_init_1 (j := 9) rfl rfl) rfl (lv_at hl 0 rfl) ?_
  refine lv_iconst (v := -1) hx hb (dq_2 48 bcX3_init_1 (j := 10) rfl rfl) (by decide) ?_
  refine va_put (D := E.1) (ci := 4) (v := .int (-1 : Int32)) (ty := .int) (C := RX3) (T := TX3) (N := 11) hx hb hts i_k_Reader_X3 tyX3 tyX3_ok nmX3 hown hK hP hD hS 0 rfl rfl 10 (by decide) (hts (.fieldLink RX3 40 "HushWatch$Reader" "failed" "I") (List.mem_of_getElem? (i := 14) rfl)) (fun _ h9 => h9) rfl (by decide +kernel) rfl rfl (Nat.le_of_ble_eq_true rfl) (dq_181 48 bcX3_init_1 (j := 11) (i := 40) rfl rfl rfl) (fun H locs hP hD hS => ?_)
  have h9 := fixPD (ws' := [(av, .inr (4, [.null, .ref q_1, .ref q_2, .ref q_3, .int (0 : Int32), .int (0 : Int32), .int (0 : Int32), .int (0 : Int32), .int (0 : Int32), .int (0 : Int32), .int (-1 : Int32)])), k_I E q_1 3 (fun _ => 0), k_I E q_2 16 (fun _ => 0), k_I E q_3 48 (fun _ => 0)]) hP hD rfl
  clear hP hD
  obtain ⟨hP, hD⟩ := h9
  refine lv_aload_n hx hb (dq_42 48 bcX3_init_1 (j := 14) rfl rfl) rfl (lv_at hl 0 rfl) ?_
  refine lv_aload_n hx hb (dq_43 48 bcX3_init_1 (j := 15) rfl rfl) rfl (lv_at hl 1 rfl) ?_
  refine va_putF (D := E.1) (ci := 4) (v := .ref tp) (ty := .object "HushWatch$Tape") (C := RX3) (T := TX3) (N := 11) hx hb hts i_k_Reader_X3 tyX3 tyX3_ok nmX3 hown hK hP hD hS 0 rfl rfl 0 (by decide) (hts (.fieldLink RX3 43 "HushWatch$Reader" "tape" "LHushWatch$Tape;") (List.mem_of_getElem? (i := 15) rfl)) (fun _ h9 => h9) rfl hin rfl (by decide +kernel) rfl rfl (Nat.le_of_ble_eq_true rfl) (dq_181 48 bcX3_init_1 (j := 16) (i := 43) rfl rfl rfl) (fun H locs hP hD hS => ?_)
  have h9 := fixPD (ws' := [k_X3 av tp q_1 q_2 q_3 (0 : Int32) (0 : Int32) (0 : Int32) (0 : Int32) (0 : Int32) (0 : Int32) (-1 : Int32), k_I E q_1 3 (fun _ => 0), k_I E q_2 16 (fun _ => 0), k_I E q_3 48 (fun _ => 0)]) hP hD rfl
  clear hP hD
  obtain ⟨hP, hD⟩ := h9
  have hP9 := hP.sub (ws' := [k_X3 av tp q_1 q_2 q_3 (0 : Int32) (0 : Int32) (0 : Int32) (0 : Int32) (0 : Int32) (0 : Int32) (-1 : Int32), k_I E q_1 3 (fun _ => 0), k_I E q_2 16 (fun _ => 0), k_I E q_3 48 (fun _ => 0)]) [0, 1, 2, 3] rfl
  have hD9 := hD.sub (ws' := [k_X3 av tp q_1 q_2 q_3 (0 : Int32) (0 : Int32) (0 : Int32) (0 : Int32) (0 : Int32) (0 : Int32) (-1 : Int32), k_I E q_1 3 (fun _ => 0), k_I E q_2 16 (fun _ => 0), k_I E q_3 48 (fun _ => 0)]) [0, 1, 2, 3] (by decide) rfl
  rw [hQ]
  exact W.vret hx hb hr (fun tt ht hW => ⟨⟨fun i => ([q_1, q_2, q_3] : List Nat).getD i 0, rfl, trivial, by rw [ht]; exact hP9, hD9⟩, hS.F ht⟩) hS.2.2 (dq_177 48 bcX3_init_1 (j := 19) rfl rfl)

def v_k_Scripts : List Cond := List.cons (.code yX4_init cX4_init 1 none) (HAppend.hAppend (α := List Cond) (β := List Cond) (γ := List Cond) [.methodLink RX4 3 objectInit, .instanceMethod objectInit, .code objectInit ⟨#[0xb1]⟩ 1 none, .arrayClass .int, .fieldLink RX4 11 "HushWatch$Scripts" "steps" "[I", .fieldLink RX4 15 "HushWatch$Scripts" "counts" "[I", .fieldLink RX4 18 "HushWatch$Scripts" "held" "I"] (HAppend.hAppend (α := List Cond) (β := List Cond) (γ := List Cond) wsX40 []))
theorem gw_k_Scripts : v_k_Scripts.all goodWord = true := gw_c2 (by decide +kernel) (gw_ap gw_wsX40 gw_nil)
theorem i_k_Scripts_X4 : ∀ w ∈ wsX40, w ∈ v_k_Scripts := fun _ h => List.mem_cons_of_mem _ (List.mem_append_right _ (List.mem_append_left _ h))
set_option maxHeartbeats 4000000 in
set_option maxRecDepth 100000 in
theorem k_Scripts (l : Launch) (E : EE) (sz : Nat) {av : Nat}   : Met l yX4_init v_k_Scripts (({ frames := 1, cells := 2, slots := 196, locals := 20 } : Room)) (va_Pc [.ref av] (pW E sz [(av, .inr (5, [.null, .null, .int (0 : Int32)]))])) (va_Qv (fun (_u : Nat → Nat) => True) (fun (u : Nat → Nat) tt => va_P E.1 vwCl [k_X4 av (u 0) (u 1) (0 : Int32), k_I E (u 0) 192 (fun _ => 0), k_I E (u 1) 4 (fun _ => 0)] tt.heap ∧ va_D (va_A [(av, .inr (5, [.null, .null, .int (0 : Int32)]))] sz) [k_X4 av (u 0) (u 1) (0 : Int32), k_I E (u 0) 192 (fun _ => 0), k_I E (u 1) 4 (fun _ => 0)]) (va_A [(av, .inr (5, [.null, .null, .int (0 : Int32)]))] sz)) 2 196 (va_A [(av, .inr (5, [.null, .null, .int (0 : Int32)]))] sz) := by
  refine Met.ofW (cc := cX4_init) (maxL := 1) (ret := none) (by decide) rfl ?_
  intro p e s m args below meth c s₁ B hml hv
  obtain ⟨rfl, hsz, ⟨hK, hN⟩, hP, hD0⟩ := hv
  have hx := B.exec
  have hb := B.bytes
  have hr := B.returns
  have hts := atoms_spec (ws := v_k_Scripts) B.pre
  have hown : s.vm.findClass RX4 = some m.cls := own_of (by decide +kernel) (findClass_of_methodNamed B.named)
  have hlocks : meth.locks = false := B.notSynchronized
  have hin : meth.name = "<init>" := (name_of_methodNamed B.named B.method).1
  subst hsz
  have hD := hD0.self (sz := s.heap.size)
  generalize hAe : va_A [(av, .inr (5, [.null, .null, .int (0 : Int32)]))] s.heap.size = A at hD ⊢
  have hA : ∀ q : Nat, s.heap.size ≤ q → A q := fun q h => by rw [← hAe]; exact Or.inr h
  have hS : va_S A s.heap s.heap [] := va_S.rf
  have hl := lv_entry ([.ref av]) (n := 1) (Nat.le_of_ble_eq_true rfl)
  rw [lg_entry_eq]
  generalize (lg_sl ([.ref av]) ++ List.replicate (1 - (lg_sl ([.ref av])).length) Slot.unset).toArray = ls at hl ⊢
  have hl : lv_has ls 1 [(0, .ref av)] := hl
  obtain ⟨Q, hQ⟩ : ∃ Q : State → Prop, Q = MQ below (va_Qv (fun (_u : Nat → Nat) => True) (fun (u : Nat → Nat) tt => va_P E.1 vwCl [k_X4 av (u 0) (u 1) (0 : Int32), k_I E (u 0) 192 (fun _ => 0), k_I E (u 1) 4 (fun _ => 0)] tt.heap ∧ va_D A [k_X4 av (u 0) (u 1) (0 : Int32), k_I E (u 0) 192 (fun _ => 0), k_I E (u 1) 4 (fun _ => 0)]) A) #[Value.ref av] s 2 196 A := ⟨_, rfl⟩
  rw [← hQ]
  change W p l e ({ frames := 1, cells := 2, slots := 196, locals := 20 } : Room) s m #[Value.ref av] below meth c s.heap [] 0 0 Q (F0 m 0 ls [])
  suffices hh9 : ∀ (H : Heap) (locs : List Loc), va_P E.1 vwCl [(av, .inr (5, [.null, .null, .int (0 : Int32)]))] H → va_D A [(av, .inr (5, [.null, .null, .int (0 : Int32)]))] → va_S A s.heap H locs → W p l e ({ frames := 1, cells := 2, slots := 196, locals := 20 } : Room) s m #[Value.ref av] below meth c H locs 0 0 Q (F0 m 0 ls []) from hh9 s.heap [] hP hD hS
  clear hP hD hS
  intro H locs hP hD hS
  have h9 := fixPD (ws' := [(av, .inr (5, [.null, .null, .int (0 : Int32)]))]) hP hD rfl
  clear hP hD
  obtain ⟨hP, hD⟩ := h9
  refine lv_aload_n hx hb (dq_42 0 bcX4_init_0 (j := 0) rfl rfl) rfl (lv_at hl 0 rfl) ?_
  refine W.objInit hx hb hown (hts (.methodLink RX4 3 objectInit) (List.mem_of_getElem? (i := 1) rfl)) (hts (.instanceMethod objectInit) (List.mem_of_getElem? (i := 2) rfl)) (hts (.code objectInit ⟨#[0xb1]⟩ 1 none) (List.mem_of_getElem? (i := 3) rfl)) rfl (by rw [hml]; exact hl.1) rfl (dq_183 0 bcX4_init_0 (j := 1) (i := 3) rfl rfl rfl) (Nat.le_of_ble_eq_true rfl) (Nat.le_of_ble_eq_true rfl) ?_
  refine W.eq (g2 := F0 m 4 ls []) rfl ?_
  refine lv_aload_n hx hb (dq_42 0 bcX4_init_0 (j := 4) rfl rfl) rfl (lv_at hl 0 rfl) ?_
  refine lv_sipush (v := 192) hx hb (dq_17 0 bcX4_init_0 (j := 5) (i := 192) rfl rfl rfl) (by decide) ?_
  refine nw_arr (atype := .int) (ty := .int) (a0 := (192, .inl (fun _ => 0))) hx hb (hts (.arrayClass .int) (List.mem_of_getElem? (i := 4) rfl)) rfl hK hP hD hS hA 0 rfl (fun _ _ a b => Option.some.inj (a.symm.trans b)) (fun _ => rfl) (by decide) rfl (Nat.le_of_ble_eq_true rfl) (Nat.le_of_ble_eq_true rfl) (Nat.le_of_ble_eq_true rfl) dX4_init_8 (fun q_1 H hP hD hS => ?_)
  have h9 := fixPD (ws' := [(av, .inr (5, [.null, .null, .int (0 : Int32)])), k_I E q_1 192 (fun _ => 0)]) hP hD rfl
  clear hP hD
  obtain ⟨hP, hD⟩ := h9
  refine W.widen (k := 1) (n := 192) (Nat.le_of_ble_eq_true rfl) (Nat.le_of_ble_eq_true rfl) ?_
  refine va_putF (D := E.1) (ci := 5) (v := .ref q_1) (ty := .array .int) (C := RX4) (T := TX4) (N := 3) hx hb hts i_k_Scripts_X4 tyX4 tyX4_ok nmX4 hown hK hP hD hS 0 rfl rfl 0 (by decide) (hts (.fieldLink RX4 11 "HushWatch$Scripts" "steps" "[I") (List.mem_of_getElem? (i := 5) rfl)) (fun _ h9 => h9) rfl hin rfl (by decide +kernel) rfl rfl (Nat.le_of_ble_eq_true rfl) (dq_181 0 bcX4_init_0 (j := 10) (i := 11) rfl rfl rfl) (fun H locs hP hD hS => ?_)
  have h9 := fixPD (ws' := [(av, .inr (5, [.ref q_1, .null, .int (0 : Int32)])), k_I E q_1 192 (fun _ => 0)]) hP hD rfl
  clear hP hD
  obtain ⟨hP, hD⟩ := h9
  refine lv_aload_n hx hb (dq_42 0 bcX4_init_0 (j := 13) rfl rfl) rfl (lv_at hl 0 rfl) ?_
  refine lv_iconst (v := 4) hx hb (dq_7 0 bcX4_init_0 (j := 14) rfl rfl) (by decide) ?_
  refine nw_arr (atype := .int) (ty := .int) (a0 := (4, .inl (fun _ => 0))) hx hb (hts (.arrayClass .int) (List.mem_of_getElem? (i := 4) rfl)) rfl hK hP hD hS hA 0 rfl (fun _ _ a b => Option.some.inj (a.symm.trans b)) (fun _ => rfl) (by decide) rfl (Nat.le_of_ble_eq_true rfl) (Nat.le_of_ble_eq_true rfl) (Nat.le_of_ble_eq_true rfl) dX4_init_15 (fun q_2 H hP hD hS => ?_)
  have h9 := fixPD (ws' := [(av, .inr (5, [.ref q_1, .null, .int (0 : Int32)])), k_I E q_1 192 (fun _ => 0), k_I E q_2 4 (fun _ => 0)]) hP hD rfl
  clear hP hD
  obtain ⟨hP, hD⟩ := h9
  refine W.widen (k := 2) (n := 196) (Nat.le_of_ble_eq_true rfl) (Nat.le_of_ble_eq_true rfl) ?_
  refine va_putF (D := E.1) (ci := 5) (v := .ref q_2) (ty := .array .int) (C := RX4) (T := TX4) (N := 3) hx hb hts i_k_Scripts_X4 tyX4 tyX4_ok nmX4 hown hK hP hD hS 0 rfl rfl 1 (by decide) (hts (.fieldLink RX4 15 "HushWatch$Scripts" "counts" "[I") (List.mem_of_getElem? (i := 6) rfl)) (fun _ h9 => h9) rfl hin rfl (by decide +kernel) rfl rfl (Nat.le_of_ble_eq_true rfl) (dq_181 0 bcX4_init_0 (j := 17) (i := 15) rfl rfl rfl) (fun H locs hP hD hS => ?_)
  have h9 := fixPD (ws' := [k_X4 av q_1 q_2 (0 : Int32), k_I E q_1 192 (fun _ => 0), k_I E q_2 4 (fun _ => 0)]) hP hD rfl
  clear hP hD
  obtain ⟨hP, hD⟩ := h9
  refine lv_aload_n hx hb (dq_42 0 bcX4_init_0 (j := 20) rfl rfl) rfl (lv_at hl 0 rfl) ?_
  refine lv_iconst (v := 0) hx hb (dq_3 0 bcX4_init_0 (j := 21) rfl rfl) (by decide) ?_
  refine va_put (D := E.1) (ci := 5) (v := .int (0 : Int32)) (ty := .int) (C := RX4) (T := TX4) (N := 3) hx hb hts i_k_Scripts_X4 tyX4 tyX4_ok nmX4 hown hK hP hD hS 0 rfl rfl 2 (by decide) (hts (.fieldLink RX4 18 "HushWatch$Scripts" "held" "I") (List.mem_of_getElem? (i := 7) rfl)) (fun _ h9 => h9) rfl (by decide +kernel) rfl rfl (Nat.le_of_ble_eq_true rfl) (dq_181 0 bcX4_init_0 (j := 22) (i := 18) rfl rfl rfl) (fun H locs hP hD hS => ?_)
  have h9 := fixPD (ws' := [k_X4 av q_1 q_2 (0 : Int32), k_I E q_1 192 (fun _ => 0), k_I E q_2 4 (fun _ => 0)]) hP hD rfl
  clear hP hD
  obtain ⟨hP, hD⟩ := h9
  have hP9 := hP.sub (ws' := [k_X4 av q_1 q_2 (0 : Int32), k_I E q_1 192 (fun _ => 0), k_I E q_2 4 (fun _ => 0)]) [0, 1, 2] rfl
  have hD9 := hD.sub (ws' := [k_X4 av q_1 q_2 (0 : Int32), k_I E q_1 192 (fun _ => 0), k_I E q_2 4 (fun _ => 0)]) [0, 1, 2] (by decide) rfl
  rw [hQ]
  exact W.vret hx hb hr (fun tt ht hW => ⟨⟨fun i => ([q_1, q_2] : List Nat).getD i 0, rfl, trivial, by rw [ht]; exact hP9, hD9⟩, hS.F ht⟩) hS.2.2 (dq_177 0 bcX4_init_0 (j := 25) rfl rfl)

def v_k_State : List Cond := List.cons (.code yX5_init cX5_init 1 none) (HAppend.hAppend (α := List Cond) (β := List Cond) (γ := List Cond) [.methodLink RX5 5 objectInit, .instanceMethod objectInit, .code objectInit ⟨#[0xb1]⟩ 1 none, .arrayClass .int, .fieldLink RX5 11 "HushWatch$State" "row" "[I", .fieldLink RX5 15 "HushWatch$State" "partners" "[I", .fieldLink RX5 18 "HushWatch$State" "askedCount" "I", .fieldLink RX5 22 "HushWatch$State" "outcome" "I", .fieldLink RX5 25 "HushWatch$State" "share" "[I", .fieldLink RX5 28 "HushWatch$State" "leftOver" "[I"] (HAppend.hAppend (α := List Cond) (β := List Cond) (γ := List Cond) wsX50 []))
theorem gw_k_State : v_k_State.all goodWord = true := gw_c2 (by decide +kernel) (gw_ap gw_wsX50 gw_nil)
theorem i_k_State_X5 : ∀ w ∈ wsX50, w ∈ v_k_State := fun _ h => List.mem_cons_of_mem _ (List.mem_append_right _ (List.mem_append_left _ h))
set_option maxHeartbeats 4000000 in
set_option maxRecDepth 100000 in
theorem k_State (l : Launch) (E : EE) (sz : Nat) {av : Nat}   : Met l yX5_init v_k_State (({ frames := 1, cells := 4, slots := 93, locals := 20 } : Room)) (va_Pc [.ref av] (pW E sz [(av, .inr (6, [.null, .null, .int (0 : Int32), .int (0 : Int32), .null, .null]))])) (va_Qv (fun (_u : Nat → Nat) => True) (fun (u : Nat → Nat) tt => va_P E.1 vwCl [k_X5 av (u 0) (u 1) (0 : Int32) (0 : Int32) (u 2) (u 3), k_I E (u 0) 81 (fun _ => 0), k_I E (u 1) 8 (fun _ => 0), k_I E (u 2) 2 (fun _ => 0), k_I E (u 3) 2 (fun _ => 0)] tt.heap ∧ va_D (va_A [(av, .inr (6, [.null, .null, .int (0 : Int32), .int (0 : Int32), .null, .null]))] sz) [k_X5 av (u 0) (u 1) (0 : Int32) (0 : Int32) (u 2) (u 3), k_I E (u 0) 81 (fun _ => 0), k_I E (u 1) 8 (fun _ => 0), k_I E (u 2) 2 (fun _ => 0), k_I E (u 3) 2 (fun _ => 0)]) (va_A [(av, .inr (6, [.null, .null, .int (0 : Int32), .int (0 : Int32), .null, .null]))] sz)) 4 93 (va_A [(av, .inr (6, [.null, .null, .int (0 : Int32), .int (0 : Int32), .null, .null]))] sz) := by
  refine Met.ofW (cc := cX5_init) (maxL := 1) (ret := none) (by decide) rfl ?_
  intro p e s m args below meth c s₁ B hml hv
  obtain ⟨rfl, hsz, ⟨hK, hN⟩, hP, hD0⟩ := hv
  have hx := B.exec
  have hb := B.bytes
  have hr := B.returns
  have hts := atoms_spec (ws := v_k_State) B.pre
  have hown : s.vm.findClass RX5 = some m.cls := own_of (by decide +kernel) (findClass_of_methodNamed B.named)
  have hlocks : meth.locks = false := B.notSynchronized
  have hin : meth.name = "<init>" := (name_of_methodNamed B.named B.method).1
  subst hsz
  have hD := hD0.self (sz := s.heap.size)
  generalize hAe : va_A [(av, .inr (6, [.null, .null, .int (0 : Int32), .int (0 : Int32), .null, .null]))] s.heap.size = A at hD ⊢
  have hA : ∀ q : Nat, s.heap.size ≤ q → A q := fun q h => by rw [← hAe]; exact Or.inr h
  have hS : va_S A s.heap s.heap [] := va_S.rf
  have hl := lv_entry ([.ref av]) (n := 1) (Nat.le_of_ble_eq_true rfl)
  rw [lg_entry_eq]
  generalize (lg_sl ([.ref av]) ++ List.replicate (1 - (lg_sl ([.ref av])).length) Slot.unset).toArray = ls at hl ⊢
  have hl : lv_has ls 1 [(0, .ref av)] := hl
  obtain ⟨Q, hQ⟩ : ∃ Q : State → Prop, Q = MQ below (va_Qv (fun (_u : Nat → Nat) => True) (fun (u : Nat → Nat) tt => va_P E.1 vwCl [k_X5 av (u 0) (u 1) (0 : Int32) (0 : Int32) (u 2) (u 3), k_I E (u 0) 81 (fun _ => 0), k_I E (u 1) 8 (fun _ => 0), k_I E (u 2) 2 (fun _ => 0), k_I E (u 3) 2 (fun _ => 0)] tt.heap ∧ va_D A [k_X5 av (u 0) (u 1) (0 : Int32) (0 : Int32) (u 2) (u 3), k_I E (u 0) 81 (fun _ => 0), k_I E (u 1) 8 (fun _ => 0), k_I E (u 2) 2 (fun _ => 0), k_I E (u 3) 2 (fun _ => 0)]) A) #[Value.ref av] s 4 93 A := ⟨_, rfl⟩
  rw [← hQ]
  change W p l e ({ frames := 1, cells := 4, slots := 93, locals := 20 } : Room) s m #[Value.ref av] below meth c s.heap [] 0 0 Q (F0 m 0 ls [])
  suffices hh9 : ∀ (H : Heap) (locs : List Loc), va_P E.1 vwCl [(av, .inr (6, [.null, .null, .int (0 : Int32), .int (0 : Int32), .null, .null]))] H → va_D A [(av, .inr (6, [.null, .null, .int (0 : Int32), .int (0 : Int32), .null, .null]))] → va_S A s.heap H locs → W p l e ({ frames := 1, cells := 4, slots := 93, locals := 20 } : Room) s m #[Value.ref av] below meth c H locs 0 0 Q (F0 m 0 ls []) from hh9 s.heap [] hP hD hS
  clear hP hD hS
  intro H locs hP hD hS
  have h9 := fixPD (ws' := [(av, .inr (6, [.null, .null, .int (0 : Int32), .int (0 : Int32), .null, .null]))]) hP hD rfl
  clear hP hD
  obtain ⟨hP, hD⟩ := h9
  refine lv_aload_n hx hb (dq_42 0 bcX5_init_0 (j := 0) rfl rfl) rfl (lv_at hl 0 rfl) ?_
  refine W.objInit hx hb hown (hts (.methodLink RX5 5 objectInit) (List.mem_of_getElem? (i := 1) rfl)) (hts (.instanceMethod objectInit) (List.mem_of_getElem? (i := 2) rfl)) (hts (.code objectInit ⟨#[0xb1]⟩ 1 none) (List.mem_of_getElem? (i := 3) rfl)) rfl (by rw [hml]; exact hl.1) rfl (dq_183 0 bcX5_init_0 (j := 1) (i := 5) rfl rfl rfl) (Nat.le_of_ble_eq_true rfl) (Nat.le_of_ble_eq_true rfl) ?_
  refine W.eq (g2 := F0 m 4 ls []) rfl ?_
  refine lv_aload_n hx hb (dq_42 0 bcX5_init_0 (j := 4) rfl rfl) rfl (lv_at hl 0 rfl) ?_
  refine lv_bipush (v := 81) hx hb (dq_16 0 bcX5_init_0 (j := 5) (i := 81) rfl rfl rfl) (by decide) ?_
  refine nw_arr (atype := .int) (ty := .int) (a0 := (81, .inl (fun _ => 0))) hx hb (hts (.arrayClass .int) (List.mem_of_getElem? (i := 4) rfl)) rfl hK hP hD hS hA 0 rfl (fun _ _ a b => Option.some.inj (a.symm.trans b)) (fun _ => rfl) (by decide) rfl (Nat.le_of_ble_eq_true rfl) (Nat.le_of_ble_eq_true rfl) (Nat.le_of_ble_eq_true rfl) dX5_init_7 (fun q_1 H hP hD hS => ?_)
  have h9 := fixPD (ws' := [(av, .inr (6, [.null, .null, .int (0 : Int32), .int (0 : Int32), .null, .null])), k_I E q_1 81 (fun _ => 0)]) hP hD rfl
  clear hP hD
  obtain ⟨hP, hD⟩ := h9
  refine W.widen (k := 1) (n := 81) (Nat.le_of_ble_eq_true rfl) (Nat.le_of_ble_eq_true rfl) ?_
  refine va_putF (D := E.1) (ci := 6) (v := .ref q_1) (ty := .array .int) (C := RX5) (T := TX5) (N := 6) hx hb hts i_k_State_X5 tyX5 tyX5_ok nmX5 hown hK hP hD hS 0 rfl rfl 0 (by decide) (hts (.fieldLink RX5 11 "HushWatch$State" "row" "[I") (List.mem_of_getElem? (i := 5) rfl)) (fun _ h9 => h9) rfl hin rfl (by decide +kernel) rfl rfl (Nat.le_of_ble_eq_true rfl) (dq_181 0 bcX5_init_0 (j := 9) (i := 11) rfl rfl rfl) (fun H locs hP hD hS => ?_)
  have h9 := fixPD (ws' := [(av, .inr (6, [.ref q_1, .null, .int (0 : Int32), .int (0 : Int32), .null, .null])), k_I E q_1 81 (fun _ => 0)]) hP hD rfl
  clear hP hD
  obtain ⟨hP, hD⟩ := h9
  refine lv_aload_n hx hb (dq_42 0 bcX5_init_0 (j := 12) rfl rfl) rfl (lv_at hl 0 rfl) ?_
  refine lv_bipush (v := 8) hx hb (dq_16 0 bcX5_init_0 (j := 13) (i := 8) rfl rfl rfl) (by decide) ?_
  refine nw_arr (atype := .int) (ty := .int) (a0 := (8, .inl (fun _ => 0))) hx hb (hts (.arrayClass .int) (List.mem_of_getElem? (i := 4) rfl)) rfl hK hP hD hS hA 0 rfl (fun _ _ a b => Option.some.inj (a.symm.trans b)) (fun _ => rfl) (by decide) rfl (Nat.le_of_ble_eq_true rfl) (Nat.le_of_ble_eq_true rfl) (Nat.le_of_ble_eq_true rfl) dX5_init_15 (fun q_2 H hP hD hS => ?_)
  have h9 := fixPD (ws' := [(av, .inr (6, [.ref q_1, .null, .int (0 : Int32), .int (0 : Int32), .null, .null])), k_I E q_1 81 (fun _ => 0), k_I E q_2 8 (fun _ => 0)]) hP hD rfl
  clear hP hD
  obtain ⟨hP, hD⟩ := h9
  refine W.widen (k := 2) (n := 89) (Nat.le_of_ble_eq_true rfl) (Nat.le_of_ble_eq_true rfl) ?_
  refine va_putF (D := E.1) (ci := 6) (v := .ref q_2) (ty := .array .int) (C := RX5) (T := TX5) (N := 6) hx hb hts i_k_State_X5 tyX5 tyX5_ok nmX5 hown hK hP hD hS 0 rfl rfl 1 (by decide) (hts (.fieldLink RX5 15 "HushWatch$State" "partners" "[I") (List.mem_of_getElem? (i := 6) rfl)) (fun _ h9 => h9) rfl hin rfl (by decide +kernel) rfl rfl (Nat.le_of_ble_eq_true rfl) (dq_181 0 bcX5_init_0 (j := 17) (i := 15) rfl rfl rfl) (fun H locs hP hD hS => ?_)
  have h9 := fixPD (ws' := [(av, .inr (6, [.ref q_1, .ref q_2, .int (0 : Int32), .int (0 : Int32), .null, .null])), k_I E q_1 81 (fun _ => 0), k_I E q_2 8 (fun _ => 0)]) hP hD rfl
  clear hP hD
  obtain ⟨hP, hD⟩ := h9
  refine lv_aload_n hx hb (dq_42 0 bcX5_init_0 (j := 20) rfl rfl) rfl (lv_at hl 0 rfl) ?_
  refine lv_iconst (v := 0) hx hb (dq_3 0 bcX5_init_0 (j := 21) rfl rfl) (by decide) ?_
  refine va_put (D := E.1) (ci := 6) (v := .int (0 : Int32)) (ty := .int) (C := RX5) (T := TX5) (N := 6) hx hb hts i_k_State_X5 tyX5 tyX5_ok nmX5 hown hK hP hD hS 0 rfl rfl 2 (by decide) (hts (.fieldLink RX5 18 "HushWatch$State" "askedCount" "I") (List.mem_of_getElem? (i := 7) rfl)) (fun _ h9 => h9) rfl (by decide +kernel) rfl rfl (Nat.le_of_ble_eq_true rfl) (dq_181 0 bcX5_init_0 (j := 22) (i := 18) rfl rfl rfl) (fun H locs hP hD hS => ?_)
  have h9 := fixPD (ws' := [(av, .inr (6, [.ref q_1, .ref q_2, .int (0 : Int32), .int (0 : Int32), .null, .null])), k_I E q_1 81 (fun _ => 0), k_I E q_2 8 (fun _ => 0)]) hP hD rfl
  clear hP hD
  obtain ⟨hP, hD⟩ := h9
  refine lv_aload_n hx hb (dq_42 0 bcX5_init_0 (j := 25) rfl rfl) rfl (lv_at hl 0 rfl) ?_
  refine lv_iconst (v := 0) hx hb (dq_3 0 bcX5_init_0 (j := 26) rfl rfl) (by decide) ?_
  refine va_put (D := E.1) (ci := 6) (v := .int (0 : Int32)) (ty := .int) (C := RX5) (T := TX5) (N := 6) hx hb hts i_k_State_X5 tyX5 tyX5_ok nmX5 hown hK hP hD hS 0 rfl rfl 3 (by decide) (hts (.fieldLink RX5 22 "HushWatch$State" "outcome" "I") (List.mem_of_getElem? (i := 8) rfl)) (fun _ h9 => h9) rfl (by decide +kernel) rfl rfl (Nat.le_of_ble_eq_true rfl) (dq_181 0 bcX5_init_0 (j := 27) (i := 22) rfl rfl rfl) (fun H locs hP hD hS => ?_)
  have h9 := fixPD (ws' := [(av, .inr (6, [.ref q_1, .ref q_2, .int (0 : Int32), .int (0 : Int32), .null, .null])), k_I E q_1 81 (fun _ => 0), k_I E q_2 8 (fun _ => 0)]) hP hD rfl
  clear hP hD
  obtain ⟨hP, hD⟩ := h9
  refine lv_aload_n hx hb (dq_42 0 bcX5_init_0 (j := 30) rfl rfl) rfl (lv_at hl 0 rfl) ?_
  refine lv_iconst (v := 2) hx hb (dq_5 0 bcX5_init_0 (j := 31) rfl rfl) (by decide) ?_
  refine nw_arr (atype := .int) (ty := .int) (a0 := (2, .inl (fun _ => 0))) hx hb (hts (.arrayClass .int) (List.mem_of_getElem? (i := 4) rfl)) rfl hK hP hD hS hA 0 rfl (fun _ _ a b => Option.some.inj (a.symm.trans b)) (fun _ => rfl) (by decide) rfl (Nat.le_of_ble_eq_true rfl) (Nat.le_of_ble_eq_true rfl) (Nat.le_of_ble_eq_true rfl) dX5_init_32 (fun q_3 H hP hD hS => ?_)
  have h9 := fixPD (ws' := [(av, .inr (6, [.ref q_1, .ref q_2, .int (0 : Int32), .int (0 : Int32), .null, .null])), k_I E q_1 81 (fun _ => 0), k_I E q_2 8 (fun _ => 0), k_I E q_3 2 (fun _ => 0)]) hP hD rfl
  clear hP hD
  obtain ⟨hP, hD⟩ := h9
  refine W.widen (k := 3) (n := 91) (Nat.le_of_ble_eq_true rfl) (Nat.le_of_ble_eq_true rfl) ?_
  refine va_putF (D := E.1) (ci := 6) (v := .ref q_3) (ty := .array .int) (C := RX5) (T := TX5) (N := 6) hx hb hts i_k_State_X5 tyX5 tyX5_ok nmX5 hown hK hP hD hS 0 rfl rfl 4 (by decide) (hts (.fieldLink RX5 25 "HushWatch$State" "share" "[I") (List.mem_of_getElem? (i := 9) rfl)) (fun _ h9 => h9) rfl hin rfl (by decide +kernel) rfl rfl (Nat.le_of_ble_eq_true rfl) (dq_181 0 bcX5_init_0 (j := 34) (i := 25) rfl rfl rfl) (fun H locs hP hD hS => ?_)
  have h9 := fixPD (ws' := [(av, .inr (6, [.ref q_1, .ref q_2, .int (0 : Int32), .int (0 : Int32), .ref q_3, .null])), k_I E q_1 81 (fun _ => 0), k_I E q_2 8 (fun _ => 0), k_I E q_3 2 (fun _ => 0)]) hP hD rfl
  clear hP hD
  obtain ⟨hP, hD⟩ := h9
  refine lv_aload_n hx hb (dq_42 0 bcX5_init_0 (j := 37) rfl rfl) rfl (lv_at hl 0 rfl) ?_
  refine lv_iconst (v := 2) hx hb (dq_5 0 bcX5_init_0 (j := 38) rfl rfl) (by decide) ?_
  refine nw_arr (atype := .int) (ty := .int) (a0 := (2, .inl (fun _ => 0))) hx hb (hts (.arrayClass .int) (List.mem_of_getElem? (i := 4) rfl)) rfl hK hP hD hS hA 0 rfl (fun _ _ a b => Option.some.inj (a.symm.trans b)) (fun _ => rfl) (by decide) rfl (Nat.le_of_ble_eq_true rfl) (Nat.le_of_ble_eq_true rfl) (Nat.le_of_ble_eq_true rfl) dX5_init_39 (fun q_4 H hP hD hS => ?_)
  have h9 := fixPD (ws' := [(av, .inr (6, [.ref q_1, .ref q_2, .int (0 : Int32), .int (0 : Int32), .ref q_3, .null])), k_I E q_1 81 (fun _ => 0), k_I E q_2 8 (fun _ => 0), k_I E q_3 2 (fun _ => 0), k_I E q_4 2 (fun _ => 0)]) hP hD rfl
  clear hP hD
  obtain ⟨hP, hD⟩ := h9
  refine W.widen (k := 4) (n := 93) (Nat.le_of_ble_eq_true rfl) (Nat.le_of_ble_eq_true rfl) ?_
  refine va_putF (D := E.1) (ci := 6) (v := .ref q_4) (ty := .array .int) (C := RX5) (T := TX5) (N := 6) hx hb hts i_k_State_X5 tyX5 tyX5_ok nmX5 hown hK hP hD hS 0 rfl rfl 5 (by decide) (hts (.fieldLink RX5 28 "HushWatch$State" "leftOver" "[I") (List.mem_of_getElem? (i := 10) rfl)) (fun _ h9 => h9) rfl hin rfl (by decide +kernel) rfl rfl (Nat.le_of_ble_eq_true rfl) (dq_181 0 bcX5_init_0 (j := 41) (i := 28) rfl rfl rfl) (fun H locs hP hD hS => ?_)
  have h9 := fixPD (ws' := [k_X5 av q_1 q_2 (0 : Int32) (0 : Int32) q_3 q_4, k_I E q_1 81 (fun _ => 0), k_I E q_2 8 (fun _ => 0), k_I E q_3 2 (fun _ => 0), k_I E q_4 2 (fun _ => 0)]) hP hD rfl
  clear hP hD
  obtain ⟨hP, hD⟩ := h9
  have hP9 := hP.sub (ws' := [k_X5 av q_1 q_2 (0 : Int32) (0 : Int32) q_3 q_4, k_I E q_1 81 (fun _ => 0), k_I E q_2 8 (fun _ => 0), k_I E q_3 2 (fun _ => 0), k_I E q_4 2 (fun _ => 0)]) [0, 1, 2, 3, 4] rfl
  have hD9 := hD.sub (ws' := [k_X5 av q_1 q_2 (0 : Int32) (0 : Int32) q_3 q_4, k_I E q_1 81 (fun _ => 0), k_I E q_2 8 (fun _ => 0), k_I E q_3 2 (fun _ => 0), k_I E q_4 2 (fun _ => 0)]) [0, 1, 2, 3, 4] (by decide) rfl
  rw [hQ]
  exact W.vret hx hb hr (fun tt ht hW => ⟨⟨fun i => ([q_1, q_2, q_3, q_4] : List Nat).getD i 0, rfl, trivial, by rw [ht]; exact hP9, hD9⟩, hS.F ht⟩) hS.2.2 (dq_177 0 bcX5_init_0 (j := 44) rfl rfl)

def v_k_Book : List Cond := List.cons (.code yX0_init cX0_init 1 none) (HAppend.hAppend (α := List Cond) (β := List Cond) (γ := List Cond) [.methodLink RX0 3 objectInit, .instanceMethod objectInit, .code objectInit ⟨#[0xb1]⟩ 1 none, .arrayClass .int, .fieldLink RX0 11 "HushWatch$Book" "lines" "[I"] (HAppend.hAppend (α := List Cond) (β := List Cond) (γ := List Cond) wsX00 []))
theorem gw_k_Book : v_k_Book.all goodWord = true := gw_c2 (by decide +kernel) (gw_ap gw_wsX00 gw_nil)
theorem i_k_Book_X0 : ∀ w ∈ wsX00, w ∈ v_k_Book := fun _ h => List.mem_cons_of_mem _ (List.mem_append_right _ (List.mem_append_left _ h))
set_option maxHeartbeats 4000000 in
set_option maxRecDepth 100000 in
theorem k_Book (l : Launch) (E : EE) (sz : Nat) {av : Nat}   : Met l yX0_init v_k_Book (({ frames := 1, cells := 1, slots := 300, locals := 20 } : Room)) (va_Pc [.ref av] (pW E sz [(av, .inr (1, [.null]))])) (va_Qv (fun (_u : Nat → Nat) => True) (fun (u : Nat → Nat) tt => va_P E.1 vwCl [k_X0 av (u 0), k_I E (u 0) 300 (fun _ => 0)] tt.heap ∧ va_D (va_A [(av, .inr (1, [.null]))] sz) [k_X0 av (u 0), k_I E (u 0) 300 (fun _ => 0)]) (va_A [(av, .inr (1, [.null]))] sz)) 1 300 (va_A [(av, .inr (1, [.null]))] sz) := by
  refine Met.ofW (cc := cX0_init) (maxL := 1) (ret := none) (by decide) rfl ?_
  intro p e s m args below meth c s₁ B hml hv
  obtain ⟨rfl, hsz, ⟨hK, hN⟩, hP, hD0⟩ := hv
  have hx := B.exec
  have hb := B.bytes
  have hr := B.returns
  have hts := atoms_spec (ws := v_k_Book) B.pre
  have hown : s.vm.findClass RX0 = some m.cls := own_of (by decide +kernel) (findClass_of_methodNamed B.named)
  have hlocks : meth.locks = false := B.notSynchronized
  have hin : meth.name = "<init>" := (name_of_methodNamed B.named B.method).1
  subst hsz
  have hD := hD0.self (sz := s.heap.size)
  generalize hAe : va_A [(av, .inr (1, [.null]))] s.heap.size = A at hD ⊢
  have hA : ∀ q : Nat, s.heap.size ≤ q → A q := fun q h => by rw [← hAe]; exact Or.inr h
  have hS : va_S A s.heap s.heap [] := va_S.rf
  have hl := lv_entry ([.ref av]) (n := 1) (Nat.le_of_ble_eq_true rfl)
  rw [lg_entry_eq]
  generalize (lg_sl ([.ref av]) ++ List.replicate (1 - (lg_sl ([.ref av])).length) Slot.unset).toArray = ls at hl ⊢
  have hl : lv_has ls 1 [(0, .ref av)] := hl
  obtain ⟨Q, hQ⟩ : ∃ Q : State → Prop, Q = MQ below (va_Qv (fun (_u : Nat → Nat) => True) (fun (u : Nat → Nat) tt => va_P E.1 vwCl [k_X0 av (u 0), k_I E (u 0) 300 (fun _ => 0)] tt.heap ∧ va_D A [k_X0 av (u 0), k_I E (u 0) 300 (fun _ => 0)]) A) #[Value.ref av] s 1 300 A := ⟨_, rfl⟩
  rw [← hQ]
  change W p l e ({ frames := 1, cells := 1, slots := 300, locals := 20 } : Room) s m #[Value.ref av] below meth c s.heap [] 0 0 Q (F0 m 0 ls [])
  suffices hh9 : ∀ (H : Heap) (locs : List Loc), va_P E.1 vwCl [(av, .inr (1, [.null]))] H → va_D A [(av, .inr (1, [.null]))] → va_S A s.heap H locs → W p l e ({ frames := 1, cells := 1, slots := 300, locals := 20 } : Room) s m #[Value.ref av] below meth c H locs 0 0 Q (F0 m 0 ls []) from hh9 s.heap [] hP hD hS
  clear hP hD hS
  intro H locs hP hD hS
  have h9 := fixPD (ws' := [(av, .inr (1, [.null]))]) hP hD rfl
  clear hP hD
  obtain ⟨hP, hD⟩ := h9
  refine lv_aload_n hx hb (dq_42 0 bcX0_init_0 (j := 0) rfl rfl) rfl (lv_at hl 0 rfl) ?_
  refine W.objInit hx hb hown (hts (.methodLink RX0 3 objectInit) (List.mem_of_getElem? (i := 1) rfl)) (hts (.instanceMethod objectInit) (List.mem_of_getElem? (i := 2) rfl)) (hts (.code objectInit ⟨#[0xb1]⟩ 1 none) (List.mem_of_getElem? (i := 3) rfl)) rfl (by rw [hml]; exact hl.1) rfl (dq_183 0 bcX0_init_0 (j := 1) (i := 3) rfl rfl rfl) (Nat.le_of_ble_eq_true rfl) (Nat.le_of_ble_eq_true rfl) ?_
  refine W.eq (g2 := F0 m 4 ls []) rfl ?_
  refine lv_aload_n hx hb (dq_42 0 bcX0_init_0 (j := 4) rfl rfl) rfl (lv_at hl 0 rfl) ?_
  refine lv_sipush (v := 300) hx hb (dq_17 0 bcX0_init_0 (j := 5) (i := 300) rfl rfl rfl) (by decide) ?_
  refine nw_arr (atype := .int) (ty := .int) (a0 := (300, .inl (fun _ => 0))) hx hb (hts (.arrayClass .int) (List.mem_of_getElem? (i := 4) rfl)) rfl hK hP hD hS hA 0 rfl (fun _ _ a b => Option.some.inj (a.symm.trans b)) (fun _ => rfl) (by decide) rfl (Nat.le_of_ble_eq_true rfl) (Nat.le_of_ble_eq_true rfl) (Nat.le_of_ble_eq_true rfl) dX0_init_8 (fun q_1 H hP hD hS => ?_)
  have h9 := fixPD (ws' := [(av, .inr (1, [.null])), k_I E q_1 300 (fun _ => 0)]) hP hD rfl
  clear hP hD
  obtain ⟨hP, hD⟩ := h9
  refine W.widen (k := 1) (n := 300) (Nat.le_of_ble_eq_true rfl) (Nat.le_of_ble_eq_true rfl) ?_
  refine va_putF (D := E.1) (ci := 1) (v := .ref q_1) (ty := .array .int) (C := RX0) (T := TX0) (N := 1) hx hb hts i_k_Book_X0 tyX0 tyX0_ok nmX0 hown hK hP hD hS 0 rfl rfl 0 (by decide) (hts (.fieldLink RX0 11 "HushWatch$Book" "lines" "[I") (List.mem_of_getElem? (i := 5) rfl)) (fun _ h9 => h9) rfl hin rfl (by decide +kernel) rfl rfl (Nat.le_of_ble_eq_true rfl) (dq_181 0 bcX0_init_0 (j := 10) (i := 11) rfl rfl rfl) (fun H locs hP hD hS => ?_)
  have h9 := fixPD (ws' := [k_X0 av q_1, k_I E q_1 300 (fun _ => 0)]) hP hD rfl
  clear hP hD
  obtain ⟨hP, hD⟩ := h9
  have hP9 := hP.sub (ws' := [k_X0 av q_1, k_I E q_1 300 (fun _ => 0)]) [0, 1] rfl
  have hD9 := hD.sub (ws' := [k_X0 av q_1, k_I E q_1 300 (fun _ => 0)]) [0, 1] (by decide) rfl
  rw [hQ]
  exact W.vret hx hb hr (fun tt ht hW => ⟨⟨fun i => ([q_1] : List Nat).getD i 0, rfl, trivial, by rw [ht]; exact hP9, hD9⟩, hS.F ht⟩) hS.2.2 (dq_177 0 bcX0_init_0 (j := 13) rfl rfl)

def v_k_History : List Cond := List.cons (.code yX2_init cX2_init 1 none) (HAppend.hAppend (α := List Cond) (β := List Cond) (γ := List Cond) [.methodLink RX2 3 objectInit, .instanceMethod objectInit, .code objectInit ⟨#[0xb1]⟩ 1 none, .arrayClass .int, .fieldLink RX2 11 "HushWatch$History" "rows" "[I", .fieldLink RX2 17 "HushWatch$History" "next" "I", .fieldLink RX2 21 "HushWatch$History" "held" "I"] (HAppend.hAppend (α := List Cond) (β := List Cond) (γ := List Cond) wsX20 []))
theorem gw_k_History : v_k_History.all goodWord = true := gw_c2 (by decide +kernel) (gw_ap gw_wsX20 gw_nil)
theorem i_k_History_X2 : ∀ w ∈ wsX20, w ∈ v_k_History := fun _ h => List.mem_cons_of_mem _ (List.mem_append_right _ (List.mem_append_left _ h))
set_option maxHeartbeats 4000000 in
set_option maxRecDepth 100000 in
theorem k_History (l : Launch) (E : EE) (sz : Nat) {av : Nat}   : Met l yX2_init v_k_History (({ frames := 1, cells := 1, slots := 3240, locals := 20 } : Room)) (va_Pc [.ref av] (pW E sz [(av, .inr (3, [.null, .int (0 : Int32), .int (0 : Int32)]))])) (va_Qv (fun (_u : Nat → Nat) => True) (fun (u : Nat → Nat) tt => va_P E.1 vwCl [k_X2 av (u 0) (0 : Int32) (0 : Int32), k_I E (u 0) 3240 (fun _ => 0)] tt.heap ∧ va_D (va_A [(av, .inr (3, [.null, .int (0 : Int32), .int (0 : Int32)]))] sz) [k_X2 av (u 0) (0 : Int32) (0 : Int32), k_I E (u 0) 3240 (fun _ => 0)]) (va_A [(av, .inr (3, [.null, .int (0 : Int32), .int (0 : Int32)]))] sz)) 1 3240 (va_A [(av, .inr (3, [.null, .int (0 : Int32), .int (0 : Int32)]))] sz) := by
  refine Met.ofW (cc := cX2_init) (maxL := 1) (ret := none) (by decide) rfl ?_
  intro p e s m args below meth c s₁ B hml hv
  obtain ⟨rfl, hsz, ⟨hK, hN⟩, hP, hD0⟩ := hv
  have hx := B.exec
  have hb := B.bytes
  have hr := B.returns
  have hts := atoms_spec (ws := v_k_History) B.pre
  have hown : s.vm.findClass RX2 = some m.cls := own_of (by decide +kernel) (findClass_of_methodNamed B.named)
  have hlocks : meth.locks = false := B.notSynchronized
  have hin : meth.name = "<init>" := (name_of_methodNamed B.named B.method).1
  subst hsz
  have hD := hD0.self (sz := s.heap.size)
  generalize hAe : va_A [(av, .inr (3, [.null, .int (0 : Int32), .int (0 : Int32)]))] s.heap.size = A at hD ⊢
  have hA : ∀ q : Nat, s.heap.size ≤ q → A q := fun q h => by rw [← hAe]; exact Or.inr h
  have hS : va_S A s.heap s.heap [] := va_S.rf
  have hl := lv_entry ([.ref av]) (n := 1) (Nat.le_of_ble_eq_true rfl)
  rw [lg_entry_eq]
  generalize (lg_sl ([.ref av]) ++ List.replicate (1 - (lg_sl ([.ref av])).length) Slot.unset).toArray = ls at hl ⊢
  have hl : lv_has ls 1 [(0, .ref av)] := hl
  obtain ⟨Q, hQ⟩ : ∃ Q : State → Prop, Q = MQ below (va_Qv (fun (_u : Nat → Nat) => True) (fun (u : Nat → Nat) tt => va_P E.1 vwCl [k_X2 av (u 0) (0 : Int32) (0 : Int32), k_I E (u 0) 3240 (fun _ => 0)] tt.heap ∧ va_D A [k_X2 av (u 0) (0 : Int32) (0 : Int32), k_I E (u 0) 3240 (fun _ => 0)]) A) #[Value.ref av] s 1 3240 A := ⟨_, rfl⟩
  rw [← hQ]
  change W p l e ({ frames := 1, cells := 1, slots := 3240, locals := 20 } : Room) s m #[Value.ref av] below meth c s.heap [] 0 0 Q (F0 m 0 ls [])
  suffices hh9 : ∀ (H : Heap) (locs : List Loc), va_P E.1 vwCl [(av, .inr (3, [.null, .int (0 : Int32), .int (0 : Int32)]))] H → va_D A [(av, .inr (3, [.null, .int (0 : Int32), .int (0 : Int32)]))] → va_S A s.heap H locs → W p l e ({ frames := 1, cells := 1, slots := 3240, locals := 20 } : Room) s m #[Value.ref av] below meth c H locs 0 0 Q (F0 m 0 ls []) from hh9 s.heap [] hP hD hS
  clear hP hD hS
  intro H locs hP hD hS
  have h9 := fixPD (ws' := [(av, .inr (3, [.null, .int (0 : Int32), .int (0 : Int32)]))]) hP hD rfl
  clear hP hD
  obtain ⟨hP, hD⟩ := h9
  refine lv_aload_n hx hb (dq_42 0 bcX2_init_0 (j := 0) rfl rfl) rfl (lv_at hl 0 rfl) ?_
  refine W.objInit hx hb hown (hts (.methodLink RX2 3 objectInit) (List.mem_of_getElem? (i := 1) rfl)) (hts (.instanceMethod objectInit) (List.mem_of_getElem? (i := 2) rfl)) (hts (.code objectInit ⟨#[0xb1]⟩ 1 none) (List.mem_of_getElem? (i := 3) rfl)) rfl (by rw [hml]; exact hl.1) rfl (dq_183 0 bcX2_init_0 (j := 1) (i := 3) rfl rfl rfl) (Nat.le_of_ble_eq_true rfl) (Nat.le_of_ble_eq_true rfl) ?_
  refine W.eq (g2 := F0 m 4 ls []) rfl ?_
  refine lv_aload_n hx hb (dq_42 0 bcX2_init_0 (j := 4) rfl rfl) rfl (lv_at hl 0 rfl) ?_
  refine lv_sipush (v := 3240) hx hb (dq_17 0 bcX2_init_0 (j := 5) (i := 3240) rfl rfl rfl) (by decide) ?_
  refine nw_arr (atype := .int) (ty := .int) (a0 := (3240, .inl (fun _ => 0))) hx hb (hts (.arrayClass .int) (List.mem_of_getElem? (i := 4) rfl)) rfl hK hP hD hS hA 0 rfl (fun _ _ a b => Option.some.inj (a.symm.trans b)) (fun _ => rfl) (by decide) rfl (Nat.le_of_ble_eq_true rfl) (Nat.le_of_ble_eq_true rfl) (Nat.le_of_ble_eq_true rfl) dX2_init_8 (fun q_1 H hP hD hS => ?_)
  have h9 := fixPD (ws' := [(av, .inr (3, [.null, .int (0 : Int32), .int (0 : Int32)])), k_I E q_1 3240 (fun _ => 0)]) hP hD rfl
  clear hP hD
  obtain ⟨hP, hD⟩ := h9
  refine W.widen (k := 1) (n := 3240) (Nat.le_of_ble_eq_true rfl) (Nat.le_of_ble_eq_true rfl) ?_
  refine va_putF (D := E.1) (ci := 3) (v := .ref q_1) (ty := .array .int) (C := RX2) (T := TX2) (N := 3) hx hb hts i_k_History_X2 tyX2 tyX2_ok nmX2 hown hK hP hD hS 0 rfl rfl 0 (by decide) (hts (.fieldLink RX2 11 "HushWatch$History" "rows" "[I") (List.mem_of_getElem? (i := 5) rfl)) (fun _ h9 => h9) rfl hin rfl (by decide +kernel) rfl rfl (Nat.le_of_ble_eq_true rfl) (dq_181 0 bcX2_init_0 (j := 10) (i := 11) rfl rfl rfl) (fun H locs hP hD hS => ?_)
  have h9 := fixPD (ws' := [k_X2 av q_1 (0 : Int32) (0 : Int32), k_I E q_1 3240 (fun _ => 0)]) hP hD rfl
  clear hP hD
  obtain ⟨hP, hD⟩ := h9
  refine lv_aload_n hx hb (dq_42 0 bcX2_init_0 (j := 13) rfl rfl) rfl (lv_at hl 0 rfl) ?_
  refine lv_iconst (v := 0) hx hb (dq_3 0 bcX2_init_0 (j := 14) rfl rfl) (by decide) ?_
  refine va_put (D := E.1) (ci := 3) (v := .int (0 : Int32)) (ty := .int) (C := RX2) (T := TX2) (N := 3) hx hb hts i_k_History_X2 tyX2 tyX2_ok nmX2 hown hK hP hD hS 0 rfl rfl 1 (by decide) (hts (.fieldLink RX2 17 "HushWatch$History" "next" "I") (List.mem_of_getElem? (i := 6) rfl)) (fun _ h9 => h9) rfl (by decide +kernel) rfl rfl (Nat.le_of_ble_eq_true rfl) (dq_181 0 bcX2_init_0 (j := 15) (i := 17) rfl rfl rfl) (fun H locs hP hD hS => ?_)
  have h9 := fixPD (ws' := [k_X2 av q_1 (0 : Int32) (0 : Int32), k_I E q_1 3240 (fun _ => 0)]) hP hD rfl
  clear hP hD
  obtain ⟨hP, hD⟩ := h9
  refine lv_aload_n hx hb (dq_42 0 bcX2_init_0 (j := 18) rfl rfl) rfl (lv_at hl 0 rfl) ?_
  refine lv_iconst (v := 0) hx hb (dq_3 0 bcX2_init_0 (j := 19) rfl rfl) (by decide) ?_
  refine va_put (D := E.1) (ci := 3) (v := .int (0 : Int32)) (ty := .int) (C := RX2) (T := TX2) (N := 3) hx hb hts i_k_History_X2 tyX2 tyX2_ok nmX2 hown hK hP hD hS 0 rfl rfl 2 (by decide) (hts (.fieldLink RX2 21 "HushWatch$History" "held" "I") (List.mem_of_getElem? (i := 7) rfl)) (fun _ h9 => h9) rfl (by decide +kernel) rfl rfl (Nat.le_of_ble_eq_true rfl) (dq_181 0 bcX2_init_0 (j := 20) (i := 21) rfl rfl rfl) (fun H locs hP hD hS => ?_)
  have h9 := fixPD (ws' := [k_X2 av q_1 (0 : Int32) (0 : Int32), k_I E q_1 3240 (fun _ => 0)]) hP hD rfl
  clear hP hD
  obtain ⟨hP, hD⟩ := h9
  have hP9 := hP.sub (ws' := [k_X2 av q_1 (0 : Int32) (0 : Int32), k_I E q_1 3240 (fun _ => 0)]) [0, 1] rfl
  have hD9 := hD.sub (ws' := [k_X2 av q_1 (0 : Int32) (0 : Int32), k_I E q_1 3240 (fun _ => 0)]) [0, 1] (by decide) rfl
  rw [hQ]
  exact W.vret hx hb hr (fun tt ht hW => ⟨⟨fun i => ([q_1] : List Nat).getD i 0, rfl, trivial, by rw [ht]; exact hP9, hD9⟩, hS.F ht⟩) hS.2.2 (dq_177 0 bcX2_init_0 (j := 23) rfl rfl)

def v_k_Draws : List Cond := List.cons (.code yX1_init cX1_init 1 none) (HAppend.hAppend (α := List Cond) (β := List Cond) (γ := List Cond) [.methodLink RX1 3 objectInit, .instanceMethod objectInit, .code objectInit ⟨#[0xb1]⟩ 1 none, .fieldLink RX1 9 "HushWatch$Draws" "x" "J", .fieldLink RX1 15 "HushWatch$Draws" "sort" "I", .fieldLink RX1 19 "HushWatch$Draws" "a" "I", .fieldLink RX1 22 "HushWatch$Draws" "b" "I", .fieldLink RX1 25 "HushWatch$Draws" "c" "I"] (HAppend.hAppend (α := List Cond) (β := List Cond) (γ := List Cond) wsX10 []))
theorem gw_k_Draws : v_k_Draws.all goodWord = true := gw_c2 (by decide +kernel) (gw_ap gw_wsX10 gw_nil)
theorem i_k_Draws_X1 : ∀ w ∈ wsX10, w ∈ v_k_Draws := fun _ h => List.mem_cons_of_mem _ (List.mem_append_right _ (List.mem_append_left _ h))
set_option maxHeartbeats 4000000 in
set_option maxRecDepth 100000 in
theorem k_Draws (l : Launch) (E : EE) (sz : Nat) {av : Nat}   : Met l yX1_init v_k_Draws (({ frames := 1, cells := 0, slots := 0, locals := 20 } : Room)) (va_Pc [.ref av] (pW E sz [k_X1 av (0 : Int64) (0 : Int32) (0 : Int32) (0 : Int32) (0 : Int32)])) (va_Qv (fun (_u : Nat → Nat) => True) (fun (u : Nat → Nat) tt => va_P E.1 vwCl [k_X1 av (0 : Int64) (1 : Int32) (-1 : Int32) (0 : Int32) (0 : Int32)] tt.heap ∧ va_D (va_A [k_X1 av (0 : Int64) (0 : Int32) (0 : Int32) (0 : Int32) (0 : Int32)] sz) [k_X1 av (0 : Int64) (1 : Int32) (-1 : Int32) (0 : Int32) (0 : Int32)]) (va_A [k_X1 av (0 : Int64) (0 : Int32) (0 : Int32) (0 : Int32) (0 : Int32)] sz)) 0 0 (va_A [k_X1 av (0 : Int64) (0 : Int32) (0 : Int32) (0 : Int32) (0 : Int32)] sz) := by
  refine Met.ofW (cc := cX1_init) (maxL := 1) (ret := none) (by decide) rfl ?_
  intro p e s m args below meth c s₁ B hml hv
  obtain ⟨rfl, hsz, ⟨hK, hN⟩, hP, hD0⟩ := hv
  have hx := B.exec
  have hb := B.bytes
  have hr := B.returns
  have hts := atoms_spec (ws := v_k_Draws) B.pre
  have hown : s.vm.findClass RX1 = some m.cls := own_of (by decide +kernel) (findClass_of_methodNamed B.named)
  have hlocks : meth.locks = false := B.notSynchronized
  have hin : meth.name = "<init>" := (name_of_methodNamed B.named B.method).1
  subst hsz
  have hD := hD0.self (sz := s.heap.size)
  generalize hAe : va_A [k_X1 av (0 : Int64) (0 : Int32) (0 : Int32) (0 : Int32) (0 : Int32)] s.heap.size = A at hD ⊢
  have hA : ∀ q : Nat, s.heap.size ≤ q → A q := fun q h => by rw [← hAe]; exact Or.inr h
  have hS : va_S A s.heap s.heap [] := va_S.rf
  have hl := lv_entry ([.ref av]) (n := 1) (Nat.le_of_ble_eq_true rfl)
  rw [lg_entry_eq]
  generalize (lg_sl ([.ref av]) ++ List.replicate (1 - (lg_sl ([.ref av])).length) Slot.unset).toArray = ls at hl ⊢
  have hl : lv_has ls 1 [(0, .ref av)] := hl
  obtain ⟨Q, hQ⟩ : ∃ Q : State → Prop, Q = MQ below (va_Qv (fun (_u : Nat → Nat) => True) (fun (u : Nat → Nat) tt => va_P E.1 vwCl [k_X1 av (0 : Int64) (1 : Int32) (-1 : Int32) (0 : Int32) (0 : Int32)] tt.heap ∧ va_D A [k_X1 av (0 : Int64) (1 : Int32) (-1 : Int32) (0 : Int32) (0 : Int32)]) A) #[Value.ref av] s 0 0 A := ⟨_, rfl⟩
  rw [← hQ]
  change W p l e ({ frames := 1, cells := 0, slots := 0, locals := 20 } : Room) s m #[Value.ref av] below meth c s.heap [] 0 0 Q (F0 m 0 ls [])
  suffices hh9 : ∀ (H : Heap) (locs : List Loc), va_P E.1 vwCl [k_X1 av (0 : Int64) (0 : Int32) (0 : Int32) (0 : Int32) (0 : Int32)] H → va_D A [k_X1 av (0 : Int64) (0 : Int32) (0 : Int32) (0 : Int32) (0 : Int32)] → va_S A s.heap H locs → W p l e ({ frames := 1, cells := 0, slots := 0, locals := 20 } : Room) s m #[Value.ref av] below meth c H locs 0 0 Q (F0 m 0 ls []) from hh9 s.heap [] hP hD hS
  clear hP hD hS
  intro H locs hP hD hS
  have h9 := fixPD (ws' := [k_X1 av (0 : Int64) (0 : Int32) (0 : Int32) (0 : Int32) (0 : Int32)]) hP hD rfl
  clear hP hD
  obtain ⟨hP, hD⟩ := h9
  refine lv_aload_n hx hb (dq_42 0 bcX1_init_0 (j := 0) rfl rfl) rfl (lv_at hl 0 rfl) ?_
  refine W.objInit hx hb hown (hts (.methodLink RX1 3 objectInit) (List.mem_of_getElem? (i := 1) rfl)) (hts (.instanceMethod objectInit) (List.mem_of_getElem? (i := 2) rfl)) (hts (.code objectInit ⟨#[0xb1]⟩ 1 none) (List.mem_of_getElem? (i := 3) rfl)) rfl (by rw [hml]; exact hl.1) rfl (dq_183 0 bcX1_init_0 (j := 1) (i := 3) rfl rfl rfl) (Nat.le_of_ble_eq_true rfl) (Nat.le_of_ble_eq_true rfl) ?_
  refine W.eq (g2 := F0 m 4 ls []) rfl ?_
  refine lv_aload_n hx hb (dq_42 0 bcX1_init_0 (j := 4) rfl rfl) rfl (lv_at hl 0 rfl) ?_
  refine lv_lconst (v := 0) hx hb (dq_9 0 bcX1_init_0 (j := 5) rfl rfl) (by decide) ?_
  refine va_put (D := E.1) (ci := 2) (v := .long (0 : Int64)) (ty := .long) (C := RX1) (T := TX1) (N := 5) hx hb hts i_k_Draws_X1 tyX1 tyX1_ok nmX1 hown hK hP hD hS 0 rfl rfl 0 (by decide) (hts (.fieldLink RX1 9 "HushWatch$Draws" "x" "J") (List.mem_of_getElem? (i := 4) rfl)) (fun _ h9 => h9) rfl (by decide +kernel) rfl rfl (Nat.le_of_ble_eq_true rfl) (dq_181 0 bcX1_init_0 (j := 6) (i := 9) rfl rfl rfl) (fun H locs hP hD hS => ?_)
  have h9 := fixPD (ws' := [k_X1 av (0 : Int64) (0 : Int32) (0 : Int32) (0 : Int32) (0 : Int32)]) hP hD rfl
  clear hP hD
  obtain ⟨hP, hD⟩ := h9
  refine lv_aload_n hx hb (dq_42 0 bcX1_init_0 (j := 9) rfl rfl) rfl (lv_at hl 0 rfl) ?_
  refine lv_iconst (v := 1) hx hb (dq_4 0 bcX1_init_0 (j := 10) rfl rfl) (by decide) ?_
  refine va_put (D := E.1) (ci := 2) (v := .int (1 : Int32)) (ty := .int) (C := RX1) (T := TX1) (N := 5) hx hb hts i_k_Draws_X1 tyX1 tyX1_ok nmX1 hown hK hP hD hS 0 rfl rfl 1 (by decide) (hts (.fieldLink RX1 15 "HushWatch$Draws" "sort" "I") (List.mem_of_getElem? (i := 5) rfl)) (fun _ h9 => h9) rfl (by decide +kernel) rfl rfl (Nat.le_of_ble_eq_true rfl) (dq_181 0 bcX1_init_0 (j := 11) (i := 15) rfl rfl rfl) (fun H locs hP hD hS => ?_)
  have h9 := fixPD (ws' := [k_X1 av (0 : Int64) (1 : Int32) (0 : Int32) (0 : Int32) (0 : Int32)]) hP hD rfl
  clear hP hD
  obtain ⟨hP, hD⟩ := h9
  refine lv_aload_n hx hb (dq_42 0 bcX1_init_0 (j := 14) rfl rfl) rfl (lv_at hl 0 rfl) ?_
  refine lv_iconst (v := -1) hx hb (dq_2 0 bcX1_init_0 (j := 15) rfl rfl) (by decide) ?_
  refine va_put (D := E.1) (ci := 2) (v := .int (-1 : Int32)) (ty := .int) (C := RX1) (T := TX1) (N := 5) hx hb hts i_k_Draws_X1 tyX1 tyX1_ok nmX1 hown hK hP hD hS 0 rfl rfl 2 (by decide) (hts (.fieldLink RX1 19 "HushWatch$Draws" "a" "I") (List.mem_of_getElem? (i := 6) rfl)) (fun _ h9 => h9) rfl (by decide +kernel) rfl rfl (Nat.le_of_ble_eq_true rfl) (dq_181 0 bcX1_init_0 (j := 16) (i := 19) rfl rfl rfl) (fun H locs hP hD hS => ?_)
  have h9 := fixPD (ws' := [k_X1 av (0 : Int64) (1 : Int32) (-1 : Int32) (0 : Int32) (0 : Int32)]) hP hD rfl
  clear hP hD
  obtain ⟨hP, hD⟩ := h9
  refine lv_aload_n hx hb (dq_42 0 bcX1_init_0 (j := 19) rfl rfl) rfl (lv_at hl 0 rfl) ?_
  refine lv_iconst (v := 0) hx hb (dq_3 0 bcX1_init_0 (j := 20) rfl rfl) (by decide) ?_
  refine va_put (D := E.1) (ci := 2) (v := .int (0 : Int32)) (ty := .int) (C := RX1) (T := TX1) (N := 5) hx hb hts i_k_Draws_X1 tyX1 tyX1_ok nmX1 hown hK hP hD hS 0 rfl rfl 3 (by decide) (hts (.fieldLink RX1 22 "HushWatch$Draws" "b" "I") (List.mem_of_getElem? (i := 7) rfl)) (fun _ h9 => h9) rfl (by decide +kernel) rfl rfl (Nat.le_of_ble_eq_true rfl) (dq_181 0 bcX1_init_0 (j := 21) (i := 22) rfl rfl rfl) (fun H locs hP hD hS => ?_)
  have h9 := fixPD (ws' := [k_X1 av (0 : Int64) (1 : Int32) (-1 : Int32) (0 : Int32) (0 : Int32)]) hP hD rfl
  clear hP hD
  obtain ⟨hP, hD⟩ := h9
  refine lv_aload_n hx hb (dq_42 0 bcX1_init_0 (j := 24) rfl rfl) rfl (lv_at hl 0 rfl) ?_
  refine lv_iconst (v := 0) hx hb (dq_3 0 bcX1_init_0 (j := 25) rfl rfl) (by decide) ?_
  refine va_put (D := E.1) (ci := 2) (v := .int (0 : Int32)) (ty := .int) (C := RX1) (T := TX1) (N := 5) hx hb hts i_k_Draws_X1 tyX1 tyX1_ok nmX1 hown hK hP hD hS 0 rfl rfl 4 (by decide) (hts (.fieldLink RX1 25 "HushWatch$Draws" "c" "I") (List.mem_of_getElem? (i := 8) rfl)) (fun _ h9 => h9) rfl (by decide +kernel) rfl rfl (Nat.le_of_ble_eq_true rfl) (dq_181 0 bcX1_init_0 (j := 26) (i := 25) rfl rfl rfl) (fun H locs hP hD hS => ?_)
  have h9 := fixPD (ws' := [k_X1 av (0 : Int64) (1 : Int32) (-1 : Int32) (0 : Int32) (0 : Int32)]) hP hD rfl
  clear hP hD
  obtain ⟨hP, hD⟩ := h9
  have hP9 := hP.sub (ws' := [k_X1 av (0 : Int64) (1 : Int32) (-1 : Int32) (0 : Int32) (0 : Int32)]) [0] rfl
  have hD9 := hD.sub (ws' := [k_X1 av (0 : Int64) (1 : Int32) (-1 : Int32) (0 : Int32) (0 : Int32)]) [0] (by decide) rfl
  rw [hQ]
  exact W.vret hx hb hr (fun tt ht hW => ⟨⟨fun i => ([] : List Nat).getD i 0, rfl, trivial, by rw [ht]; exact hP9, hD9⟩, hS.F ht⟩) hS.2.2 (dq_177 0 bcX1_init_0 (j := 29) rfl rfl)

def v_k_M : List Cond := List.cons (.code yX8_init cX8_init 1 none) (HAppend.hAppend (α := List Cond) (β := List Cond) (γ := List Cond) [.methodLink RX8 3 objectInit, .instanceMethod objectInit, .code objectInit ⟨#[0xb1]⟩ 1 none, .arrayClass .int, .fieldLink RX8 9 "HushWatchModel" "tape" "[I", .fieldLink RX8 13 "HushWatchModel" "readPlace" "[I", .fieldLink RX8 16 "HushWatchModel" "script" "[I", .fieldLink RX8 19 "HushWatchModel" "scriptLong" "[I", .fieldLink RX8 22 "HushWatchModel" "now" "[I", .fieldLink RX8 25 "HushWatchModel" "refused" "[I", .fieldLink RX8 28 "HushWatchModel" "shareX" "[I", .fieldLink RX8 31 "HushWatchModel" "shareY" "[I", .fieldLink RX8 34 "HushWatchModel" "askedRow" "[I", .fieldLink RX8 37 "HushWatchModel" "kept" "[I", .fieldLink RX8 40 "HushWatchModel" "aside" "[I", .fieldLink RX8 43 "HushWatchModel" "spelled" "[I", .fieldLink RX8 46 "HushWatchModel" "image" "[I"] (HAppend.hAppend (α := List Cond) (β := List Cond) (γ := List Cond) wsX80 []))
theorem gw_k_M : v_k_M.all goodWord = true := gw_c2 (by decide +kernel) (gw_ap gw_wsX80 gw_nil)
theorem i_k_M_X8 : ∀ w ∈ wsX80, w ∈ v_k_M := fun _ h => List.mem_cons_of_mem _ (List.mem_append_right _ (List.mem_append_left _ h))
set_option maxHeartbeats 4000000 in
set_option maxRecDepth 100000 in
theorem k_M (l : Launch) (E : EE) (sz : Nat) {av : Nat}   : Met l yX8_init v_k_M (({ frames := 1, cells := 13, slots := 11862, locals := 20 } : Room)) (va_Pc [.ref av] (pW E sz [(av, .inr (9, [.int (0 : Int32), .null, .int (0 : Int32), .int (0 : Int32), .int (0 : Int32), .int (0 : Int32), .int (0 : Int32), .int (0 : Int32), .long (0 : Int64), .int (0 : Int32), .int (0 : Int32), .int (0 : Int32), .int (0 : Int32), .null, .null, .null, .int (0 : Int32), .null, .null, .int (0 : Int32), .null, .null, .int (0 : Int32), .int (0 : Int32), .null, .int (0 : Int32), .null, .int (0 : Int32), .long (0 : Int64), .null, .int (0 : Int32), .int (0 : Int32), .null, .int (0 : Int32), .null, .int (0 : Int32)]))])) (va_Qv (fun (_u : Nat → Nat) => True) (fun (u : Nat → Nat) tt => va_P E.1 vwCl [k_X8 av (0 : Int32) (u 0) (0 : Int32) (0 : Int32) (0 : Int32) (0 : Int32) (0 : Int32) (0 : Int32) (0 : Int64) (0 : Int32) (0 : Int32) (0 : Int32) (0 : Int32) (u 1) (u 2) (u 3) (0 : Int32) (u 4) (u 5) (0 : Int32) (u 6) (u 7) (0 : Int32) (0 : Int32) (u 8) (0 : Int32) (u 9) (0 : Int32) (0 : Int64) (u 10) (0 : Int32) (0 : Int32) (u 11) (0 : Int32) (u 12) (0 : Int32), k_I E (u 0) 320 (fun _ => 0), k_I E (u 1) 16 (fun _ => 0), k_I E (u 2) 240 (fun _ => 0), k_I E (u 3) 5 (fun _ => 0), k_I E (u 4) 265 (fun _ => 0), k_I E (u 5) 3 (fun _ => 0), k_I E (u 6) 8 (fun _ => 0), k_I E (u 7) 8 (fun _ => 0), k_I E (u 8) 8 (fun _ => 0), k_I E (u 9) 10600 (fun _ => 0), k_I E (u 10) 84 (fun _ => 0), k_I E (u 11) 40 (fun _ => 0), k_I E (u 12) 265 (fun _ => 0)] tt.heap ∧ va_D (va_A [(av, .inr (9, [.int (0 : Int32), .null, .int (0 : Int32), .int (0 : Int32), .int (0 : Int32), .int (0 : Int32), .int (0 : Int32), .int (0 : Int32), .long (0 : Int64), .int (0 : Int32), .int (0 : Int32), .int (0 : Int32), .int (0 : Int32), .null, .null, .null, .int (0 : Int32), .null, .null, .int (0 : Int32), .null, .null, .int (0 : Int32), .int (0 : Int32), .null, .int (0 : Int32), .null, .int (0 : Int32), .long (0 : Int64), .null, .int (0 : Int32), .int (0 : Int32), .null, .int (0 : Int32), .null, .int (0 : Int32)]))] sz) [k_X8 av (0 : Int32) (u 0) (0 : Int32) (0 : Int32) (0 : Int32) (0 : Int32) (0 : Int32) (0 : Int32) (0 : Int64) (0 : Int32) (0 : Int32) (0 : Int32) (0 : Int32) (u 1) (u 2) (u 3) (0 : Int32) (u 4) (u 5) (0 : Int32) (u 6) (u 7) (0 : Int32) (0 : Int32) (u 8) (0 : Int32) (u 9) (0 : Int32) (0 : Int64) (u 10) (0 : Int32) (0 : Int32) (u 11) (0 : Int32) (u 12) (0 : Int32), k_I E (u 0) 320 (fun _ => 0), k_I E (u 1) 16 (fun _ => 0), k_I E (u 2) 240 (fun _ => 0), k_I E (u 3) 5 (fun _ => 0), k_I E (u 4) 265 (fun _ => 0), k_I E (u 5) 3 (fun _ => 0), k_I E (u 6) 8 (fun _ => 0), k_I E (u 7) 8 (fun _ => 0), k_I E (u 8) 8 (fun _ => 0), k_I E (u 9) 10600 (fun _ => 0), k_I E (u 10) 84 (fun _ => 0), k_I E (u 11) 40 (fun _ => 0), k_I E (u 12) 265 (fun _ => 0)]) (va_A [(av, .inr (9, [.int (0 : Int32), .null, .int (0 : Int32), .int (0 : Int32), .int (0 : Int32), .int (0 : Int32), .int (0 : Int32), .int (0 : Int32), .long (0 : Int64), .int (0 : Int32), .int (0 : Int32), .int (0 : Int32), .int (0 : Int32), .null, .null, .null, .int (0 : Int32), .null, .null, .int (0 : Int32), .null, .null, .int (0 : Int32), .int (0 : Int32), .null, .int (0 : Int32), .null, .int (0 : Int32), .long (0 : Int64), .null, .int (0 : Int32), .int (0 : Int32), .null, .int (0 : Int32), .null, .int (0 : Int32)]))] sz)) 13 11862 (va_A [(av, .inr (9, [.int (0 : Int32), .null, .int (0 : Int32), .int (0 : Int32), .int (0 : Int32), .int (0 : Int32), .int (0 : Int32), .int (0 : Int32), .long (0 : Int64), .int (0 : Int32), .int (0 : Int32), .int (0 : Int32), .int (0 : Int32), .null, .null, .null, .int (0 : Int32), .null, .null, .int (0 : Int32), .null, .null, .int (0 : Int32), .int (0 : Int32), .null, .int (0 : Int32), .null, .int (0 : Int32), .long (0 : Int64), .null, .int (0 : Int32), .int (0 : Int32), .null, .int (0 : Int32), .null, .int (0 : Int32)]))] sz) := by
  refine Met.ofW (cc := cX8_init) (maxL := 1) (ret := none) (by decide) rfl ?_
  intro p e s m args below meth c s₁ B hml hv
  obtain ⟨rfl, hsz, ⟨hK, hN⟩, hP, hD0⟩ := hv
  have hx := B.exec
  have hb := B.bytes
  have hr := B.returns
  have hts := atoms_spec (ws := v_k_M) B.pre
  have hown : s.vm.findClass RX8 = some m.cls := own_of (by decide +kernel) (findClass_of_methodNamed B.named)
  have hlocks : meth.locks = false := B.notSynchronized
  have hin : meth.name = "<init>" := (name_of_methodNamed B.named B.method).1
  subst hsz
  have hD := hD0.self (sz := s.heap.size)
  generalize hAe : va_A [(av, .inr (9, [.int (0 : Int32), .null, .int (0 : Int32), .int (0 : Int32), .int (0 : Int32), .int (0 : Int32), .int (0 : Int32), .int (0 : Int32), .long (0 : Int64), .int (0 : Int32), .int (0 : Int32), .int (0 : Int32), .int (0 : Int32), .null, .null, .null, .int (0 : Int32), .null, .null, .int (0 : Int32), .null, .null, .int (0 : Int32), .int (0 : Int32), .null, .int (0 : Int32), .null, .int (0 : Int32), .long (0 : Int64), .null, .int (0 : Int32), .int (0 : Int32), .null, .int (0 : Int32), .null, .int (0 : Int32)]))] s.heap.size = A at hD ⊢
  have hA : ∀ q : Nat, s.heap.size ≤ q → A q := fun q h => by rw [← hAe]; exact Or.inr h
  have hS : va_S A s.heap s.heap [] := va_S.rf
  have hl := lv_entry ([.ref av]) (n := 1) (Nat.le_of_ble_eq_true rfl)
  rw [lg_entry_eq]
  generalize (lg_sl ([.ref av]) ++ List.replicate (1 - (lg_sl ([.ref av])).length) Slot.unset).toArray = ls at hl ⊢
  have hl : lv_has ls 1 [(0, .ref av)] := hl
  obtain ⟨Q, hQ⟩ : ∃ Q : State → Prop, Q = MQ below (va_Qv (fun (_u : Nat → Nat) => True) (fun (u : Nat → Nat) tt => va_P E.1 vwCl [k_X8 av (0 : Int32) (u 0) (0 : Int32) (0 : Int32) (0 : Int32) (0 : Int32) (0 : Int32) (0 : Int32) (0 : Int64) (0 : Int32) (0 : Int32) (0 : Int32) (0 : Int32) (u 1) (u 2) (u 3) (0 : Int32) (u 4) (u 5) (0 : Int32) (u 6) (u 7) (0 : Int32) (0 : Int32) (u 8) (0 : Int32) (u 9) (0 : Int32) (0 : Int64) (u 10) (0 : Int32) (0 : Int32) (u 11) (0 : Int32) (u 12) (0 : Int32), k_I E (u 0) 320 (fun _ => 0), k_I E (u 1) 16 (fun _ => 0), k_I E (u 2) 240 (fun _ => 0), k_I E (u 3) 5 (fun _ => 0), k_I E (u 4) 265 (fun _ => 0), k_I E (u 5) 3 (fun _ => 0), k_I E (u 6) 8 (fun _ => 0), k_I E (u 7) 8 (fun _ => 0), k_I E (u 8) 8 (fun _ => 0), k_I E (u 9) 10600 (fun _ => 0), k_I E (u 10) 84 (fun _ => 0), k_I E (u 11) 40 (fun _ => 0), k_I E (u 12) 265 (fun _ => 0)] tt.heap ∧ va_D A [k_X8 av (0 : Int32) (u 0) (0 : Int32) (0 : Int32) (0 : Int32) (0 : Int32) (0 : Int32) (0 : Int32) (0 : Int64) (0 : Int32) (0 : Int32) (0 : Int32) (0 : Int32) (u 1) (u 2) (u 3) (0 : Int32) (u 4) (u 5) (0 : Int32) (u 6) (u 7) (0 : Int32) (0 : Int32) (u 8) (0 : Int32) (u 9) (0 : Int32) (0 : Int64) (u 10) (0 : Int32) (0 : Int32) (u 11) (0 : Int32) (u 12) (0 : Int32), k_I E (u 0) 320 (fun _ => 0), k_I E (u 1) 16 (fun _ => 0), k_I E (u 2) 240 (fun _ => 0), k_I E (u 3) 5 (fun _ => 0), k_I E (u 4) 265 (fun _ => 0), k_I E (u 5) 3 (fun _ => 0), k_I E (u 6) 8 (fun _ => 0), k_I E (u 7) 8 (fun _ => 0), k_I E (u 8) 8 (fun _ => 0), k_I E (u 9) 10600 (fun _ => 0), k_I E (u 10) 84 (fun _ => 0), k_I E (u 11) 40 (fun _ => 0), k_I E (u 12) 265 (fun _ => 0)]) A) #[Value.ref av] s 13 11862 A := ⟨_, rfl⟩
  rw [← hQ]
  change W p l e ({ frames := 1, cells := 13, slots := 11862, locals := 20 } : Room) s m #[Value.ref av] below meth c s.heap [] 0 0 Q (F0 m 0 ls [])
  suffices hh9 : ∀ (H : Heap) (locs : List Loc), va_P E.1 vwCl [(av, .inr (9, [.int (0 : Int32), .null, .int (0 : Int32), .int (0 : Int32), .int (0 : Int32), .int (0 : Int32), .int (0 : Int32), .int (0 : Int32), .long (0 : Int64), .int (0 : Int32), .int (0 : Int32), .int (0 : Int32), .int (0 : Int32), .null, .null, .null, .int (0 : Int32), .null, .null, .int (0 : Int32), .null, .null, .int (0 : Int32), .int (0 : Int32), .null, .int (0 : Int32), .null, .int (0 : Int32), .long (0 : Int64), .null, .int (0 : Int32), .int (0 : Int32), .null, .int (0 : Int32), .null, .int (0 : Int32)]))] H → va_D A [(av, .inr (9, [.int (0 : Int32), .null, .int (0 : Int32), .int (0 : Int32), .int (0 : Int32), .int (0 : Int32), .int (0 : Int32), .int (0 : Int32), .long (0 : Int64), .int (0 : Int32), .int (0 : Int32), .int (0 : Int32), .int (0 : Int32), .null, .null, .null, .int (0 : Int32), .null, .null, .int (0 : Int32), .null, .null, .int (0 : Int32), .int (0 : Int32), .null, .int (0 : Int32), .null, .int (0 : Int32), .long (0 : Int64), .null, .int (0 : Int32), .int (0 : Int32), .null, .int (0 : Int32), .null, .int (0 : Int32)]))] → va_S A s.heap H locs → W p l e ({ frames := 1, cells := 13, slots := 11862, locals := 20 } : Room) s m #[Value.ref av] below meth c H locs 0 0 Q (F0 m 0 ls []) from hh9 s.heap [] hP hD hS
  clear hP hD hS
  intro H locs hP hD hS
  have h9 := fixPD (ws' := [(av, .inr (9, [.int (0 : Int32), .null, .int (0 : Int32), .int (0 : Int32), .int (0 : Int32), .int (0 : Int32), .int (0 : Int32), .int (0 : Int32), .long (0 : Int64), .int (0 : Int32), .int (0 : Int32), .int (0 : Int32), .int (0 : Int32), .null, .null, .null, .int (0 : Int32), .null, .null, .int (0 : Int32), .null, .null, .int (0 : Int32), .int (0 : Int32), .null, .int (0 : Int32), .null, .int (0 : Int32), .long (0 : Int64), .null, .int (0 : Int32), .int (0 : Int32), .null, .int (0 : Int32), .null, .int (0 : Int32)]))]) hP hD rfl
  clear hP hD
  obtain ⟨hP, hD⟩ := h9
  refine lv_aload_n hx hb (dq_42 0 bcX8_init_0 (j := 0) rfl rfl) rfl (lv_at hl 0 rfl) ?_
  refine W.objInit hx hb hown (hts (.methodLink RX8 3 objectInit) (List.mem_of_getElem? (i := 1) rfl)) (hts (.instanceMethod objectInit) (List.mem_of_getElem? (i := 2) rfl)) (hts (.code objectInit ⟨#[0xb1]⟩ 1 none) (List.mem_of_getElem? (i := 3) rfl)) rfl (by rw [hml]; exact hl.1) rfl (dq_183 0 bcX8_init_0 (j := 1) (i := 3) rfl rfl rfl) (Nat.le_of_ble_eq_true rfl) (Nat.le_of_ble_eq_true rfl) ?_
  refine W.eq (g2 := F0 m 4 ls []) rfl ?_
  refine lv_aload_n hx hb (dq_42 0 bcX8_init_0 (j := 4) rfl rfl) rfl (lv_at hl 0 rfl) ?_
  refine lv_sipush (v := 320) hx hb (dq_17 0 bcX8_init_0 (j := 5) (i := 320) rfl rfl rfl) (by decide) ?_
  refine nw_arr (atype := .int) (ty := .int) (a0 := (320, .inl (fun _ => 0))) hx hb (hts (.arrayClass .int) (List.mem_of_getElem? (i := 4) rfl)) rfl hK hP hD hS hA 0 rfl (fun _ _ a b => Option.some.inj (a.symm.trans b)) (fun _ => rfl) (by decide) rfl (Nat.le_of_ble_eq_true rfl) (Nat.le_of_ble_eq_true rfl) (Nat.le_of_ble_eq_true rfl) dX8_init_8 (fun q_1 H hP hD hS => ?_)
  have h9 := fixPD (ws' := [(av, .inr (9, [.int (0 : Int32), .null, .int (0 : Int32), .int (0 : Int32), .int (0 : Int32), .int (0 : Int32), .int (0 : Int32), .int (0 : Int32), .long (0 : Int64), .int (0 : Int32), .int (0 : Int32), .int (0 : Int32), .int (0 : Int32), .null, .null, .null, .int (0 : Int32), .null, .null, .int (0 : Int32), .null, .null, .int (0 : Int32), .int (0 : Int32), .null, .int (0 : Int32), .null, .int (0 : Int32), .long (0 : Int64), .null, .int (0 : Int32), .int (0 : Int32), .null, .int (0 : Int32), .null, .int (0 : Int32)])), k_I E q_1 320 (fun _ => 0)]) hP hD rfl
  clear hP hD
  obtain ⟨hP, hD⟩ := h9
  refine W.widen (k := 1) (n := 320) (Nat.le_of_ble_eq_true rfl) (Nat.le_of_ble_eq_true rfl) ?_
  refine va_putF (D := E.1) (ci := 9) (v := .ref q_1) (ty := .array .int) (C := RX8) (T := TX8) (N := 36) hx hb hts i_k_M_X8 tyX8 tyX8_ok nmX8 hown hK hP hD hS 0 rfl rfl 1 (by decide) (hts (.fieldLink RX8 9 "HushWatchModel" "tape" "[I") (List.mem_of_getElem? (i := 5) rfl)) (fun _ h9 => h9) rfl hin rfl (by decide +kernel) rfl rfl (Nat.le_of_ble_eq_true rfl) (dq_181 0 bcX8_init_0 (j := 10) (i := 9) rfl rfl rfl) (fun H locs hP hD hS => ?_)
  have h9 := fixPD (ws' := [(av, .inr (9, [.int (0 : Int32), .ref q_1, .int (0 : Int32), .int (0 : Int32), .int (0 : Int32), .int (0 : Int32), .int (0 : Int32), .int (0 : Int32), .long (0 : Int64), .int (0 : Int32), .int (0 : Int32), .int (0 : Int32), .int (0 : Int32), .null, .null, .null, .int (0 : Int32), .null, .null, .int (0 : Int32), .null, .null, .int (0 : Int32), .int (0 : Int32), .null, .int (0 : Int32), .null, .int (0 : Int32), .long (0 : Int64), .null, .int (0 : Int32), .int (0 : Int32), .null, .int (0 : Int32), .null, .int (0 : Int32)])), k_I E q_1 320 (fun _ => 0)]) hP hD rfl
  clear hP hD
  obtain ⟨hP, hD⟩ := h9
  refine lv_aload_n hx hb (dq_42 0 bcX8_init_0 (j := 13) rfl rfl) rfl (lv_at hl 0 rfl) ?_
  refine lv_bipush (v := 16) hx hb (dq_16 0 bcX8_init_0 (j := 14) (i := 16) rfl rfl rfl) (by decide) ?_
  refine nw_arr (atype := .int) (ty := .int) (a0 := (16, .inl (fun _ => 0))) hx hb (hts (.arrayClass .int) (List.mem_of_getElem? (i := 4) rfl)) rfl hK hP hD hS hA 0 rfl (fun _ _ a b => Option.some.inj (a.symm.trans b)) (fun _ => rfl) (by decide) rfl (Nat.le_of_ble_eq_true rfl) (Nat.le_of_ble_eq_true rfl) (Nat.le_of_ble_eq_true rfl) dX8_init_16 (fun q_2 H hP hD hS => ?_)
  have h9 := fixPD (ws' := [(av, .inr (9, [.int (0 : Int32), .ref q_1, .int (0 : Int32), .int (0 : Int32), .int (0 : Int32), .int (0 : Int32), .int (0 : Int32), .int (0 : Int32), .long (0 : Int64), .int (0 : Int32), .int (0 : Int32), .int (0 : Int32), .int (0 : Int32), .null, .null, .null, .int (0 : Int32), .null, .null, .int (0 : Int32), .null, .null, .int (0 : Int32), .int (0 : Int32), .null, .int (0 : Int32), .null, .int (0 : Int32), .long (0 : Int64), .null, .int (0 : Int32), .int (0 : Int32), .null, .int (0 : Int32), .null, .int (0 : Int32)])), k_I E q_1 320 (fun _ => 0), k_I E q_2 16 (fun _ => 0)]) hP hD rfl
  clear hP hD
  obtain ⟨hP, hD⟩ := h9
  refine W.widen (k := 2) (n := 336) (Nat.le_of_ble_eq_true rfl) (Nat.le_of_ble_eq_true rfl) ?_
  refine va_putF (D := E.1) (ci := 9) (v := .ref q_2) (ty := .array .int) (C := RX8) (T := TX8) (N := 36) hx hb hts i_k_M_X8 tyX8 tyX8_ok nmX8 hown hK hP hD hS 0 rfl rfl 13 (by decide) (hts (.fieldLink RX8 13 "HushWatchModel" "readPlace" "[I") (List.mem_of_getElem? (i := 6) rfl)) (fun _ h9 => h9) rfl hin rfl (by decide +kernel) rfl rfl (Nat.le_of_ble_eq_true rfl) (dq_181 0 bcX8_init_0 (j := 18) (i := 13) rfl rfl rfl) (fun H locs hP hD hS => ?_)
  have h9 := fixPD (ws' := [(av, .inr (9, [.int (0 : Int32), .ref q_1, .int (0 : Int32), .int (0 : Int32), .int (0 : Int32), .int (0 : Int32), .int (0 : Int32), .int (0 : Int32), .long (0 : Int64), .int (0 : Int32), .int (0 : Int32), .int (0 : Int32), .int (0 : Int32), .ref q_2, .null, .null, .int (0 : Int32), .null, .null, .int (0 : Int32), .null, .null, .int (0 : Int32), .int (0 : Int32), .null, .int (0 : Int32), .null, .int (0 : Int32), .long (0 : Int64), .null, .int (0 : Int32), .int (0 : Int32), .null, .int (0 : Int32), .null, .int (0 : Int32)])), k_I E q_1 320 (fun _ => 0), k_I E q_2 16 (fun _ => 0)]) hP hD rfl
  clear hP hD
  obtain ⟨hP, hD⟩ := h9
  refine lv_aload_n hx hb (dq_42 0 bcX8_init_0 (j := 21) rfl rfl) rfl (lv_at hl 0 rfl) ?_
  refine lv_sipush (v := 240) hx hb (dq_17 0 bcX8_init_0 (j := 22) (i := 240) rfl rfl rfl) (by decide) ?_
  refine nw_arr (atype := .int) (ty := .int) (a0 := (240, .inl (fun _ => 0))) hx hb (hts (.arrayClass .int) (List.mem_of_getElem? (i := 4) rfl)) rfl hK hP hD hS hA 0 rfl (fun _ _ a b => Option.some.inj (a.symm.trans b)) (fun _ => rfl) (by decide) rfl (Nat.le_of_ble_eq_true rfl) (Nat.le_of_ble_eq_true rfl) (Nat.le_of_ble_eq_true rfl) dX8_init_25 (fun q_3 H hP hD hS => ?_)
  have h9 := fixPD (ws' := [(av, .inr (9, [.int (0 : Int32), .ref q_1, .int (0 : Int32), .int (0 : Int32), .int (0 : Int32), .int (0 : Int32), .int (0 : Int32), .int (0 : Int32), .long (0 : Int64), .int (0 : Int32), .int (0 : Int32), .int (0 : Int32), .int (0 : Int32), .ref q_2, .null, .null, .int (0 : Int32), .null, .null, .int (0 : Int32), .null, .null, .int (0 : Int32), .int (0 : Int32), .null, .int (0 : Int32), .null, .int (0 : Int32), .long (0 : Int64), .null, .int (0 : Int32), .int (0 : Int32), .null, .int (0 : Int32), .null, .int (0 : Int32)])), k_I E q_1 320 (fun _ => 0), k_I E q_2 16 (fun _ => 0), k_I E q_3 240 (fun _ => 0)]) hP hD rfl
  clear hP hD
  obtain ⟨hP, hD⟩ := h9
  refine W.widen (k := 3) (n := 576) (Nat.le_of_ble_eq_true rfl) (Nat.le_of_ble_eq_true rfl) ?_
  refine va_putF (D := E.1) (ci := 9) (v := .ref q_3) (ty := .array .int) (C := RX8) (T := TX8) (N := 36) hx hb hts i_k_M_X8 tyX8 tyX8_ok nmX8 hown hK hP hD hS 0 rfl rfl 14 (by decide) (hts (.fieldLink RX8 16 "HushWatchModel" "script" "[I") (List.mem_of_getElem? (i := 7) rfl)) (fun _ h9 => h9) rfl hin rfl (by decide +kernel) rfl rfl (Nat.le_of_ble_eq_true rfl) (dq_181 0 bcX8_init_0 (j := 27) (i := 16) rfl rfl rfl) (fun H locs hP hD hS => ?_)
  have h9 := fixPD (ws' := [(av, .inr (9, [.int (0 : Int32), .ref q_1, .int (0 : Int32), .int (0 : Int32), .int (0 : Int32), .int (0 : Int32), .int (0 : Int32), .int (0 : Int32), .long (0 : Int64), .int (0 : Int32), .int (0 : Int32), .int (0 : Int32), .int (0 : Int32), .ref q_2, .ref q_3, .null, .int (0 : Int32), .null, .null, .int (0 : Int32), .null, .null, .int (0 : Int32), .int (0 : Int32), .null, .int (0 : Int32), .null, .int (0 : Int32), .long (0 : Int64), .null, .int (0 : Int32), .int (0 : Int32), .null, .int (0 : Int32), .null, .int (0 : Int32)])), k_I E q_1 320 (fun _ => 0), k_I E q_2 16 (fun _ => 0), k_I E q_3 240 (fun _ => 0)]) hP hD rfl
  clear hP hD
  obtain ⟨hP, hD⟩ := h9
  refine lv_aload_n hx hb (dq_42 0 bcX8_init_0 (j := 30) rfl rfl) rfl (lv_at hl 0 rfl) ?_
  refine lv_iconst (v := 5) hx hb (dq_8 0 bcX8_init_0 (j := 31) rfl rfl) (by decide) ?_
  refine nw_arr (atype := .int) (ty := .int) (a0 := (5, .inl (fun _ => 0))) hx hb (hts (.arrayClass .int) (List.mem_of_getElem? (i := 4) rfl)) rfl hK hP hD hS hA 0 rfl (fun _ _ a b => Option.some.inj (a.symm.trans b)) (fun _ => rfl) (by decide) rfl (Nat.le_of_ble_eq_true rfl) (Nat.le_of_ble_eq_true rfl) (Nat.le_of_ble_eq_true rfl) dX8_init_32 (fun q_4 H hP hD hS => ?_)
  have h9 := fixPD (ws' := [(av, .inr (9, [.int (0 : Int32), .ref q_1, .int (0 : Int32), .int (0 : Int32), .int (0 : Int32), .int (0 : Int32), .int (0 : Int32), .int (0 : Int32), .long (0 : Int64), .int (0 : Int32), .int (0 : Int32), .int (0 : Int32), .int (0 : Int32), .ref q_2, .ref q_3, .null, .int (0 : Int32), .null, .null, .int (0 : Int32), .null, .null, .int (0 : Int32), .int (0 : Int32), .null, .int (0 : Int32), .null, .int (0 : Int32), .long (0 : Int64), .null, .int (0 : Int32), .int (0 : Int32), .null, .int (0 : Int32), .null, .int (0 : Int32)])), k_I E q_1 320 (fun _ => 0), k_I E q_2 16 (fun _ => 0), k_I E q_3 240 (fun _ => 0), k_I E q_4 5 (fun _ => 0)]) hP hD rfl
  clear hP hD
  obtain ⟨hP, hD⟩ := h9
  refine W.widen (k := 4) (n := 581) (Nat.le_of_ble_eq_true rfl) (Nat.le_of_ble_eq_true rfl) ?_
  refine va_putF (D := E.1) (ci := 9) (v := .ref q_4) (ty := .array .int) (C := RX8) (T := TX8) (N := 36) hx hb hts i_k_M_X8 tyX8 tyX8_ok nmX8 hown hK hP hD hS 0 rfl rfl 15 (by decide) (hts (.fieldLink RX8 19 "HushWatchModel" "scriptLong" "[I") (List.mem_of_getElem? (i := 8) rfl)) (fun _ h9 => h9) rfl hin rfl (by decide +kernel) rfl rfl (Nat.le_of_ble_eq_true rfl) (dq_181 0 bcX8_init_0 (j := 34) (i := 19) rfl rfl rfl) (fun H locs hP hD hS => ?_)
  have h9 := fixPD (ws' := [(av, .inr (9, [.int (0 : Int32), .ref q_1, .int (0 : Int32), .int (0 : Int32), .int (0 : Int32), .int (0 : Int32), .int (0 : Int32), .int (0 : Int32), .long (0 : Int64), .int (0 : Int32), .int (0 : Int32), .int (0 : Int32), .int (0 : Int32), .ref q_2, .ref q_3, .ref q_4, .int (0 : Int32), .null, .null, .int (0 : Int32), .null, .null, .int (0 : Int32), .int (0 : Int32), .null, .int (0 : Int32), .null, .int (0 : Int32), .long (0 : Int64), .null, .int (0 : Int32), .int (0 : Int32), .null, .int (0 : Int32), .null, .int (0 : Int32)])), k_I E q_1 320 (fun _ => 0), k_I E q_2 16 (fun _ => 0), k_I E q_3 240 (fun _ => 0), k_I E q_4 5 (fun _ => 0)]) hP hD rfl
  clear hP hD
  obtain ⟨hP, hD⟩ := h9
  refine lv_aload_n hx hb (dq_42 0 bcX8_init_0 (j := 37) rfl rfl) rfl (lv_at hl 0 rfl) ?_
  refine lv_sipush (v := 265) hx hb (dq_17 0 bcX8_init_0 (j := 38) (i := 265) rfl rfl rfl) (by decide) ?_
  refine nw_arr (atype := .int) (ty := .int) (a0 := (265, .inl (fun _ => 0))) hx hb (hts (.arrayClass .int) (List.mem_of_getElem? (i := 4) rfl)) rfl hK hP hD hS hA 0 rfl (fun _ _ a b => Option.some.inj (a.symm.trans b)) (fun _ => rfl) (by decide) rfl (Nat.le_of_ble_eq_true rfl) (Nat.le_of_ble_eq_true rfl) (Nat.le_of_ble_eq_true rfl) dX8_init_41 (fun q_5 H hP hD hS => ?_)
  have h9 := fixPD (ws' := [(av, .inr (9, [.int (0 : Int32), .ref q_1, .int (0 : Int32), .int (0 : Int32), .int (0 : Int32), .int (0 : Int32), .int (0 : Int32), .int (0 : Int32), .long (0 : Int64), .int (0 : Int32), .int (0 : Int32), .int (0 : Int32), .int (0 : Int32), .ref q_2, .ref q_3, .ref q_4, .int (0 : Int32), .null, .null, .int (0 : Int32), .null, .null, .int (0 : Int32), .int (0 : Int32), .null, .int (0 : Int32), .null, .int (0 : Int32), .long (0 : Int64), .null, .int (0 : Int32), .int (0 : Int32), .null, .int (0 : Int32), .null, .int (0 : Int32)])), k_I E q_1 320 (fun _ => 0), k_I E q_2 16 (fun _ => 0), k_I E q_3 240 (fun _ => 0), k_I E q_4 5 (fun _ => 0), k_I E q_5 265 (fun _ => 0)]) hP hD rfl
  clear hP hD
  obtain ⟨hP, hD⟩ := h9
  refine W.widen (k := 5) (n := 846) (Nat.le_of_ble_eq_true rfl) (Nat.le_of_ble_eq_true rfl) ?_
  refine va_putF (D := E.1) (ci := 9) (v := .ref q_5) (ty := .array .int) (C := RX8) (T := TX8) (N := 36) hx hb hts i_k_M_X8 tyX8 tyX8_ok nmX8 hown hK hP hD hS 0 rfl rfl 17 (by decide) (hts (.fieldLink RX8 22 "HushWatchModel" "now" "[I") (List.mem_of_getElem? (i := 9) rfl)) (fun _ h9 => h9) rfl hin rfl (by decide +kernel) rfl rfl (Nat.le_of_ble_eq_true rfl) (dq_181 0 bcX8_init_0 (j := 43) (i := 22) rfl rfl rfl) (fun H locs hP hD hS => ?_)
  have h9 := fixPD (ws' := [(av, .inr (9, [.int (0 : Int32), .ref q_1, .int (0 : Int32), .int (0 : Int32), .int (0 : Int32), .int (0 : Int32), .int (0 : Int32), .int (0 : Int32), .long (0 : Int64), .int (0 : Int32), .int (0 : Int32), .int (0 : Int32), .int (0 : Int32), .ref q_2, .ref q_3, .ref q_4, .int (0 : Int32), .ref q_5, .null, .int (0 : Int32), .null, .null, .int (0 : Int32), .int (0 : Int32), .null, .int (0 : Int32), .null, .int (0 : Int32), .long (0 : Int64), .null, .int (0 : Int32), .int (0 : Int32), .null, .int (0 : Int32), .null, .int (0 : Int32)])), k_I E q_1 320 (fun _ => 0), k_I E q_2 16 (fun _ => 0), k_I E q_3 240 (fun _ => 0), k_I E q_4 5 (fun _ => 0), k_I E q_5 265 (fun _ => 0)]) hP hD rfl
  clear hP hD
  obtain ⟨hP, hD⟩ := h9
  refine lv_aload_n hx hb (dq_42 0 bcX8_init_0 (j := 46) rfl rfl) rfl (lv_at hl 0 rfl) ?_
  refine lv_iconst (v := 3) hx hb (dq_6 0 bcX8_init_0 (j := 47) rfl rfl) (by decide) ?_
  refine nw_arr (atype := .int) (ty := .int) (a0 := (3, .inl (fun _ => 0))) hx hb (hts (.arrayClass .int) (List.mem_of_getElem? (i := 4) rfl)) rfl hK hP hD hS hA 0 rfl (fun _ _ a b => Option.some.inj (a.symm.trans b)) (fun _ => rfl) (by decide) rfl (Nat.le_of_ble_eq_true rfl) (Nat.le_of_ble_eq_true rfl) (Nat.le_of_ble_eq_true rfl) dX8_init_48 (fun q_6 H hP hD hS => ?_)
  have h9 := fixPD (ws' := [(av, .inr (9, [.int (0 : Int32), .ref q_1, .int (0 : Int32), .int (0 : Int32), .int (0 : Int32), .int (0 : Int32), .int (0 : Int32), .int (0 : Int32), .long (0 : Int64), .int (0 : Int32), .int (0 : Int32), .int (0 : Int32), .int (0 : Int32), .ref q_2, .ref q_3, .ref q_4, .int (0 : Int32), .ref q_5, .null, .int (0 : Int32), .null, .null, .int (0 : Int32), .int (0 : Int32), .null, .int (0 : Int32), .null, .int (0 : Int32), .long (0 : Int64), .null, .int (0 : Int32), .int (0 : Int32), .null, .int (0 : Int32), .null, .int (0 : Int32)])), k_I E q_1 320 (fun _ => 0), k_I E q_2 16 (fun _ => 0), k_I E q_3 240 (fun _ => 0), k_I E q_4 5 (fun _ => 0), k_I E q_5 265 (fun _ => 0), k_I E q_6 3 (fun _ => 0)]) hP hD rfl
  clear hP hD
  obtain ⟨hP, hD⟩ := h9
  refine W.widen (k := 6) (n := 849) (Nat.le_of_ble_eq_true rfl) (Nat.le_of_ble_eq_true rfl) ?_
  refine va_putF (D := E.1) (ci := 9) (v := .ref q_6) (ty := .array .int) (C := RX8) (T := TX8) (N := 36) hx hb hts i_k_M_X8 tyX8 tyX8_ok nmX8 hown hK hP hD hS 0 rfl rfl 18 (by decide) (hts (.fieldLink RX8 25 "HushWatchModel" "refused" "[I") (List.mem_of_getElem? (i := 10) rfl)) (fun _ h9 => h9) rfl hin rfl (by decide +kernel) rfl rfl (Nat.le_of_ble_eq_true rfl) (dq_181 48 bcX8_init_1 (j := 2) (i := 25) rfl rfl rfl) (fun H locs hP hD hS => ?_)
  have h9 := fixPD (ws' := [(av, .inr (9, [.int (0 : Int32), .ref q_1, .int (0 : Int32), .int (0 : Int32), .int (0 : Int32), .int (0 : Int32), .int (0 : Int32), .int (0 : Int32), .long (0 : Int64), .int (0 : Int32), .int (0 : Int32), .int (0 : Int32), .int (0 : Int32), .ref q_2, .ref q_3, .ref q_4, .int (0 : Int32), .ref q_5, .ref q_6, .int (0 : Int32), .null, .null, .int (0 : Int32), .int (0 : Int32), .null, .int (0 : Int32), .null, .int (0 : Int32), .long (0 : Int64), .null, .int (0 : Int32), .int (0 : Int32), .null, .int (0 : Int32), .null, .int (0 : Int32)])), k_I E q_1 320 (fun _ => 0), k_I E q_2 16 (fun _ => 0), k_I E q_3 240 (fun _ => 0), k_I E q_4 5 (fun _ => 0), k_I E q_5 265 (fun _ => 0), k_I E q_6 3 (fun _ => 0)]) hP hD rfl
  clear hP hD
  obtain ⟨hP, hD⟩ := h9
  refine lv_aload_n hx hb (dq_42 48 bcX8_init_1 (j := 5) rfl rfl) rfl (lv_at hl 0 rfl) ?_
  refine lv_bipush (v := 8) hx hb (dq_16 48 bcX8_init_1 (j := 6) (i := 8) rfl rfl rfl) (by decide) ?_
  refine nw_arr (atype := .int) (ty := .int) (a0 := (8, .inl (fun _ => 0))) hx hb (hts (.arrayClass .int) (List.mem_of_getElem? (i := 4) rfl)) rfl hK hP hD hS hA 0 rfl (fun _ _ a b => Option.some.inj (a.symm.trans b)) (fun _ => rfl) (by decide) rfl (Nat.le_of_ble_eq_true rfl) (Nat.le_of_ble_eq_true rfl) (Nat.le_of_ble_eq_true rfl) dX8_init_56 (fun q_7 H hP hD hS => ?_)
  have h9 := fixPD (ws' := [(av, .inr (9, [.int (0 : Int32), .ref q_1, .int (0 : Int32), .int (0 : Int32), .int (0 : Int32), .int (0 : Int32), .int (0 : Int32), .int (0 : Int32), .long (0 : Int64), .int (0 : Int32), .int (0 : Int32), .int (0 : Int32), .int (0 : Int32), .ref q_2, .ref q_3, .ref q_4, .int (0 : Int32), .ref q_5, .ref q_6, .int (0 : Int32), .null, .null, .int (0 : Int32), .int (0 : Int32), .null, .int (0 : Int32), .null, .int (0 : Int32), .long (0 : Int64), .null, .int (0 : Int32), .int (0 : Int32), .null, .int (0 : Int32), .null, .int (0 : Int32)])), k_I E q_1 320 (fun _ => 0), k_I E q_2 16 (fun _ => 0), k_I E q_3 240 (fun _ => 0), k_I E q_4 5 (fun _ => 0), k_I E q_5 265 (fun _ => 0), k_I E q_6 3 (fun _ => 0), k_I E q_7 8 (fun _ => 0)]) hP hD rfl
  clear hP hD
  obtain ⟨hP, hD⟩ := h9
  refine W.widen (k := 7) (n := 857) (Nat.le_of_ble_eq_true rfl) (Nat.le_of_ble_eq_true rfl) ?_
  refine va_putF (D := E.1) (ci := 9) (v := .ref q_7) (ty := .array .int) (C := RX8) (T := TX8) (N := 36) hx hb hts i_k_M_X8 tyX8 tyX8_ok nmX8 hown hK hP hD hS 0 rfl rfl 20 (by decide) (hts (.fieldLink RX8 28 "HushWatchModel" "shareX" "[I") (List.mem_of_getElem? (i := 11) rfl)) (fun _ h9 => h9) rfl hin rfl (by decide +kernel) rfl rfl (Nat.le_of_ble_eq_true rfl) (dq_181 48 bcX8_init_1 (j := 10) (i := 28) rfl rfl rfl) (fun H locs hP hD hS => ?_)
  have h9 := fixPD (ws' := [(av, .inr (9, [.int (0 : Int32), .ref q_1, .int (0 : Int32), .int (0 : Int32), .int (0 : Int32), .int (0 : Int32), .int (0 : Int32), .int (0 : Int32), .long (0 : Int64), .int (0 : Int32), .int (0 : Int32), .int (0 : Int32), .int (0 : Int32), .ref q_2, .ref q_3, .ref q_4, .int (0 : Int32), .ref q_5, .ref q_6, .int (0 : Int32), .ref q_7, .null, .int (0 : Int32), .int (0 : Int32), .null, .int (0 : Int32), .null, .int (0 : Int32), .long (0 : Int64), .null, .int (0 : Int32), .int (0 : Int32), .null, .int (0 : Int32), .null, .int (0 : Int32)])), k_I E q_1 320 (fun _ => 0), k_I E q_2 16 (fun _ => 0), k_I E q_3 240 (fun _ => 0), k_I E q_4 5 (fun _ => 0), k_I E q_5 265 (fun _ => 0), k_I E q_6 3 (fun _ => 0), k_I E q_7 8 (fun _ => 0)]) hP hD rfl
  clear hP hD
  obtain ⟨hP, hD⟩ := h9
  refine lv_aload_n hx hb (dq_42 48 bcX8_init_1 (j := 13) rfl rfl) rfl (lv_at hl 0 rfl) ?_
  refine lv_bipush (v := 8) hx hb (dq_16 48 bcX8_init_1 (j := 14) (i := 8) rfl rfl rfl) (by decide) ?_
  refine nw_arr (atype := .int) (ty := .int) (a0 := (8, .inl (fun _ => 0))) hx hb (hts (.arrayClass .int) (List.mem_of_getElem? (i := 4) rfl)) rfl hK hP hD hS hA 0 rfl (fun _ _ a b => Option.some.inj (a.symm.trans b)) (fun _ => rfl) (by decide) rfl (Nat.le_of_ble_eq_true rfl) (Nat.le_of_ble_eq_true rfl) (Nat.le_of_ble_eq_true rfl) dX8_init_64 (fun q_8 H hP hD hS => ?_)
  have h9 := fixPD (ws' := [(av, .inr (9, [.int (0 : Int32), .ref q_1, .int (0 : Int32), .int (0 : Int32), .int (0 : Int32), .int (0 : Int32), .int (0 : Int32), .int (0 : Int32), .long (0 : Int64), .int (0 : Int32), .int (0 : Int32), .int (0 : Int32), .int (0 : Int32), .ref q_2, .ref q_3, .ref q_4, .int (0 : Int32), .ref q_5, .ref q_6, .int (0 : Int32), .ref q_7, .null, .int (0 : Int32), .int (0 : Int32), .null, .int (0 : Int32), .null, .int (0 : Int32), .long (0 : Int64), .null, .int (0 : Int32), .int (0 : Int32), .null, .int (0 : Int32), .null, .int (0 : Int32)])), k_I E q_1 320 (fun _ => 0), k_I E q_2 16 (fun _ => 0), k_I E q_3 240 (fun _ => 0), k_I E q_4 5 (fun _ => 0), k_I E q_5 265 (fun _ => 0), k_I E q_6 3 (fun _ => 0), k_I E q_7 8 (fun _ => 0), k_I E q_8 8 (fun _ => 0)]) hP hD rfl
  clear hP hD
  obtain ⟨hP, hD⟩ := h9
  refine W.widen (k := 8) (n := 865) (Nat.le_of_ble_eq_true rfl) (Nat.le_of_ble_eq_true rfl) ?_
  refine va_putF (D := E.1) (ci := 9) (v := .ref q_8) (ty := .array .int) (C := RX8) (T := TX8) (N := 36) hx hb hts i_k_M_X8 tyX8 tyX8_ok nmX8 hown hK hP hD hS 0 rfl rfl 21 (by decide) (hts (.fieldLink RX8 31 "HushWatchModel" "shareY" "[I") (List.mem_of_getElem? (i := 12) rfl)) (fun _ h9 => h9) rfl hin rfl (by decide +kernel) rfl rfl (Nat.le_of_ble_eq_true rfl) (dq_181 48 bcX8_init_1 (j := 18) (i := 31) rfl rfl rfl) (fun H locs hP hD hS => ?_)
  have h9 := fixPD (ws' := [(av, .inr (9, [.int (0 : Int32), .ref q_1, .int (0 : Int32), .int (0 : Int32), .int (0 : Int32), .int (0 : Int32), .int (0 : Int32), .int (0 : Int32), .long (0 : Int64), .int (0 : Int32), .int (0 : Int32), .int (0 : Int32), .int (0 : Int32), .ref q_2, .ref q_3, .ref q_4, .int (0 : Int32), .ref q_5, .ref q_6, .int (0 : Int32), .ref q_7, .ref q_8, .int (0 : Int32), .int (0 : Int32), .null, .int (0 : Int32), .null, .int (0 : Int32), .long (0 : Int64), .null, .int (0 : Int32), .int (0 : Int32), .null, .int (0 : Int32), .null, .int (0 : Int32)])), k_I E q_1 320 (fun _ => 0), k_I E q_2 16 (fun _ => 0), k_I E q_3 240 (fun _ => 0), k_I E q_4 5 (fun _ => 0), k_I E q_5 265 (fun _ => 0), k_I E q_6 3 (fun _ => 0), k_I E q_7 8 (fun _ => 0), k_I E q_8 8 (fun _ => 0)]) hP hD rfl
  clear hP hD
  obtain ⟨hP, hD⟩ := h9
  refine lv_aload_n hx hb (dq_42 48 bcX8_init_1 (j := 21) rfl rfl) rfl (lv_at hl 0 rfl) ?_
  refine lv_bipush (v := 8) hx hb (dq_16 48 bcX8_init_1 (j := 22) (i := 8) rfl rfl rfl) (by decide) ?_
  refine nw_arr (atype := .int) (ty := .int) (a0 := (8, .inl (fun _ => 0))) hx hb (hts (.arrayClass .int) (List.mem_of_getElem? (i := 4) rfl)) rfl hK hP hD hS hA 0 rfl (fun _ _ a b => Option.some.inj (a.symm.trans b)) (fun _ => rfl) (by decide) rfl (Nat.le_of_ble_eq_true rfl) (Nat.le_of_ble_eq_true rfl) (Nat.le_of_ble_eq_true rfl) dX8_init_72 (fun q_9 H hP hD hS => ?_)
  have h9 := fixPD (ws' := [(av, .inr (9, [.int (0 : Int32), .ref q_1, .int (0 : Int32), .int (0 : Int32), .int (0 : Int32), .int (0 : Int32), .int (0 : Int32), .int (0 : Int32), .long (0 : Int64), .int (0 : Int32), .int (0 : Int32), .int (0 : Int32), .int (0 : Int32), .ref q_2, .ref q_3, .ref q_4, .int (0 : Int32), .ref q_5, .ref q_6, .int (0 : Int32), .ref q_7, .ref q_8, .int (0 : Int32), .int (0 : Int32), .null, .int (0 : Int32), .null, .int (0 : Int32), .long (0 : Int64), .null, .int (0 : Int32), .int (0 : Int32), .null, .int (0 : Int32), .null, .int (0 : Int32)])), k_I E q_1 320 (fun _ => 0), k_I E q_2 16 (fun _ => 0), k_I E q_3 240 (fun _ => 0), k_I E q_4 5 (fun _ => 0), k_I E q_5 265 (fun _ => 0), k_I E q_6 3 (fun _ => 0), k_I E q_7 8 (fun _ => 0), k_I E q_8 8 (fun _ => 0), k_I E q_9 8 (fun _ => 0)]) hP hD rfl
  clear hP hD
  obtain ⟨hP, hD⟩ := h9
  refine W.widen (k := 9) (n := 873) (Nat.le_of_ble_eq_true rfl) (Nat.le_of_ble_eq_true rfl) ?_
  refine va_putF (D := E.1) (ci := 9) (v := .ref q_9) (ty := .array .int) (C := RX8) (T := TX8) (N := 36) hx hb hts i_k_M_X8 tyX8 tyX8_ok nmX8 hown hK hP hD hS 0 rfl rfl 24 (by decide) (hts (.fieldLink RX8 34 "HushWatchModel" "askedRow" "[I") (List.mem_of_getElem? (i := 13) rfl)) (fun _ h9 => h9) rfl hin rfl (by decide +kernel) rfl rfl (Nat.le_of_ble_eq_true rfl) (dq_181 48 bcX8_init_1 (j := 26) (i := 34) rfl rfl rfl) (fun H locs hP hD hS => ?_)
  have h9 := fixPD (ws' := [(av, .inr (9, [.int (0 : Int32), .ref q_1, .int (0 : Int32), .int (0 : Int32), .int (0 : Int32), .int (0 : Int32), .int (0 : Int32), .int (0 : Int32), .long (0 : Int64), .int (0 : Int32), .int (0 : Int32), .int (0 : Int32), .int (0 : Int32), .ref q_2, .ref q_3, .ref q_4, .int (0 : Int32), .ref q_5, .ref q_6, .int (0 : Int32), .ref q_7, .ref q_8, .int (0 : Int32), .int (0 : Int32), .ref q_9, .int (0 : Int32), .null, .int (0 : Int32), .long (0 : Int64), .null, .int (0 : Int32), .int (0 : Int32), .null, .int (0 : Int32), .null, .int (0 : Int32)])), k_I E q_1 320 (fun _ => 0), k_I E q_2 16 (fun _ => 0), k_I E q_3 240 (fun _ => 0), k_I E q_4 5 (fun _ => 0), k_I E q_5 265 (fun _ => 0), k_I E q_6 3 (fun _ => 0), k_I E q_7 8 (fun _ => 0), k_I E q_8 8 (fun _ => 0), k_I E q_9 8 (fun _ => 0)]) hP hD rfl
  clear hP hD
  obtain ⟨hP, hD⟩ := h9
  refine lv_aload_n hx hb (dq_42 48 bcX8_init_1 (j := 29) rfl rfl) rfl (lv_at hl 0 rfl) ?_
  refine lv_sipush (v := 10600) hx hb (dq_17 48 bcX8_init_1 (j := 30) (i := 10600) rfl rfl rfl) (by decide) ?_
  refine nw_arr (atype := .int) (ty := .int) (a0 := (10600, .inl (fun _ => 0))) hx hb (hts (.arrayClass .int) (List.mem_of_getElem? (i := 4) rfl)) rfl hK hP hD hS hA 0 rfl (fun _ _ a b => Option.some.inj (a.symm.trans b)) (fun _ => rfl) (by decide) rfl (Nat.le_of_ble_eq_true rfl) (Nat.le_of_ble_eq_true rfl) (Nat.le_of_ble_eq_true rfl) dX8_init_81 (fun q_10 H hP hD hS => ?_)
  have h9 := fixPD (ws' := [(av, .inr (9, [.int (0 : Int32), .ref q_1, .int (0 : Int32), .int (0 : Int32), .int (0 : Int32), .int (0 : Int32), .int (0 : Int32), .int (0 : Int32), .long (0 : Int64), .int (0 : Int32), .int (0 : Int32), .int (0 : Int32), .int (0 : Int32), .ref q_2, .ref q_3, .ref q_4, .int (0 : Int32), .ref q_5, .ref q_6, .int (0 : Int32), .ref q_7, .ref q_8, .int (0 : Int32), .int (0 : Int32), .ref q_9, .int (0 : Int32), .null, .int (0 : Int32), .long (0 : Int64), .null, .int (0 : Int32), .int (0 : Int32), .null, .int (0 : Int32), .null, .int (0 : Int32)])), k_I E q_1 320 (fun _ => 0), k_I E q_2 16 (fun _ => 0), k_I E q_3 240 (fun _ => 0), k_I E q_4 5 (fun _ => 0), k_I E q_5 265 (fun _ => 0), k_I E q_6 3 (fun _ => 0), k_I E q_7 8 (fun _ => 0), k_I E q_8 8 (fun _ => 0), k_I E q_9 8 (fun _ => 0), k_I E q_10 10600 (fun _ => 0)]) hP hD rfl
  clear hP hD
  obtain ⟨hP, hD⟩ := h9
  refine W.widen (k := 10) (n := 11473) (Nat.le_of_ble_eq_true rfl) (Nat.le_of_ble_eq_true rfl) ?_
  refine va_putF (D := E.1) (ci := 9) (v := .ref q_10) (ty := .array .int) (C := RX8) (T := TX8) (N := 36) hx hb hts i_k_M_X8 tyX8 tyX8_ok nmX8 hown hK hP hD hS 0 rfl rfl 26 (by decide) (hts (.fieldLink RX8 37 "HushWatchModel" "kept" "[I") (List.mem_of_getElem? (i := 14) rfl)) (fun _ h9 => h9) rfl hin rfl (by decide +kernel) rfl rfl (Nat.le_of_ble_eq_true rfl) (dq_181 48 bcX8_init_1 (j := 35) (i := 37) rfl rfl rfl) (fun H locs hP hD hS => ?_)
  have h9 := fixPD (ws' := [(av, .inr (9, [.int (0 : Int32), .ref q_1, .int (0 : Int32), .int (0 : Int32), .int (0 : Int32), .int (0 : Int32), .int (0 : Int32), .int (0 : Int32), .long (0 : Int64), .int (0 : Int32), .int (0 : Int32), .int (0 : Int32), .int (0 : Int32), .ref q_2, .ref q_3, .ref q_4, .int (0 : Int32), .ref q_5, .ref q_6, .int (0 : Int32), .ref q_7, .ref q_8, .int (0 : Int32), .int (0 : Int32), .ref q_9, .int (0 : Int32), .ref q_10, .int (0 : Int32), .long (0 : Int64), .null, .int (0 : Int32), .int (0 : Int32), .null, .int (0 : Int32), .null, .int (0 : Int32)])), k_I E q_1 320 (fun _ => 0), k_I E q_2 16 (fun _ => 0), k_I E q_3 240 (fun _ => 0), k_I E q_4 5 (fun _ => 0), k_I E q_5 265 (fun _ => 0), k_I E q_6 3 (fun _ => 0), k_I E q_7 8 (fun _ => 0), k_I E q_8 8 (fun _ => 0), k_I E q_9 8 (fun _ => 0), k_I E q_10 10600 (fun _ => 0)]) hP hD rfl
  clear hP hD
  obtain ⟨hP, hD⟩ := h9
  refine lv_aload_n hx hb (dq_42 48 bcX8_init_1 (j := 38) rfl rfl) rfl (lv_at hl 0 rfl) ?_
  refine lv_bipush (v := 84) hx hb (dq_16 48 bcX8_init_1 (j := 39) (i := 84) rfl rfl rfl) (by decide) ?_
  refine nw_arr (atype := .int) (ty := .int) (a0 := (84, .inl (fun _ => 0))) hx hb (hts (.arrayClass .int) (List.mem_of_getElem? (i := 4) rfl)) rfl hK hP hD hS hA 0 rfl (fun _ _ a b => Option.some.inj (a.symm.trans b)) (fun _ => rfl) (by decide) rfl (Nat.le_of_ble_eq_true rfl) (Nat.le_of_ble_eq_true rfl) (Nat.le_of_ble_eq_true rfl) dX8_init_89 (fun q_11 H hP hD hS => ?_)
  have h9 := fixPD (ws' := [(av, .inr (9, [.int (0 : Int32), .ref q_1, .int (0 : Int32), .int (0 : Int32), .int (0 : Int32), .int (0 : Int32), .int (0 : Int32), .int (0 : Int32), .long (0 : Int64), .int (0 : Int32), .int (0 : Int32), .int (0 : Int32), .int (0 : Int32), .ref q_2, .ref q_3, .ref q_4, .int (0 : Int32), .ref q_5, .ref q_6, .int (0 : Int32), .ref q_7, .ref q_8, .int (0 : Int32), .int (0 : Int32), .ref q_9, .int (0 : Int32), .ref q_10, .int (0 : Int32), .long (0 : Int64), .null, .int (0 : Int32), .int (0 : Int32), .null, .int (0 : Int32), .null, .int (0 : Int32)])), k_I E q_1 320 (fun _ => 0), k_I E q_2 16 (fun _ => 0), k_I E q_3 240 (fun _ => 0), k_I E q_4 5 (fun _ => 0), k_I E q_5 265 (fun _ => 0), k_I E q_6 3 (fun _ => 0), k_I E q_7 8 (fun _ => 0), k_I E q_8 8 (fun _ => 0), k_I E q_9 8 (fun _ => 0), k_I E q_10 10600 (fun _ => 0), k_I E q_11 84 (fun _ => 0)]) hP hD rfl
  clear hP hD
  obtain ⟨hP, hD⟩ := h9
  refine W.widen (k := 11) (n := 11557) (Nat.le_of_ble_eq_true rfl) (Nat.le_of_ble_eq_true rfl) ?_
  refine va_putF (D := E.1) (ci := 9) (v := .ref q_11) (ty := .array .int) (C := RX8) (T := TX8) (N := 36) hx hb hts i_k_M_X8 tyX8 tyX8_ok nmX8 hown hK hP hD hS 0 rfl rfl 29 (by decide) (hts (.fieldLink RX8 40 "HushWatchModel" "aside" "[I") (List.mem_of_getElem? (i := 15) rfl)) (fun _ h9 => h9) rfl hin rfl (by decide +kernel) rfl rfl (Nat.le_of_ble_eq_true rfl) (dq_181 48 bcX8_init_1 (j := 43) (i := 40) rfl rfl rfl) (fun H locs hP hD hS => ?_)
  have h9 := fixPD (ws' := [(av, .inr (9, [.int (0 : Int32), .ref q_1, .int (0 : Int32), .int (0 : Int32), .int (0 : Int32), .int (0 : Int32), .int (0 : Int32), .int (0 : Int32), .long (0 : Int64), .int (0 : Int32), .int (0 : Int32), .int (0 : Int32), .int (0 : Int32), .ref q_2, .ref q_3, .ref q_4, .int (0 : Int32), .ref q_5, .ref q_6, .int (0 : Int32), .ref q_7, .ref q_8, .int (0 : Int32), .int (0 : Int32), .ref q_9, .int (0 : Int32), .ref q_10, .int (0 : Int32), .long (0 : Int64), .ref q_11, .int (0 : Int32), .int (0 : Int32), .null, .int (0 : Int32), .null, .int (0 : Int32)])), k_I E q_1 320 (fun _ => 0), k_I E q_2 16 (fun _ => 0), k_I E q_3 240 (fun _ => 0), k_I E q_4 5 (fun _ => 0), k_I E q_5 265 (fun _ => 0), k_I E q_6 3 (fun _ => 0), k_I E q_7 8 (fun _ => 0), k_I E q_8 8 (fun _ => 0), k_I E q_9 8 (fun _ => 0), k_I E q_10 10600 (fun _ => 0), k_I E q_11 84 (fun _ => 0)]) hP hD rfl
  clear hP hD
  obtain ⟨hP, hD⟩ := h9
  refine lv_aload_n hx hb (dq_42 48 bcX8_init_1 (j := 46) rfl rfl) rfl (lv_at hl 0 rfl) ?_
  refine lv_bipush (v := 40) hx hb (dq_16 48 bcX8_init_1 (j := 47) (i := 40) rfl rfl rfl) (by decide) ?_
  refine nw_arr (atype := .int) (ty := .int) (a0 := (40, .inl (fun _ => 0))) hx hb (hts (.arrayClass .int) (List.mem_of_getElem? (i := 4) rfl)) rfl hK hP hD hS hA 0 rfl (fun _ _ a b => Option.some.inj (a.symm.trans b)) (fun _ => rfl) (by decide) rfl (Nat.le_of_ble_eq_true rfl) (Nat.le_of_ble_eq_true rfl) (Nat.le_of_ble_eq_true rfl) dX8_init_97 (fun q_12 H hP hD hS => ?_)
  have h9 := fixPD (ws' := [(av, .inr (9, [.int (0 : Int32), .ref q_1, .int (0 : Int32), .int (0 : Int32), .int (0 : Int32), .int (0 : Int32), .int (0 : Int32), .int (0 : Int32), .long (0 : Int64), .int (0 : Int32), .int (0 : Int32), .int (0 : Int32), .int (0 : Int32), .ref q_2, .ref q_3, .ref q_4, .int (0 : Int32), .ref q_5, .ref q_6, .int (0 : Int32), .ref q_7, .ref q_8, .int (0 : Int32), .int (0 : Int32), .ref q_9, .int (0 : Int32), .ref q_10, .int (0 : Int32), .long (0 : Int64), .ref q_11, .int (0 : Int32), .int (0 : Int32), .null, .int (0 : Int32), .null, .int (0 : Int32)])), k_I E q_1 320 (fun _ => 0), k_I E q_2 16 (fun _ => 0), k_I E q_3 240 (fun _ => 0), k_I E q_4 5 (fun _ => 0), k_I E q_5 265 (fun _ => 0), k_I E q_6 3 (fun _ => 0), k_I E q_7 8 (fun _ => 0), k_I E q_8 8 (fun _ => 0), k_I E q_9 8 (fun _ => 0), k_I E q_10 10600 (fun _ => 0), k_I E q_11 84 (fun _ => 0), k_I E q_12 40 (fun _ => 0)]) hP hD rfl
  clear hP hD
  obtain ⟨hP, hD⟩ := h9
  refine W.widen (k := 12) (n := 11597) (Nat.le_of_ble_eq_true rfl) (Nat.le_of_ble_eq_true rfl) ?_
  refine va_putF (D := E.1) (ci := 9) (v := .ref q_12) (ty := .array .int) (C := RX8) (T := TX8) (N := 36) hx hb hts i_k_M_X8 tyX8 tyX8_ok nmX8 hown hK hP hD hS 0 rfl rfl 32 (by decide) (hts (.fieldLink RX8 43 "HushWatchModel" "spelled" "[I") (List.mem_of_getElem? (i := 16) rfl)) (fun _ h9 => h9) rfl hin rfl (by decide +kernel) rfl rfl (Nat.le_of_ble_eq_true rfl) (dq_181 96 bcX8_init_2 (j := 3) (i := 43) rfl rfl rfl) (fun H locs hP hD hS => ?_)
  have h9 := fixPD (ws' := [(av, .inr (9, [.int (0 : Int32), .ref q_1, .int (0 : Int32), .int (0 : Int32), .int (0 : Int32), .int (0 : Int32), .int (0 : Int32), .int (0 : Int32), .long (0 : Int64), .int (0 : Int32), .int (0 : Int32), .int (0 : Int32), .int (0 : Int32), .ref q_2, .ref q_3, .ref q_4, .int (0 : Int32), .ref q_5, .ref q_6, .int (0 : Int32), .ref q_7, .ref q_8, .int (0 : Int32), .int (0 : Int32), .ref q_9, .int (0 : Int32), .ref q_10, .int (0 : Int32), .long (0 : Int64), .ref q_11, .int (0 : Int32), .int (0 : Int32), .ref q_12, .int (0 : Int32), .null, .int (0 : Int32)])), k_I E q_1 320 (fun _ => 0), k_I E q_2 16 (fun _ => 0), k_I E q_3 240 (fun _ => 0), k_I E q_4 5 (fun _ => 0), k_I E q_5 265 (fun _ => 0), k_I E q_6 3 (fun _ => 0), k_I E q_7 8 (fun _ => 0), k_I E q_8 8 (fun _ => 0), k_I E q_9 8 (fun _ => 0), k_I E q_10 10600 (fun _ => 0), k_I E q_11 84 (fun _ => 0), k_I E q_12 40 (fun _ => 0)]) hP hD rfl
  clear hP hD
  obtain ⟨hP, hD⟩ := h9
  refine lv_aload_n hx hb (dq_42 96 bcX8_init_2 (j := 6) rfl rfl) rfl (lv_at hl 0 rfl) ?_
  refine lv_sipush (v := 265) hx hb (dq_17 96 bcX8_init_2 (j := 7) (i := 265) rfl rfl rfl) (by decide) ?_
  refine nw_arr (atype := .int) (ty := .int) (a0 := (265, .inl (fun _ => 0))) hx hb (hts (.arrayClass .int) (List.mem_of_getElem? (i := 4) rfl)) rfl hK hP hD hS hA 0 rfl (fun _ _ a b => Option.some.inj (a.symm.trans b)) (fun _ => rfl) (by decide) rfl (Nat.le_of_ble_eq_true rfl) (Nat.le_of_ble_eq_true rfl) (Nat.le_of_ble_eq_true rfl) dX8_init_106 (fun q_13 H hP hD hS => ?_)
  have h9 := fixPD (ws' := [(av, .inr (9, [.int (0 : Int32), .ref q_1, .int (0 : Int32), .int (0 : Int32), .int (0 : Int32), .int (0 : Int32), .int (0 : Int32), .int (0 : Int32), .long (0 : Int64), .int (0 : Int32), .int (0 : Int32), .int (0 : Int32), .int (0 : Int32), .ref q_2, .ref q_3, .ref q_4, .int (0 : Int32), .ref q_5, .ref q_6, .int (0 : Int32), .ref q_7, .ref q_8, .int (0 : Int32), .int (0 : Int32), .ref q_9, .int (0 : Int32), .ref q_10, .int (0 : Int32), .long (0 : Int64), .ref q_11, .int (0 : Int32), .int (0 : Int32), .ref q_12, .int (0 : Int32), .null, .int (0 : Int32)])), k_I E q_1 320 (fun _ => 0), k_I E q_2 16 (fun _ => 0), k_I E q_3 240 (fun _ => 0), k_I E q_4 5 (fun _ => 0), k_I E q_5 265 (fun _ => 0), k_I E q_6 3 (fun _ => 0), k_I E q_7 8 (fun _ => 0), k_I E q_8 8 (fun _ => 0), k_I E q_9 8 (fun _ => 0), k_I E q_10 10600 (fun _ => 0), k_I E q_11 84 (fun _ => 0), k_I E q_12 40 (fun _ => 0), k_I E q_13 265 (fun _ => 0)]) hP hD rfl
  clear hP hD
  obtain ⟨hP, hD⟩ := h9
  refine W.widen (k := 13) (n := 11862) (Nat.le_of_ble_eq_true rfl) (Nat.le_of_ble_eq_true rfl) ?_
  refine va_putF (D := E.1) (ci := 9) (v := .ref q_13) (ty := .array .int) (C := RX8) (T := TX8) (N := 36) hx hb hts i_k_M_X8 tyX8 tyX8_ok nmX8 hown hK hP hD hS 0 rfl rfl 34 (by decide) (hts (.fieldLink RX8 46 "HushWatchModel" "image" "[I") (List.mem_of_getElem? (i := 17) rfl)) (fun _ h9 => h9) rfl hin rfl (by decide +kernel) rfl rfl (Nat.le_of_ble_eq_true rfl) (dq_181 96 bcX8_init_2 (j := 12) (i := 46) rfl rfl rfl) (fun H locs hP hD hS => ?_)
  have h9 := fixPD (ws' := [k_X8 av (0 : Int32) q_1 (0 : Int32) (0 : Int32) (0 : Int32) (0 : Int32) (0 : Int32) (0 : Int32) (0 : Int64) (0 : Int32) (0 : Int32) (0 : Int32) (0 : Int32) q_2 q_3 q_4 (0 : Int32) q_5 q_6 (0 : Int32) q_7 q_8 (0 : Int32) (0 : Int32) q_9 (0 : Int32) q_10 (0 : Int32) (0 : Int64) q_11 (0 : Int32) (0 : Int32) q_12 (0 : Int32) q_13 (0 : Int32), k_I E q_1 320 (fun _ => 0), k_I E q_2 16 (fun _ => 0), k_I E q_3 240 (fun _ => 0), k_I E q_4 5 (fun _ => 0), k_I E q_5 265 (fun _ => 0), k_I E q_6 3 (fun _ => 0), k_I E q_7 8 (fun _ => 0), k_I E q_8 8 (fun _ => 0), k_I E q_9 8 (fun _ => 0), k_I E q_10 10600 (fun _ => 0), k_I E q_11 84 (fun _ => 0), k_I E q_12 40 (fun _ => 0), k_I E q_13 265 (fun _ => 0)]) hP hD rfl
  clear hP hD
  obtain ⟨hP, hD⟩ := h9
  have hP9 := hP.sub (ws' := [k_X8 av (0 : Int32) q_1 (0 : Int32) (0 : Int32) (0 : Int32) (0 : Int32) (0 : Int32) (0 : Int32) (0 : Int64) (0 : Int32) (0 : Int32) (0 : Int32) (0 : Int32) q_2 q_3 q_4 (0 : Int32) q_5 q_6 (0 : Int32) q_7 q_8 (0 : Int32) (0 : Int32) q_9 (0 : Int32) q_10 (0 : Int32) (0 : Int64) q_11 (0 : Int32) (0 : Int32) q_12 (0 : Int32) q_13 (0 : Int32), k_I E q_1 320 (fun _ => 0), k_I E q_2 16 (fun _ => 0), k_I E q_3 240 (fun _ => 0), k_I E q_4 5 (fun _ => 0), k_I E q_5 265 (fun _ => 0), k_I E q_6 3 (fun _ => 0), k_I E q_7 8 (fun _ => 0), k_I E q_8 8 (fun _ => 0), k_I E q_9 8 (fun _ => 0), k_I E q_10 10600 (fun _ => 0), k_I E q_11 84 (fun _ => 0), k_I E q_12 40 (fun _ => 0), k_I E q_13 265 (fun _ => 0)]) [0, 1, 2, 3, 4, 5, 6, 7, 8, 9, 10, 11, 12, 13] rfl
  have hD9 := hD.sub (ws' := [k_X8 av (0 : Int32) q_1 (0 : Int32) (0 : Int32) (0 : Int32) (0 : Int32) (0 : Int32) (0 : Int32) (0 : Int64) (0 : Int32) (0 : Int32) (0 : Int32) (0 : Int32) q_2 q_3 q_4 (0 : Int32) q_5 q_6 (0 : Int32) q_7 q_8 (0 : Int32) (0 : Int32) q_9 (0 : Int32) q_10 (0 : Int32) (0 : Int64) q_11 (0 : Int32) (0 : Int32) q_12 (0 : Int32) q_13 (0 : Int32), k_I E q_1 320 (fun _ => 0), k_I E q_2 16 (fun _ => 0), k_I E q_3 240 (fun _ => 0), k_I E q_4 5 (fun _ => 0), k_I E q_5 265 (fun _ => 0), k_I E q_6 3 (fun _ => 0), k_I E q_7 8 (fun _ => 0), k_I E q_8 8 (fun _ => 0), k_I E q_9 8 (fun _ => 0), k_I E q_10 10600 (fun _ => 0), k_I E q_11 84 (fun _ => 0), k_I E q_12 40 (fun _ => 0), k_I E q_13 265 (fun _ => 0)]) [0, 1, 2, 3, 4, 5, 6, 7, 8, 9, 10, 11, 12, 13] (by decide) rfl
  rw [hQ]
  exact W.vret hx hb hr (fun tt ht hW => ⟨⟨fun i => ([q_1, q_2, q_3, q_4, q_5, q_6, q_7, q_8, q_9, q_10, q_11, q_12, q_13] : List Nat).getD i 0, rfl, trivial, by rw [ht]; exact hP9, hD9⟩, hS.F ht⟩) hS.2.2 (dq_177 96 bcX8_init_2 (j := 15) rfl rfl)

def v_k_X : List Cond := List.cons (.code yX7_init cX7_init 1 none) (HAppend.hAppend (α := List Cond) (β := List Cond) (γ := List Cond) [.methodLink RX7 1 objectInit, .instanceMethod objectInit, .code objectInit ⟨#[0xb1]⟩ 1 none, .classLink RX7 7 RX6, .instantiable RX6 2, .initialized RX6, .instanceMethod yX6_init, .fieldLink RX7 10 "HushWatch" "tape" "LHushWatch$Tape;", .classLink RX7 16 RX3, .instantiable RX3 11, .initialized RX3, .methodLink RX7 18 yX3_init, .instanceMethod yX3_init, .fieldLink RX7 21 "HushWatch" "reader" "LHushWatch$Reader;", .classLink RX7 25 RX4, .instantiable RX4 3, .initialized RX4, .instanceMethod yX4_init, .fieldLink RX7 28 "HushWatch" "scripts" "LHushWatch$Scripts;", .classLink RX7 32 RX5, .instantiable RX5 6, .initialized RX5, .instanceMethod yX5_init, .fieldLink RX7 35 "HushWatch" "now" "LHushWatch$State;", .fieldLink RX7 39 "HushWatch" "trial" "LHushWatch$State;", .fieldLink RX7 42 "HushWatch" "kept" "LHushWatch$State;", .classLink RX7 45 RX0, .instantiable RX0 1, .initialized RX0, .instanceMethod yX0_init, .fieldLink RX7 48 "HushWatch" "book" "LHushWatch$Book;", .fieldLink RX7 52 "HushWatch" "keptBook" "LHushWatch$Book;", .classLink RX7 55 RX2, .instantiable RX2 3, .initialized RX2, .instanceMethod yX2_init, .fieldLink RX7 58 "HushWatch" "history" "LHushWatch$History;", .classLink RX7 62 RX1, .instantiable RX1 5, .initialized RX1, .instanceMethod yX1_init, .fieldLink RX7 65 "HushWatch" "draws" "LHushWatch$Draws;", .arrayClass .int, .fieldLink RX7 69 "HushWatch" "refused" "[I", .fieldLink RX7 73 "HushWatch" "hasImage" "Z"] (HAppend.hAppend (α := List Cond) (β := List Cond) (γ := List Cond) wsX60 (HAppend.hAppend (α := List Cond) (β := List Cond) (γ := List Cond) v_k_Tape (HAppend.hAppend (α := List Cond) (β := List Cond) (γ := List Cond) wsX70 (HAppend.hAppend (α := List Cond) (β := List Cond) (γ := List Cond) wsX30 (HAppend.hAppend (α := List Cond) (β := List Cond) (γ := List Cond) v_k_Reader (HAppend.hAppend (α := List Cond) (β := List Cond) (γ := List Cond) wsX40 (HAppend.hAppend (α := List Cond) (β := List Cond) (γ := List Cond) v_k_Scripts (HAppend.hAppend (α := List Cond) (β := List Cond) (γ := List Cond) wsX50 (HAppend.hAppend (α := List Cond) (β := List Cond) (γ := List Cond) v_k_State (HAppend.hAppend (α := List Cond) (β := List Cond) (γ := List Cond) wsX00 (HAppend.hAppend (α := List Cond) (β := List Cond) (γ := List Cond) v_k_Book (HAppend.hAppend (α := List Cond) (β := List Cond) (γ := List Cond) wsX20 (HAppend.hAppend (α := List Cond) (β := List Cond) (γ := List Cond) v_k_History (HAppend.hAppend (α := List Cond) (β := List Cond) (γ := List Cond) wsX10 (HAppend.hAppend (α := List Cond) (β := List Cond) (γ := List Cond) v_k_Draws []))))))))))))))))
theorem gw_k_X : v_k_X.all goodWord = true := gw_c2 (by decide +kernel) (gw_ap gw_wsX60 (gw_ap gw_k_Tape (gw_ap gw_wsX70 (gw_ap gw_wsX30 (gw_ap gw_k_Reader (gw_ap gw_wsX40 (gw_ap gw_k_Scripts (gw_ap gw_wsX50 (gw_ap gw_k_State (gw_ap gw_wsX00 (gw_ap gw_k_Book (gw_ap gw_wsX20 (gw_ap gw_k_History (gw_ap gw_wsX10 (gw_ap gw_k_Draws gw_nil)))))))))))))))
theorem i_k_X_X6 : ∀ w ∈ wsX60, w ∈ v_k_X := fun _ h => List.mem_cons_of_mem _ (List.mem_append_right _ (List.mem_append_left _ h))
theorem i_k_X_X7 : ∀ w ∈ wsX70, w ∈ v_k_X := fun _ h => List.mem_cons_of_mem _ (List.mem_append_right _ (List.mem_append_right _ (List.mem_append_right _ (List.mem_append_left _ h))))
theorem i_k_X_X3 : ∀ w ∈ wsX30, w ∈ v_k_X := fun _ h => List.mem_cons_of_mem _ (List.mem_append_right _ (List.mem_append_right _ (List.mem_append_right _ (List.mem_append_right _ (List.mem_append_left _ h)))))
theorem i_k_X_X4 : ∀ w ∈ wsX40, w ∈ v_k_X := fun _ h => List.mem_cons_of_mem _ (List.mem_append_right _ (List.mem_append_right _ (List.mem_append_right _ (List.mem_append_right _ (List.mem_append_right _ (List.mem_append_right _ (List.mem_append_left _ h)))))))
theorem i_k_X_X5 : ∀ w ∈ wsX50, w ∈ v_k_X := fun _ h => List.mem_cons_of_mem _ (List.mem_append_right _ (List.mem_append_right _ (List.mem_append_right _ (List.mem_append_right _ (List.mem_append_right _ (List.mem_append_right _ (List.mem_append_right _ (List.mem_append_right _ (List.mem_append_left _ h)))))))))
theorem i_k_X_X0 : ∀ w ∈ wsX00, w ∈ v_k_X := fun _ h => List.mem_cons_of_mem _ (List.mem_append_right _ (List.mem_append_right _ (List.mem_append_right _ (List.mem_append_right _ (List.mem_append_right _ (List.mem_append_right _ (List.mem_append_right _ (List.mem_append_right _ (List.mem_append_right _ (List.mem_append_right _ (List.mem_append_left _ h)))))))))))
theorem i_k_X_X2 : ∀ w ∈ wsX20, w ∈ v_k_X := fun _ h => List.mem_cons_of_mem _ (List.mem_append_right _ (List.mem_append_right _ (List.mem_append_right _ (List.mem_append_right _ (List.mem_append_right _ (List.mem_append_right _ (List.mem_append_right _ (List.mem_append_right _ (List.mem_append_right _ (List.mem_append_right _ (List.mem_append_right _ (List.mem_append_right _ (List.mem_append_left _ h)))))))))))))
theorem i_k_X_X1 : ∀ w ∈ wsX10, w ∈ v_k_X := fun _ h => List.mem_cons_of_mem _ (List.mem_append_right _ (List.mem_append_right _ (List.mem_append_right _ (List.mem_append_right _ (List.mem_append_right _ (List.mem_append_right _ (List.mem_append_right _ (List.mem_append_right _ (List.mem_append_right _ (List.mem_append_right _ (List.mem_append_right _ (List.mem_append_right _ (List.mem_append_right _ (List.mem_append_right _ (List.mem_append_left _ h)))))))))))))))
theorem g_k_X_k_Tape_9 : GoodIn v_k_X v_k_Tape := goodIn_sub (fun _ h => List.mem_cons_of_mem _ (List.mem_append_right _ (List.mem_append_right _ (List.mem_append_left _ h)))) gw_k_Tape
theorem g_k_X_k_Reader_18 : GoodIn v_k_X v_k_Reader := goodIn_sub (fun _ h => List.mem_cons_of_mem _ (List.mem_append_right _ (List.mem_append_right _ (List.mem_append_right _ (List.mem_append_right _ (List.mem_append_right _ (List.mem_append_left _ h))))))) gw_k_Reader
theorem g_k_X_k_Scripts_27 : GoodIn v_k_X v_k_Scripts := goodIn_sub (fun _ h => List.mem_cons_of_mem _ (List.mem_append_right _ (List.mem_append_right _ (List.mem_append_right _ (List.mem_append_right _ (List.mem_append_right _ (List.mem_append_right _ (List.mem_append_right _ (List.mem_append_left _ h))))))))) gw_k_Scripts
theorem g_k_X_k_State_34 : GoodIn v_k_X v_k_State := goodIn_sub (fun _ h => List.mem_cons_of_mem _ (List.mem_append_right _ (List.mem_append_right _ (List.mem_append_right _ (List.mem_append_right _ (List.mem_append_right _ (List.mem_append_right _ (List.mem_append_right _ (List.mem_append_right _ (List.mem_append_right _ (List.mem_append_left _ h))))))))))) gw_k_State
theorem g_k_X_k_Book_47 : GoodIn v_k_X v_k_Book := goodIn_sub (fun _ h => List.mem_cons_of_mem _ (List.mem_append_right _ (List.mem_append_right _ (List.mem_append_right _ (List.mem_append_right _ (List.mem_append_right _ (List.mem_append_right _ (List.mem_append_right _ (List.mem_append_right _ (List.mem_append_right _ (List.mem_append_right _ (List.mem_append_right _ (List.mem_append_left _ h))))))))))))) gw_k_Book
theorem g_k_X_k_History_57 : GoodIn v_k_X v_k_History := goodIn_sub (fun _ h => List.mem_cons_of_mem _ (List.mem_append_right _ (List.mem_append_right _ (List.mem_append_right _ (List.mem_append_right _ (List.mem_append_right _ (List.mem_append_right _ (List.mem_append_right _ (List.mem_append_right _ (List.mem_append_right _ (List.mem_append_right _ (List.mem_append_right _ (List.mem_append_right _ (List.mem_append_right _ (List.mem_append_left _ h))))))))))))))) gw_k_History
theorem g_k_X_k_Draws_64 : GoodIn v_k_X v_k_Draws := goodIn_sub (fun _ h => List.mem_cons_of_mem _ (List.mem_append_right _ (List.mem_append_right _ (List.mem_append_right _ (List.mem_append_right _ (List.mem_append_right _ (List.mem_append_right _ (List.mem_append_right _ (List.mem_append_right _ (List.mem_append_right _ (List.mem_append_right _ (List.mem_append_right _ (List.mem_append_right _ (List.mem_append_right _ (List.mem_append_right _ (List.mem_append_right _ (List.mem_append_left _ h))))))))))))))))) gw_k_Draws
set_option maxHeartbeats 4000000 in
set_option maxRecDepth 100000 in
theorem k_X (l : Launch) (E : EE) (sz : Nat) {av : Nat}  : Met l yX7_init v_k_X (({ frames := 2, cells := 32, slots := 4749, locals := 41 } : Room)) (va_Pc [.ref av] (pW E sz [(av, .inr (8, [.null, .null, .null, .null, .null, .null, .null, .null, .null, .null, .null, .int (0 : Int32)]))])) (va_Qv (fun (_u : Nat → Nat) => True) (fun (u : Nat → Nat) tt => va_P E.1 vwCl (wLX E av (u 0) (u 1) (u 2) (u 3) (u 4) (u 5) (u 6) (u 7) (u 8) (u 9) (u 10) (u 11) (u 12) (u 13) (u 14) (u 15) (u 16) (u 17) (u 18) (u 19) (u 20) (u 21) (u 22) (u 23) (u 24) (u 25) (u 26) (u 27) (u 28) (u 29) (u 30) (u 31) 0 0 (fun _ => 0) 0 0 0 0 0 0 (-1) (fun _ => 0) (fun _ => 0) (fun _ => 0) 0 (fun _ => 0) (fun _ => 0) 0 0 (fun _ => 0) (fun _ => 0) (fun _ => 0) (fun _ => 0) 0 0 (fun _ => 0) (fun _ => 0) (fun _ => 0) (fun _ => 0) 0 0 (fun _ => 0) (fun _ => 0) (fun _ => 0) (fun _ => 0) (fun _ => 0) (fun _ => 0) 0 0 (fun _ => 0) 0 1 (-1) 0 0 (fun _ => 0)) tt.heap ∧ va_D (va_A [(av, .inr (8, [.null, .null, .null, .null, .null, .null, .null, .null, .null, .null, .null, .int (0 : Int32)]))] sz) (wLX E av (u 0) (u 1) (u 2) (u 3) (u 4) (u 5) (u 6) (u 7) (u 8) (u 9) (u 10) (u 11) (u 12) (u 13) (u 14) (u 15) (u 16) (u 17) (u 18) (u 19) (u 20) (u 21) (u 22) (u 23) (u 24) (u 25) (u 26) (u 27) (u 28) (u 29) (u 30) (u 31) 0 0 (fun _ => 0) 0 0 0 0 0 0 (-1) (fun _ => 0) (fun _ => 0) (fun _ => 0) 0 (fun _ => 0) (fun _ => 0) 0 0 (fun _ => 0) (fun _ => 0) (fun _ => 0) (fun _ => 0) 0 0 (fun _ => 0) (fun _ => 0) (fun _ => 0) (fun _ => 0) 0 0 (fun _ => 0) (fun _ => 0) (fun _ => 0) (fun _ => 0) (fun _ => 0) (fun _ => 0) 0 0 (fun _ => 0) 0 1 (-1) 0 0 (fun _ => 0))) (va_A [(av, .inr (8, [.null, .null, .null, .null, .null, .null, .null, .null, .null, .null, .null, .int (0 : Int32)]))] sz)) 32 4749 (va_A [(av, .inr (8, [.null, .null, .null, .null, .null, .null, .null, .null, .null, .null, .null, .int (0 : Int32)]))] sz) := by
  refine Met.ofW (cc := cX7_init) (maxL := 1) (ret := none) (by decide) rfl ?_
  intro p e s m args below meth c s₁ B hml hv
  obtain ⟨rfl, hsz, ⟨hK, hN⟩, hP, hD0⟩ := hv
  have hx := B.exec
  have hb := B.bytes
  have hr := B.returns
  have hts := atoms_spec (ws := v_k_X) B.pre
  have hown : s.vm.findClass RX7 = some m.cls := own_of (by decide +kernel) (findClass_of_methodNamed B.named)
  have hlocks : meth.locks = false := B.notSynchronized
  have hin : meth.name = "<init>" := (name_of_methodNamed B.named B.method).1
  subst hsz
  have hD := hD0.self (sz := s.heap.size)
  generalize hAe : va_A [(av, .inr (8, [.null, .null, .null, .null, .null, .null, .null, .null, .null, .null, .null, .int (0 : Int32)]))] s.heap.size = A at hD ⊢
  have hA : ∀ q : Nat, s.heap.size ≤ q → A q := fun q h => by rw [← hAe]; exact Or.inr h
  have hS : va_S A s.heap s.heap [] := va_S.rf
  have hl := lv_entry ([.ref av]) (n := 1) (Nat.le_of_ble_eq_true rfl)
  rw [lg_entry_eq]
  generalize (lg_sl ([.ref av]) ++ List.replicate (1 - (lg_sl ([.ref av])).length) Slot.unset).toArray = ls at hl ⊢
  have hl : lv_has ls 1 [(0, .ref av)] := hl
  obtain ⟨Q, hQ⟩ : ∃ Q : State → Prop, Q = MQ below (va_Qv (fun (_u : Nat → Nat) => True) (fun (u : Nat → Nat) tt => va_P E.1 vwCl (wLX E av (u 0) (u 1) (u 2) (u 3) (u 4) (u 5) (u 6) (u 7) (u 8) (u 9) (u 10) (u 11) (u 12) (u 13) (u 14) (u 15) (u 16) (u 17) (u 18) (u 19) (u 20) (u 21) (u 22) (u 23) (u 24) (u 25) (u 26) (u 27) (u 28) (u 29) (u 30) (u 31) 0 0 (fun _ => 0) 0 0 0 0 0 0 (-1) (fun _ => 0) (fun _ => 0) (fun _ => 0) 0 (fun _ => 0) (fun _ => 0) 0 0 (fun _ => 0) (fun _ => 0) (fun _ => 0) (fun _ => 0) 0 0 (fun _ => 0) (fun _ => 0) (fun _ => 0) (fun _ => 0) 0 0 (fun _ => 0) (fun _ => 0) (fun _ => 0) (fun _ => 0) (fun _ => 0) (fun _ => 0) 0 0 (fun _ => 0) 0 1 (-1) 0 0 (fun _ => 0)) tt.heap ∧ va_D A (wLX E av (u 0) (u 1) (u 2) (u 3) (u 4) (u 5) (u 6) (u 7) (u 8) (u 9) (u 10) (u 11) (u 12) (u 13) (u 14) (u 15) (u 16) (u 17) (u 18) (u 19) (u 20) (u 21) (u 22) (u 23) (u 24) (u 25) (u 26) (u 27) (u 28) (u 29) (u 30) (u 31) 0 0 (fun _ => 0) 0 0 0 0 0 0 (-1) (fun _ => 0) (fun _ => 0) (fun _ => 0) 0 (fun _ => 0) (fun _ => 0) 0 0 (fun _ => 0) (fun _ => 0) (fun _ => 0) (fun _ => 0) 0 0 (fun _ => 0) (fun _ => 0) (fun _ => 0) (fun _ => 0) 0 0 (fun _ => 0) (fun _ => 0) (fun _ => 0) (fun _ => 0) (fun _ => 0) (fun _ => 0) 0 0 (fun _ => 0) 0 1 (-1) 0 0 (fun _ => 0))) A) #[Value.ref av] s 32 4749 A := ⟨_, rfl⟩
  rw [← hQ]
  change W p l e ({ frames := 2, cells := 32, slots := 4749, locals := 41 } : Room) s m #[Value.ref av] below meth c s.heap [] 0 0 Q (F0 m 0 ls [])
  suffices hh9 : ∀ (H : Heap) (locs : List Loc), va_P E.1 vwCl [(av, .inr (8, [.null, .null, .null, .null, .null, .null, .null, .null, .null, .null, .null, .int (0 : Int32)]))] H → va_D A [(av, .inr (8, [.null, .null, .null, .null, .null, .null, .null, .null, .null, .null, .null, .int (0 : Int32)]))] → va_S A s.heap H locs → W p l e ({ frames := 2, cells := 32, slots := 4749, locals := 41 } : Room) s m #[Value.ref av] below meth c H locs 0 0 Q (F0 m 0 ls []) from hh9 s.heap [] hP hD hS
  clear hP hD hS
  intro H locs hP hD hS
  have h9 := fixPD (ws' := [(av, .inr (8, [.null, .null, .null, .null, .null, .null, .null, .null, .null, .null, .null, .int (0 : Int32)]))]) hP hD rfl
  clear hP hD
  obtain ⟨hP, hD⟩ := h9
  refine lv_aload_n hx hb (dq_42 0 bcX7_init_0 (j := 0) rfl rfl) rfl (lv_at hl 0 rfl) ?_
  refine W.objInit hx hb hown (hts (.methodLink RX7 1 objectInit) (List.mem_of_getElem? (i := 1) rfl)) (hts (.instanceMethod objectInit) (List.mem_of_getElem? (i := 2) rfl)) (hts (.code objectInit ⟨#[0xb1]⟩ 1 none) (List.mem_of_getElem? (i := 3) rfl)) rfl (by rw [hml]; exact hl.1) rfl (dq_183 0 bcX7_init_0 (j := 1) (i := 1) rfl rfl rfl) (Nat.le_of_ble_eq_true rfl) (Nat.le_of_ble_eq_true rfl) ?_
  refine W.eq (g2 := F0 m 4 ls []) rfl ?_
  refine lv_aload_n hx hb (dq_42 0 bcX7_init_0 (j := 4) rfl rfl) rfl (lv_at hl 0 rfl) ?_
  refine va_new (ci := 7) (fs := [.null, .int (0 : Int32)]) (C := RX6) (T := TX6) (N := 2) hx hb hts i_k_X_X6 tyX6 tyX6_ok hown (hts (.classLink RX7 7 RX6) (List.mem_of_getElem? (i := 4) rfl)) (hts (.instantiable RX6 2) (List.mem_of_getElem? (i := 5) rfl)) (hts (.initialized RX6) (List.mem_of_getElem? (i := 6) rfl)) hK hP hD hS hA rfl (fun j hj => by rcases (show j = 0 ∨ j = 1 by omega) with rfl | rfl <;> rfl) (Nat.le_of_ble_eq_true rfl) (Nat.le_of_ble_eq_true rfl) (dq_187 0 bcX7_init_0 (j := 5) (i := 7) rfl rfl rfl) (fun q_1 H hP hD hS => ?_)
  have h9 := fixPD (ws' := [(av, .inr (8, [.null, .null, .null, .null, .null, .null, .null, .null, .null, .null, .null, .int (0 : Int32)])), (q_1, .inr (7, [.null, .int (0 : Int32)]))]) hP hD rfl
  clear hP hD
  obtain ⟨hP, hD⟩ := h9
  refine W.widen (k := 1) (n := 2) (Nat.le_of_ble_eq_true rfl) (Nat.le_of_ble_eq_true rfl) ?_
  refine lv_dup hx hb (dq_89 0 bcX7_init_0 (j := 8) rfl rfl) rfl ?_
  obtain ⟨hPc, hDc, hFc⟩ := wcut (wc := [(q_1, .inr (7, [.null, .int (0 : Int32)]))]) hP hD hS hA [1] (by decide) rfl
  refine va_callv (va_runIN (As := []) (rest := [.ref q_1, .ref av]) ⟨hx, hb, hml, hown, hts⟩ (k_Tape l E H.size (av := q_1)) ⟨va_cnB 0 hts g_k_X_k_Tape_9 rfl rfl rfl (hN _ (List.mem_of_getElem? (i := 0) rfl)) (hts (.initialized RX6) (List.mem_of_getElem? (i := 6) rfl)) (by decide +kernel) ⟨Nat.le_of_ble_eq_true rfl, Nat.le_of_ble_eq_true rfl⟩, rfl, (hts (.instanceMethod yX6_init) (List.mem_of_getElem? (i := 7) rfl))⟩ ⟨pW.blind, (pW.pre ⟨hK, hN⟩ hPc hDc)⟩ rfl rfl hl.1 rfl (lv_room (Nat.le_of_ble_eq_true rfl)) (dq_183 0 bcX7_init_0 (j := 9) (i := 9) rfl rfl rfl) ⟨Nat.le_of_ble_eq_true rfl, Nat.le_of_ble_eq_true rfl⟩) hS (fun q _ h => hFc q h) hFc (fun u9  tt H1 locs ht hvm hw hB hz1 hk1 hS => ?_)
  obtain ⟨hP1, hD1⟩ := hB
  rw [ht] at hP1
  obtain ⟨hP, hD⟩ := va_join (wr := [(av, .inr (8, [.null, .null, .null, .null, .null, .null, .null, .null, .null, .null, .null, .int (0 : Int32)]))]) (w1 := [k_X6 q_1 (u9 0) (0 : Int32), k_B E (u9 0) 320 (fun _ => 0)]) hP hD [1] [0] rfl rfl (by decide) (by decide) hk1 hFc hP1 hD1
  generalize H1 = H at hP hS ⊢
  have h9 := fixPD (ws' := [(av, .inr (8, [.null, .null, .null, .null, .null, .null, .null, .null, .null, .null, .null, .int (0 : Int32)])), k_X6 q_1 (u9 0) (0 : Int32), k_B E (u9 0) 320 (fun _ => 0)]) hP hD rfl
  clear hP hD
  obtain ⟨hP, hD⟩ := h9
  refine W.widen (k := 2) (n := 322) (Nat.le_of_ble_eq_true rfl) (Nat.le_of_ble_eq_true rfl) ?_
  generalize u9 = u_tape at hP hD
  have h9 := fixPD (ws' := [(av, .inr (8, [.null, .null, .null, .null, .null, .null, .null, .null, .null, .null, .null, .int (0 : Int32)])), k_X6 q_1 (u_tape 0) (0 : Int32), k_B E (u_tape 0) 320 (fun _ => 0)]) hP hD rfl
  clear hP hD
  obtain ⟨hP, hD⟩ := h9
  refine va_putF (D := E.1) (ci := 8) (v := .ref q_1) (ty := .object "HushWatch$Tape") (C := RX7) (T := TX7) (N := 12) hx hb hts i_k_X_X7 tyX7 tyX7_ok nmX7 hown hK hP hD hS 0 rfl rfl 0 (by decide) (hts (.fieldLink RX7 10 "HushWatch" "tape" "LHushWatch$Tape;") (List.mem_of_getElem? (i := 8) rfl)) (fun _ h9 => h9) rfl hin rfl (by decide +kernel) rfl rfl (Nat.le_of_ble_eq_true rfl) (dq_181 0 bcX7_init_0 (j := 12) (i := 10) rfl rfl rfl) (fun H locs hP hD hS => ?_)
  have h9 := fixPD (ws' := [(av, .inr (8, [.ref q_1, .null, .null, .null, .null, .null, .null, .null, .null, .null, .null, .int (0 : Int32)])), k_X6 q_1 (u_tape 0) (0 : Int32), k_B E (u_tape 0) 320 (fun _ => 0)]) hP hD rfl
  clear hP hD
  obtain ⟨hP, hD⟩ := h9
  refine lv_aload_n hx hb (dq_42 0 bcX7_init_0 (j := 15) rfl rfl) rfl (lv_at hl 0 rfl) ?_
  refine va_new (ci := 4) (fs := [.null, .null, .null, .null, .int (0 : Int32), .int (0 : Int32), .int (0 : Int32), .int (0 : Int32), .int (0 : Int32), .int (0 : Int32), .int (0 : Int32)]) (C := RX3) (T := TX3) (N := 11) hx hb hts i_k_X_X3 tyX3 tyX3_ok hown (hts (.classLink RX7 16 RX3) (List.mem_of_getElem? (i := 9) rfl)) (hts (.instantiable RX3 11) (List.mem_of_getElem? (i := 10) rfl)) (hts (.initialized RX3) (List.mem_of_getElem? (i := 11) rfl)) hK hP hD hS hA rfl (fun j hj => by rcases (show j = 0 ∨ j = 1 ∨ j = 2 ∨ j = 3 ∨ j = 4 ∨ j = 5 ∨ j = 6 ∨ j = 7 ∨ j = 8 ∨ j = 9 ∨ j = 10 by omega) with rfl | rfl | rfl | rfl | rfl | rfl | rfl | rfl | rfl | rfl | rfl <;> rfl) (Nat.le_of_ble_eq_true rfl) (Nat.le_of_ble_eq_true rfl) (dq_187 0 bcX7_init_0 (j := 16) (i := 16) rfl rfl rfl) (fun q_2 H hP hD hS => ?_)
  have h9 := fixPD (ws' := [(av, .inr (8, [.ref q_1, .null, .null, .null, .null, .null, .null, .null, .null, .null, .null, .int (0 : Int32)])), k_X6 q_1 (u_tape 0) (0 : Int32), k_B E (u_tape 0) 320 (fun _ => 0), (q_2, .inr (4, [.null, .null, .null, .null, .int (0 : Int32), .int (0 : Int32), .int (0 : Int32), .int (0 : Int32), .int (0 : Int32), .int (0 : Int32), .int (0 : Int32)]))]) hP hD rfl
  clear hP hD
  obtain ⟨hP, hD⟩ := h9
  refine W.widen (k := 3) (n := 333) (Nat.le_of_ble_eq_true rfl) (Nat.le_of_ble_eq_true rfl) ?_
  refine lv_dup hx hb (dq_89 0 bcX7_init_0 (j := 19) rfl rfl) rfl ?_
  refine lv_aload_n hx hb (dq_42 0 bcX7_init_0 (j := 20) rfl rfl) rfl (lv_at hl 0 rfl) ?_
  refine va_get (D := E.1) (ci := 8) (v := .ref q_1) (C := RX7) (T := TX7) (N := 12) hx hb hts i_k_X_X7 hown hK hP 0 rfl rfl 0 (by decide) (hts (.fieldLink RX7 10 "HushWatch" "tape" "LHushWatch$Tape;") (List.mem_of_getElem? (i := 8) rfl)) (fun _ h9 => h9) rfl (dq_180 0 bcX7_init_0 (j := 21) (i := 10) rfl rfl rfl) ?_
  obtain ⟨hPc, hDc, hFc⟩ := wcut (wc := [(q_2, .inr (4, [.null, .null, .null, .null, .int (0 : Int32), .int (0 : Int32), .int (0 : Int32), .int (0 : Int32), .int (0 : Int32), .int (0 : Int32), .int (0 : Int32)]))]) hP hD hS hA [3] (by decide) rfl
  refine va_callv (va_runI (As := [.ref q_1]) (rest := [.ref q_2, .ref av]) ⟨hx, hb, hml, hown, hts⟩ (k_Reader l E H.size (av := q_2) (tp := q_1)) (cwI 1 hts g_k_X_k_Reader_18 rfl rfl rfl (hts (.initialized RX3) (List.mem_of_getElem? (i := 11) rfl)) (hts (.methodLink RX7 18 yX3_init) (List.mem_of_getElem? (i := 12) rfl)) (hts (.instanceMethod yX3_init) (List.mem_of_getElem? (i := 13) rfl)) rfl (by decide +kernel) ⟨Nat.le_of_ble_eq_true rfl, Nat.le_of_ble_eq_true rfl⟩) ⟨pW.blind, (pW.pre ⟨hK, hN⟩ hPc hDc)⟩ rfl rfl hl.1 rfl (lv_room (Nat.le_of_ble_eq_true rfl)) (dq_183 0 bcX7_init_0 (j := 24) (i := 18) rfl rfl rfl) ⟨Nat.le_of_ble_eq_true rfl, Nat.le_of_ble_eq_true rfl⟩) hS (fun q _ h => hFc q h) hFc (fun u9  tt H1 locs ht hvm hw hB hz1 hk1 hS => ?_)
  obtain ⟨hP1, hD1⟩ := hB
  rw [ht] at hP1
  obtain ⟨hP, hD⟩ := va_join (wr := [(av, .inr (8, [.ref q_1, .null, .null, .null, .null, .null, .null, .null, .null, .null, .null, .int (0 : Int32)])), k_X6 q_1 (u_tape 0) (0 : Int32), k_B E (u_tape 0) 320 (fun _ => 0)]) (w1 := [k_X3 q_2 q_1 (u9 0) (u9 1) (u9 2) (0 : Int32) (0 : Int32) (0 : Int32) (0 : Int32) (0 : Int32) (0 : Int32) (-1 : Int32), k_I E (u9 0) 3 (fun _ => 0), k_I E (u9 1) 16 (fun _ => 0), k_I E (u9 2) 48 (fun _ => 0)]) hP hD [3] [0, 1, 2] rfl rfl (by decide) (by decide) hk1 hFc hP1 hD1
  generalize H1 = H at hP hS ⊢
  have h9 := fixPD (ws' := [(av, .inr (8, [.ref q_1, .null, .null, .null, .null, .null, .null, .null, .null, .null, .null, .int (0 : Int32)])), k_X6 q_1 (u_tape 0) (0 : Int32), k_B E (u_tape 0) 320 (fun _ => 0), k_X3 q_2 q_1 (u9 0) (u9 1) (u9 2) (0 : Int32) (0 : Int32) (0 : Int32) (0 : Int32) (0 : Int32) (0 : Int32) (-1 : Int32), k_I E (u9 0) 3 (fun _ => 0), k_I E (u9 1) 16 (fun _ => 0), k_I E (u9 2) 48 (fun _ => 0)]) hP hD rfl
  clear hP hD
  obtain ⟨hP, hD⟩ := h9
  refine W.widen (k := 6) (n := 400) (Nat.le_of_ble_eq_true rfl) (Nat.le_of_ble_eq_true rfl) ?_
  generalize u9 = u_reader at hP hD
  have h9 := fixPD (ws' := [(av, .inr (8, [.ref q_1, .null, .null, .null, .null, .null, .null, .null, .null, .null, .null, .int (0 : Int32)])), k_X6 q_1 (u_tape 0) (0 : Int32), k_B E (u_tape 0) 320 (fun _ => 0), k_X3 q_2 q_1 (u_reader 0) (u_reader 1) (u_reader 2) (0 : Int32) (0 : Int32) (0 : Int32) (0 : Int32) (0 : Int32) (0 : Int32) (-1 : Int32), k_I E (u_reader 0) 3 (fun _ => 0), k_I E (u_reader 1) 16 (fun _ => 0), k_I E (u_reader 2) 48 (fun _ => 0)]) hP hD rfl
  clear hP hD
  obtain ⟨hP, hD⟩ := h9
  refine va_putF (D := E.1) (ci := 8) (v := .ref q_2) (ty := .object "HushWatch$Reader") (C := RX7) (T := TX7) (N := 12) hx hb hts i_k_X_X7 tyX7 tyX7_ok nmX7 hown hK hP hD hS 0 rfl rfl 1 (by decide) (hts (.fieldLink RX7 21 "HushWatch" "reader" "LHushWatch$Reader;") (List.mem_of_getElem? (i := 14) rfl)) (fun _ h9 => h9) rfl hin rfl (by decide +kernel) rfl rfl (Nat.le_of_ble_eq_true rfl) (dq_181 0 bcX7_init_0 (j := 27) (i := 21) rfl rfl rfl) (fun H locs hP hD hS => ?_)
  have h9 := fixPD (ws' := [(av, .inr (8, [.ref q_1, .ref q_2, .null, .null, .null, .null, .null, .null, .null, .null, .null, .int (0 : Int32)])), k_X6 q_1 (u_tape 0) (0 : Int32), k_B E (u_tape 0) 320 (fun _ => 0), k_X3 q_2 q_1 (u_reader 0) (u_reader 1) (u_reader 2) (0 : Int32) (0 : Int32) (0 : Int32) (0 : Int32) (0 : Int32) (0 : Int32) (-1 : Int32), k_I E (u_reader 0) 3 (fun _ => 0), k_I E (u_reader 1) 16 (fun _ => 0), k_I E (u_reader 2) 48 (fun _ => 0)]) hP hD rfl
  clear hP hD
  obtain ⟨hP, hD⟩ := h9
  refine lv_aload_n hx hb (dq_42 0 bcX7_init_0 (j := 30) rfl rfl) rfl (lv_at hl 0 rfl) ?_
  refine va_new (ci := 5) (fs := [.null, .null, .int (0 : Int32)]) (C := RX4) (T := TX4) (N := 3) hx hb hts i_k_X_X4 tyX4 tyX4_ok hown (hts (.classLink RX7 25 RX4) (List.mem_of_getElem? (i := 15) rfl)) (hts (.instantiable RX4 3) (List.mem_of_getElem? (i := 16) rfl)) (hts (.initialized RX4) (List.mem_of_getElem? (i := 17) rfl)) hK hP hD hS hA rfl (fun j hj => by rcases (show j = 0 ∨ j = 1 ∨ j = 2 by omega) with rfl | rfl | rfl <;> rfl) (Nat.le_of_ble_eq_true rfl) (Nat.le_of_ble_eq_true rfl) (dq_187 0 bcX7_init_0 (j := 31) (i := 25) rfl rfl rfl) (fun q_3 H hP hD hS => ?_)
  have h9 := fixPD (ws' := [(av, .inr (8, [.ref q_1, .ref q_2, .null, .null, .null, .null, .null, .null, .null, .null, .null, .int (0 : Int32)])), k_X6 q_1 (u_tape 0) (0 : Int32), k_B E (u_tape 0) 320 (fun _ => 0), k_X3 q_2 q_1 (u_reader 0) (u_reader 1) (u_reader 2) (0 : Int32) (0 : Int32) (0 : Int32) (0 : Int32) (0 : Int32) (0 : Int32) (-1 : Int32), k_I E (u_reader 0) 3 (fun _ => 0), k_I E (u_reader 1) 16 (fun _ => 0), k_I E (u_reader 2) 48 (fun _ => 0), (q_3, .inr (5, [.null, .null, .int (0 : Int32)]))]) hP hD rfl
  clear hP hD
  obtain ⟨hP, hD⟩ := h9
  refine W.widen (k := 7) (n := 403) (Nat.le_of_ble_eq_true rfl) (Nat.le_of_ble_eq_true rfl) ?_
  refine lv_dup hx hb (dq_89 0 bcX7_init_0 (j := 34) rfl rfl) rfl ?_
  obtain ⟨hPc, hDc, hFc⟩ := wcut (wc := [(q_3, .inr (5, [.null, .null, .int (0 : Int32)]))]) hP hD hS hA [7] (by decide) rfl
  refine va_callv (va_runIN (As := []) (rest := [.ref q_3, .ref av]) ⟨hx, hb, hml, hown, hts⟩ (k_Scripts l E H.size (av := q_3)) ⟨va_cnB 0 hts g_k_X_k_Scripts_27 rfl rfl rfl (hN _ (List.mem_of_getElem? (i := 8) rfl)) (hts (.initialized RX4) (List.mem_of_getElem? (i := 17) rfl)) (by decide +kernel) ⟨Nat.le_of_ble_eq_true rfl, Nat.le_of_ble_eq_true rfl⟩, rfl, (hts (.instanceMethod yX4_init) (List.mem_of_getElem? (i := 18) rfl))⟩ ⟨pW.blind, (pW.pre ⟨hK, hN⟩ hPc hDc)⟩ rfl rfl hl.1 rfl (lv_room (Nat.le_of_ble_eq_true rfl)) (dq_183 0 bcX7_init_0 (j := 35) (i := 27) rfl rfl rfl) ⟨Nat.le_of_ble_eq_true rfl, Nat.le_of_ble_eq_true rfl⟩) hS (fun q _ h => hFc q h) hFc (fun u9  tt H1 locs ht hvm hw hB hz1 hk1 hS => ?_)
  obtain ⟨hP1, hD1⟩ := hB
  rw [ht] at hP1
  obtain ⟨hP, hD⟩ := va_join (wr := [(av, .inr (8, [.ref q_1, .ref q_2, .null, .null, .null, .null, .null, .null, .null, .null, .null, .int (0 : Int32)])), k_X6 q_1 (u_tape 0) (0 : Int32), k_B E (u_tape 0) 320 (fun _ => 0), k_X3 q_2 q_1 (u_reader 0) (u_reader 1) (u_reader 2) (0 : Int32) (0 : Int32) (0 : Int32) (0 : Int32) (0 : Int32) (0 : Int32) (-1 : Int32), k_I E (u_reader 0) 3 (fun _ => 0), k_I E (u_reader 1) 16 (fun _ => 0), k_I E (u_reader 2) 48 (fun _ => 0)]) (w1 := [k_X4 q_3 (u9 0) (u9 1) (0 : Int32), k_I E (u9 0) 192 (fun _ => 0), k_I E (u9 1) 4 (fun _ => 0)]) hP hD [7] [0, 1, 2, 3, 4, 5, 6] rfl rfl (by decide) (by decide) hk1 hFc hP1 hD1
  generalize H1 = H at hP hS ⊢
  have h9 := fixPD (ws' := [(av, .inr (8, [.ref q_1, .ref q_2, .null, .null, .null, .null, .null, .null, .null, .null, .null, .int (0 : Int32)])), k_X6 q_1 (u_tape 0) (0 : Int32), k_B E (u_tape 0) 320 (fun _ => 0), k_X3 q_2 q_1 (u_reader 0) (u_reader 1) (u_reader 2) (0 : Int32) (0 : Int32) (0 : Int32) (0 : Int32) (0 : Int32) (0 : Int32) (-1 : Int32), k_I E (u_reader 0) 3 (fun _ => 0), k_I E (u_reader 1) 16 (fun _ => 0), k_I E (u_reader 2) 48 (fun _ => 0), k_X4 q_3 (u9 0) (u9 1) (0 : Int32), k_I E (u9 0) 192 (fun _ => 0), k_I E (u9 1) 4 (fun _ => 0)]) hP hD rfl
  clear hP hD
  obtain ⟨hP, hD⟩ := h9
  refine W.widen (k := 9) (n := 599) (Nat.le_of_ble_eq_true rfl) (Nat.le_of_ble_eq_true rfl) ?_
  generalize u9 = u_scripts at hP hD
  have h9 := fixPD (ws' := [(av, .inr (8, [.ref q_1, .ref q_2, .null, .null, .null, .null, .null, .null, .null, .null, .null, .int (0 : Int32)])), k_X6 q_1 (u_tape 0) (0 : Int32), k_B E (u_tape 0) 320 (fun _ => 0), k_X3 q_2 q_1 (u_reader 0) (u_reader 1) (u_reader 2) (0 : Int32) (0 : Int32) (0 : Int32) (0 : Int32) (0 : Int32) (0 : Int32) (-1 : Int32), k_I E (u_reader 0) 3 (fun _ => 0), k_I E (u_reader 1) 16 (fun _ => 0), k_I E (u_reader 2) 48 (fun _ => 0), k_X4 q_3 (u_scripts 0) (u_scripts 1) (0 : Int32), k_I E (u_scripts 0) 192 (fun _ => 0), k_I E (u_scripts 1) 4 (fun _ => 0)]) hP hD rfl
  clear hP hD
  obtain ⟨hP, hD⟩ := h9
  refine va_putF (D := E.1) (ci := 8) (v := .ref q_3) (ty := .object "HushWatch$Scripts") (C := RX7) (T := TX7) (N := 12) hx hb hts i_k_X_X7 tyX7 tyX7_ok nmX7 hown hK hP hD hS 0 rfl rfl 2 (by decide) (hts (.fieldLink RX7 28 "HushWatch" "scripts" "LHushWatch$Scripts;") (List.mem_of_getElem? (i := 19) rfl)) (fun _ h9 => h9) rfl hin rfl (by decide +kernel) rfl rfl (Nat.le_of_ble_eq_true rfl) (dq_181 0 bcX7_init_0 (j := 38) (i := 28) rfl rfl rfl) (fun H locs hP hD hS => ?_)
  have h9 := fixPD (ws' := [(av, .inr (8, [.ref q_1, .ref q_2, .ref q_3, .null, .null, .null, .null, .null, .null, .null, .null, .int (0 : Int32)])), k_X6 q_1 (u_tape 0) (0 : Int32), k_B E (u_tape 0) 320 (fun _ => 0), k_X3 q_2 q_1 (u_reader 0) (u_reader 1) (u_reader 2) (0 : Int32) (0 : Int32) (0 : Int32) (0 : Int32) (0 : Int32) (0 : Int32) (-1 : Int32), k_I E (u_reader 0) 3 (fun _ => 0), k_I E (u_reader 1) 16 (fun _ => 0), k_I E (u_reader 2) 48 (fun _ => 0), k_X4 q_3 (u_scripts 0) (u_scripts 1) (0 : Int32), k_I E (u_scripts 0) 192 (fun _ => 0), k_I E (u_scripts 1) 4 (fun _ => 0)]) hP hD rfl
  clear hP hD
  obtain ⟨hP, hD⟩ := h9
  refine lv_aload_n hx hb (dq_42 0 bcX7_init_0 (j := 41) rfl rfl) rfl (lv_at hl 0 rfl) ?_
  refine va_new (ci := 6) (fs := [.null, .null, .int (0 : Int32), .int (0 : Int32), .null, .null]) (C := RX5) (T := TX5) (N := 6) hx hb hts i_k_X_X5 tyX5 tyX5_ok hown (hts (.classLink RX7 32 RX5) (List.mem_of_getElem? (i := 20) rfl)) (hts (.instantiable RX5 6) (List.mem_of_getElem? (i := 21) rfl)) (hts (.initialized RX5) (List.mem_of_getElem? (i := 22) rfl)) hK hP hD hS hA rfl (fun j hj => by rcases (show j = 0 ∨ j = 1 ∨ j = 2 ∨ j = 3 ∨ j = 4 ∨ j = 5 by omega) with rfl | rfl | rfl | rfl | rfl | rfl <;> rfl) (Nat.le_of_ble_eq_true rfl) (Nat.le_of_ble_eq_true rfl) (dq_187 0 bcX7_init_0 (j := 42) (i := 32) rfl rfl rfl) (fun q_4 H hP hD hS => ?_)
  have h9 := fixPD (ws' := [(av, .inr (8, [.ref q_1, .ref q_2, .ref q_3, .null, .null, .null, .null, .null, .null, .null, .null, .int (0 : Int32)])), k_X6 q_1 (u_tape 0) (0 : Int32), k_B E (u_tape 0) 320 (fun _ => 0), k_X3 q_2 q_1 (u_reader 0) (u_reader 1) (u_reader 2) (0 : Int32) (0 : Int32) (0 : Int32) (0 : Int32) (0 : Int32) (0 : Int32) (-1 : Int32), k_I E (u_reader 0) 3 (fun _ => 0), k_I E (u_reader 1) 16 (fun _ => 0), k_I E (u_reader 2) 48 (fun _ => 0), k_X4 q_3 (u_scripts 0) (u_scripts 1) (0 : Int32), k_I E (u_scripts 0) 192 (fun _ => 0), k_I E (u_scripts 1) 4 (fun _ => 0), (q_4, .inr (6, [.null, .null, .int (0 : Int32), .int (0 : Int32), .null, .null]))]) hP hD rfl
  clear hP hD
  obtain ⟨hP, hD⟩ := h9
  refine W.widen (k := 10) (n := 605) (Nat.le_of_ble_eq_true rfl) (Nat.le_of_ble_eq_true rfl) ?_
  refine lv_dup hx hb (dq_89 0 bcX7_init_0 (j := 45) rfl rfl) rfl ?_
  obtain ⟨hPc, hDc, hFc⟩ := wcut (wc := [(q_4, .inr (6, [.null, .null, .int (0 : Int32), .int (0 : Int32), .null, .null]))]) hP hD hS hA [10] (by decide) rfl
  refine va_callv (va_runIN (As := []) (rest := [.ref q_4, .ref av]) ⟨hx, hb, hml, hown, hts⟩ (k_State l E H.size (av := q_4)) ⟨va_cnB 0 hts g_k_X_k_State_34 rfl rfl rfl (hN _ (List.mem_of_getElem? (i := 10) rfl)) (hts (.initialized RX5) (List.mem_of_getElem? (i := 22) rfl)) (by decide +kernel) ⟨Nat.le_of_ble_eq_true rfl, Nat.le_of_ble_eq_true rfl⟩, rfl, (hts (.instanceMethod yX5_init) (List.mem_of_getElem? (i := 23) rfl))⟩ ⟨pW.blind, (pW.pre ⟨hK, hN⟩ hPc hDc)⟩ rfl rfl hl.1 rfl (lv_room (Nat.le_of_ble_eq_true rfl)) (dq_183 0 bcX7_init_0 (j := 46) (i := 34) rfl rfl rfl) ⟨Nat.le_of_ble_eq_true rfl, Nat.le_of_ble_eq_true rfl⟩) hS (fun q _ h => hFc q h) hFc (fun u9  tt H1 locs ht hvm hw hB hz1 hk1 hS => ?_)
  obtain ⟨hP1, hD1⟩ := hB
  rw [ht] at hP1
  obtain ⟨hP, hD⟩ := va_join (wr := [(av, .inr (8, [.ref q_1, .ref q_2, .ref q_3, .null, .null, .null, .null, .null, .null, .null, .null, .int (0 : Int32)])), k_X6 q_1 (u_tape 0) (0 : Int32), k_B E (u_tape 0) 320 (fun _ => 0), k_X3 q_2 q_1 (u_reader 0) (u_reader 1) (u_reader 2) (0 : Int32) (0 : Int32) (0 : Int32) (0 : Int32) (0 : Int32) (0 : Int32) (-1 : Int32), k_I E (u_reader 0) 3 (fun _ => 0), k_I E (u_reader 1) 16 (fun _ => 0), k_I E (u_reader 2) 48 (fun _ => 0), k_X4 q_3 (u_scripts 0) (u_scripts 1) (0 : Int32), k_I E (u_scripts 0) 192 (fun _ => 0), k_I E (u_scripts 1) 4 (fun _ => 0)]) (w1 := [k_X5 q_4 (u9 0) (u9 1) (0 : Int32) (0 : Int32) (u9 2) (u9 3), k_I E (u9 0) 81 (fun _ => 0), k_I E (u9 1) 8 (fun _ => 0), k_I E (u9 2) 2 (fun _ => 0), k_I E (u9 3) 2 (fun _ => 0)]) hP hD [10] [0, 1, 2, 3, 4, 5, 6, 7, 8, 9] rfl rfl (by decide) (by decide) hk1 hFc hP1 hD1
  generalize H1 = H at hP hS ⊢
  have h9 := fixPD (ws' := [(av, .inr (8, [.ref q_1, .ref q_2, .ref q_3, .null, .null, .null, .null, .null, .null, .null, .null, .int (0 : Int32)])), k_X6 q_1 (u_tape 0) (0 : Int32), k_B E (u_tape 0) 320 (fun _ => 0), k_X3 q_2 q_1 (u_reader 0) (u_reader 1) (u_reader 2) (0 : Int32) (0 : Int32) (0 : Int32) (0 : Int32) (0 : Int32) (0 : Int32) (-1 : Int32), k_I E (u_reader 0) 3 (fun _ => 0), k_I E (u_reader 1) 16 (fun _ => 0), k_I E (u_reader 2) 48 (fun _ => 0), k_X4 q_3 (u_scripts 0) (u_scripts 1) (0 : Int32), k_I E (u_scripts 0) 192 (fun _ => 0), k_I E (u_scripts 1) 4 (fun _ => 0), k_X5 q_4 (u9 0) (u9 1) (0 : Int32) (0 : Int32) (u9 2) (u9 3), k_I E (u9 0) 81 (fun _ => 0), k_I E (u9 1) 8 (fun _ => 0), k_I E (u9 2) 2 (fun _ => 0), k_I E (u9 3) 2 (fun _ => 0)]) hP hD rfl
  clear hP hD
  obtain ⟨hP, hD⟩ := h9
  refine W.widen (k := 14) (n := 698) (Nat.le_of_ble_eq_true rfl) (Nat.le_of_ble_eq_true rfl) ?_
  generalize u9 = u_now at hP hD
  have h9 := fixPD (ws' := [(av, .inr (8, [.ref q_1, .ref q_2, .ref q_3, .null, .null, .null, .null, .null, .null, .null, .null, .int (0 : Int32)])), k_X6 q_1 (u_tape 0) (0 : Int32), k_B E (u_tape 0) 320 (fun _ => 0), k_X3 q_2 q_1 (u_reader 0) (u_reader 1) (u_reader 2) (0 : Int32) (0 : Int32) (0 : Int32) (0 : Int32) (0 : Int32) (0 : Int32) (-1 : Int32), k_I E (u_reader 0) 3 (fun _ => 0), k_I E (u_reader 1) 16 (fun _ => 0), k_I E (u_reader 2) 48 (fun _ => 0), k_X4 q_3 (u_scripts 0) (u_scripts 1) (0 : Int32), k_I E (u_scripts 0) 192 (fun _ => 0), k_I E (u_scripts 1) 4 (fun _ => 0), k_X5 q_4 (u_now 0) (u_now 1) (0 : Int32) (0 : Int32) (u_now 2) (u_now 3), k_I E (u_now 0) 81 (fun _ => 0), k_I E (u_now 1) 8 (fun _ => 0), k_I E (u_now 2) 2 (fun _ => 0), k_I E (u_now 3) 2 (fun _ => 0)]) hP hD rfl
  clear hP hD
  obtain ⟨hP, hD⟩ := h9
  refine va_putF (D := E.1) (ci := 8) (v := .ref q_4) (ty := .object "HushWatch$State") (C := RX7) (T := TX7) (N := 12) hx hb hts i_k_X_X7 tyX7 tyX7_ok nmX7 hown hK hP hD hS 0 rfl rfl 3 (by decide) (hts (.fieldLink RX7 35 "HushWatch" "now" "LHushWatch$State;") (List.mem_of_getElem? (i := 24) rfl)) (fun _ h9 => h9) rfl hin rfl (by decide +kernel) rfl rfl (Nat.le_of_ble_eq_true rfl) (dq_181 48 bcX7_init_1 (j := 1) (i := 35) rfl rfl rfl) (fun H locs hP hD hS => ?_)
  have h9 := fixPD (ws' := [(av, .inr (8, [.ref q_1, .ref q_2, .ref q_3, .ref q_4, .null, .null, .null, .null, .null, .null, .null, .int (0 : Int32)])), k_X6 q_1 (u_tape 0) (0 : Int32), k_B E (u_tape 0) 320 (fun _ => 0), k_X3 q_2 q_1 (u_reader 0) (u_reader 1) (u_reader 2) (0 : Int32) (0 : Int32) (0 : Int32) (0 : Int32) (0 : Int32) (0 : Int32) (-1 : Int32), k_I E (u_reader 0) 3 (fun _ => 0), k_I E (u_reader 1) 16 (fun _ => 0), k_I E (u_reader 2) 48 (fun _ => 0), k_X4 q_3 (u_scripts 0) (u_scripts 1) (0 : Int32), k_I E (u_scripts 0) 192 (fun _ => 0), k_I E (u_scripts 1) 4 (fun _ => 0), k_X5 q_4 (u_now 0) (u_now 1) (0 : Int32) (0 : Int32) (u_now 2) (u_now 3), k_I E (u_now 0) 81 (fun _ => 0), k_I E (u_now 1) 8 (fun _ => 0), k_I E (u_now 2) 2 (fun _ => 0), k_I E (u_now 3) 2 (fun _ => 0)]) hP hD rfl
  clear hP hD
  obtain ⟨hP, hD⟩ := h9
  refine lv_aload_n hx hb (dq_42 48 bcX7_init_1 (j := 4) rfl rfl) rfl (lv_at hl 0 rfl) ?_
  refine va_new (ci := 6) (fs := [.null, .null, .int (0 : Int32), .int (0 : Int32), .null, .null]) (C := RX5) (T := TX5) (N := 6) hx hb hts i_k_X_X5 tyX5 tyX5_ok hown (hts (.classLink RX7 32 RX5) (List.mem_of_getElem? (i := 20) rfl)) (hts (.instantiable RX5 6) (List.mem_of_getElem? (i := 21) rfl)) (hts (.initialized RX5) (List.mem_of_getElem? (i := 22) rfl)) hK hP hD hS hA rfl (fun j hj => by rcases (show j = 0 ∨ j = 1 ∨ j = 2 ∨ j = 3 ∨ j = 4 ∨ j = 5 by omega) with rfl | rfl | rfl | rfl | rfl | rfl <;> rfl) (Nat.le_of_ble_eq_true rfl) (Nat.le_of_ble_eq_true rfl) (dq_187 48 bcX7_init_1 (j := 5) (i := 32) rfl rfl rfl) (fun q_5 H hP hD hS => ?_)
  have h9 := fixPD (ws' := [(av, .inr (8, [.ref q_1, .ref q_2, .ref q_3, .ref q_4, .null, .null, .null, .null, .null, .null, .null, .int (0 : Int32)])), k_X6 q_1 (u_tape 0) (0 : Int32), k_B E (u_tape 0) 320 (fun _ => 0), k_X3 q_2 q_1 (u_reader 0) (u_reader 1) (u_reader 2) (0 : Int32) (0 : Int32) (0 : Int32) (0 : Int32) (0 : Int32) (0 : Int32) (-1 : Int32), k_I E (u_reader 0) 3 (fun _ => 0), k_I E (u_reader 1) 16 (fun _ => 0), k_I E (u_reader 2) 48 (fun _ => 0), k_X4 q_3 (u_scripts 0) (u_scripts 1) (0 : Int32), k_I E (u_scripts 0) 192 (fun _ => 0), k_I E (u_scripts 1) 4 (fun _ => 0), k_X5 q_4 (u_now 0) (u_now 1) (0 : Int32) (0 : Int32) (u_now 2) (u_now 3), k_I E (u_now 0) 81 (fun _ => 0), k_I E (u_now 1) 8 (fun _ => 0), k_I E (u_now 2) 2 (fun _ => 0), k_I E (u_now 3) 2 (fun _ => 0), (q_5, .inr (6, [.null, .null, .int (0 : Int32), .int (0 : Int32), .null, .null]))]) hP hD rfl
  clear hP hD
  obtain ⟨hP, hD⟩ := h9
  refine W.widen (k := 15) (n := 704) (Nat.le_of_ble_eq_true rfl) (Nat.le_of_ble_eq_true rfl) ?_
  refine lv_dup hx hb (dq_89 48 bcX7_init_1 (j := 8) rfl rfl) rfl ?_
  obtain ⟨hPc, hDc, hFc⟩ := wcut (wc := [(q_5, .inr (6, [.null, .null, .int (0 : Int32), .int (0 : Int32), .null, .null]))]) hP hD hS hA [15] (by decide) rfl
  refine va_callv (va_runIN (As := []) (rest := [.ref q_5, .ref av]) ⟨hx, hb, hml, hown, hts⟩ (k_State l E H.size (av := q_5)) ⟨va_cnB 0 hts g_k_X_k_State_34 rfl rfl rfl (hN _ (List.mem_of_getElem? (i := 10) rfl)) (hts (.initialized RX5) (List.mem_of_getElem? (i := 22) rfl)) (by decide +kernel) ⟨Nat.le_of_ble_eq_true rfl, Nat.le_of_ble_eq_true rfl⟩, rfl, (hts (.instanceMethod yX5_init) (List.mem_of_getElem? (i := 23) rfl))⟩ ⟨pW.blind, (pW.pre ⟨hK, hN⟩ hPc hDc)⟩ rfl rfl hl.1 rfl (lv_room (Nat.le_of_ble_eq_true rfl)) (dq_183 48 bcX7_init_1 (j := 9) (i := 34) rfl rfl rfl) ⟨Nat.le_of_ble_eq_true rfl, Nat.le_of_ble_eq_true rfl⟩) hS (fun q _ h => hFc q h) hFc (fun u9  tt H1 locs ht hvm hw hB hz1 hk1 hS => ?_)
  obtain ⟨hP1, hD1⟩ := hB
  rw [ht] at hP1
  obtain ⟨hP, hD⟩ := va_join (wr := [(av, .inr (8, [.ref q_1, .ref q_2, .ref q_3, .ref q_4, .null, .null, .null, .null, .null, .null, .null, .int (0 : Int32)])), k_X6 q_1 (u_tape 0) (0 : Int32), k_B E (u_tape 0) 320 (fun _ => 0), k_X3 q_2 q_1 (u_reader 0) (u_reader 1) (u_reader 2) (0 : Int32) (0 : Int32) (0 : Int32) (0 : Int32) (0 : Int32) (0 : Int32) (-1 : Int32), k_I E (u_reader 0) 3 (fun _ => 0), k_I E (u_reader 1) 16 (fun _ => 0), k_I E (u_reader 2) 48 (fun _ => 0), k_X4 q_3 (u_scripts 0) (u_scripts 1) (0 : Int32), k_I E (u_scripts 0) 192 (fun _ => 0), k_I E (u_scripts 1) 4 (fun _ => 0), k_X5 q_4 (u_now 0) (u_now 1) (0 : Int32) (0 : Int32) (u_now 2) (u_now 3), k_I E (u_now 0) 81 (fun _ => 0), k_I E (u_now 1) 8 (fun _ => 0), k_I E (u_now 2) 2 (fun _ => 0), k_I E (u_now 3) 2 (fun _ => 0)]) (w1 := [k_X5 q_5 (u9 0) (u9 1) (0 : Int32) (0 : Int32) (u9 2) (u9 3), k_I E (u9 0) 81 (fun _ => 0), k_I E (u9 1) 8 (fun _ => 0), k_I E (u9 2) 2 (fun _ => 0), k_I E (u9 3) 2 (fun _ => 0)]) hP hD [15] [0, 1, 2, 3, 4, 5, 6, 7, 8, 9, 10, 11, 12, 13, 14] rfl rfl (by decide) (by decide) hk1 hFc hP1 hD1
  generalize H1 = H at hP hS ⊢
  have h9 := fixPD (ws' := [(av, .inr (8, [.ref q_1, .ref q_2, .ref q_3, .ref q_4, .null, .null, .null, .null, .null, .null, .null, .int (0 : Int32)])), k_X6 q_1 (u_tape 0) (0 : Int32), k_B E (u_tape 0) 320 (fun _ => 0), k_X3 q_2 q_1 (u_reader 0) (u_reader 1) (u_reader 2) (0 : Int32) (0 : Int32) (0 : Int32) (0 : Int32) (0 : Int32) (0 : Int32) (-1 : Int32), k_I E (u_reader 0) 3 (fun _ => 0), k_I E (u_reader 1) 16 (fun _ => 0), k_I E (u_reader 2) 48 (fun _ => 0), k_X4 q_3 (u_scripts 0) (u_scripts 1) (0 : Int32), k_I E (u_scripts 0) 192 (fun _ => 0), k_I E (u_scripts 1) 4 (fun _ => 0), k_X5 q_4 (u_now 0) (u_now 1) (0 : Int32) (0 : Int32) (u_now 2) (u_now 3), k_I E (u_now 0) 81 (fun _ => 0), k_I E (u_now 1) 8 (fun _ => 0), k_I E (u_now 2) 2 (fun _ => 0), k_I E (u_now 3) 2 (fun _ => 0), k_X5 q_5 (u9 0) (u9 1) (0 : Int32) (0 : Int32) (u9 2) (u9 3), k_I E (u9 0) 81 (fun _ => 0), k_I E (u9 1) 8 (fun _ => 0), k_I E (u9 2) 2 (fun _ => 0), k_I E (u9 3) 2 (fun _ => 0)]) hP hD rfl
  clear hP hD
  obtain ⟨hP, hD⟩ := h9
  refine W.widen (k := 19) (n := 797) (Nat.le_of_ble_eq_true rfl) (Nat.le_of_ble_eq_true rfl) ?_
  generalize u9 = u_trial at hP hD
  have h9 := fixPD (ws' := [(av, .inr (8, [.ref q_1, .ref q_2, .ref q_3, .ref q_4, .null, .null, .null, .null, .null, .null, .null, .int (0 : Int32)])), k_X6 q_1 (u_tape 0) (0 : Int32), k_B E (u_tape 0) 320 (fun _ => 0), k_X3 q_2 q_1 (u_reader 0) (u_reader 1) (u_reader 2) (0 : Int32) (0 : Int32) (0 : Int32) (0 : Int32) (0 : Int32) (0 : Int32) (-1 : Int32), k_I E (u_reader 0) 3 (fun _ => 0), k_I E (u_reader 1) 16 (fun _ => 0), k_I E (u_reader 2) 48 (fun _ => 0), k_X4 q_3 (u_scripts 0) (u_scripts 1) (0 : Int32), k_I E (u_scripts 0) 192 (fun _ => 0), k_I E (u_scripts 1) 4 (fun _ => 0), k_X5 q_4 (u_now 0) (u_now 1) (0 : Int32) (0 : Int32) (u_now 2) (u_now 3), k_I E (u_now 0) 81 (fun _ => 0), k_I E (u_now 1) 8 (fun _ => 0), k_I E (u_now 2) 2 (fun _ => 0), k_I E (u_now 3) 2 (fun _ => 0), k_X5 q_5 (u_trial 0) (u_trial 1) (0 : Int32) (0 : Int32) (u_trial 2) (u_trial 3), k_I E (u_trial 0) 81 (fun _ => 0), k_I E (u_trial 1) 8 (fun _ => 0), k_I E (u_trial 2) 2 (fun _ => 0), k_I E (u_trial 3) 2 (fun _ => 0)]) hP hD rfl
  clear hP hD
  obtain ⟨hP, hD⟩ := h9
  refine va_putF (D := E.1) (ci := 8) (v := .ref q_5) (ty := .object "HushWatch$State") (C := RX7) (T := TX7) (N := 12) hx hb hts i_k_X_X7 tyX7 tyX7_ok nmX7 hown hK hP hD hS 0 rfl rfl 4 (by decide) (hts (.fieldLink RX7 39 "HushWatch" "trial" "LHushWatch$State;") (List.mem_of_getElem? (i := 25) rfl)) (fun _ h9 => h9) rfl hin rfl (by decide +kernel) rfl rfl (Nat.le_of_ble_eq_true rfl) (dq_181 48 bcX7_init_1 (j := 12) (i := 39) rfl rfl rfl) (fun H locs hP hD hS => ?_)
  have h9 := fixPD (ws' := [(av, .inr (8, [.ref q_1, .ref q_2, .ref q_3, .ref q_4, .ref q_5, .null, .null, .null, .null, .null, .null, .int (0 : Int32)])), k_X6 q_1 (u_tape 0) (0 : Int32), k_B E (u_tape 0) 320 (fun _ => 0), k_X3 q_2 q_1 (u_reader 0) (u_reader 1) (u_reader 2) (0 : Int32) (0 : Int32) (0 : Int32) (0 : Int32) (0 : Int32) (0 : Int32) (-1 : Int32), k_I E (u_reader 0) 3 (fun _ => 0), k_I E (u_reader 1) 16 (fun _ => 0), k_I E (u_reader 2) 48 (fun _ => 0), k_X4 q_3 (u_scripts 0) (u_scripts 1) (0 : Int32), k_I E (u_scripts 0) 192 (fun _ => 0), k_I E (u_scripts 1) 4 (fun _ => 0), k_X5 q_4 (u_now 0) (u_now 1) (0 : Int32) (0 : Int32) (u_now 2) (u_now 3), k_I E (u_now 0) 81 (fun _ => 0), k_I E (u_now 1) 8 (fun _ => 0), k_I E (u_now 2) 2 (fun _ => 0), k_I E (u_now 3) 2 (fun _ => 0), k_X5 q_5 (u_trial 0) (u_trial 1) (0 : Int32) (0 : Int32) (u_trial 2) (u_trial 3), k_I E (u_trial 0) 81 (fun _ => 0), k_I E (u_trial 1) 8 (fun _ => 0), k_I E (u_trial 2) 2 (fun _ => 0), k_I E (u_trial 3) 2 (fun _ => 0)]) hP hD rfl
  clear hP hD
  obtain ⟨hP, hD⟩ := h9
  refine lv_aload_n hx hb (dq_42 48 bcX7_init_1 (j := 15) rfl rfl) rfl (lv_at hl 0 rfl) ?_
  refine va_new (ci := 6) (fs := [.null, .null, .int (0 : Int32), .int (0 : Int32), .null, .null]) (C := RX5) (T := TX5) (N := 6) hx hb hts i_k_X_X5 tyX5 tyX5_ok hown (hts (.classLink RX7 32 RX5) (List.mem_of_getElem? (i := 20) rfl)) (hts (.instantiable RX5 6) (List.mem_of_getElem? (i := 21) rfl)) (hts (.initialized RX5) (List.mem_of_getElem? (i := 22) rfl)) hK hP hD hS hA rfl (fun j hj => by rcases (show j = 0 ∨ j = 1 ∨ j = 2 ∨ j = 3 ∨ j = 4 ∨ j = 5 by omega) with rfl | rfl | rfl | rfl | rfl | rfl <;> rfl) (Nat.le_of_ble_eq_true rfl) (Nat.le_of_ble_eq_true rfl) (dq_187 48 bcX7_init_1 (j := 16) (i := 32) rfl rfl rfl) (fun q_6 H hP hD hS => ?_)
  have h9 := fixPD (ws' := [(av, .inr (8, [.ref q_1, .ref q_2, .ref q_3, .ref q_4, .ref q_5, .null, .null, .null, .null, .null, .null, .int (0 : Int32)])), k_X6 q_1 (u_tape 0) (0 : Int32), k_B E (u_tape 0) 320 (fun _ => 0), k_X3 q_2 q_1 (u_reader 0) (u_reader 1) (u_reader 2) (0 : Int32) (0 : Int32) (0 : Int32) (0 : Int32) (0 : Int32) (0 : Int32) (-1 : Int32), k_I E (u_reader 0) 3 (fun _ => 0), k_I E (u_reader 1) 16 (fun _ => 0), k_I E (u_reader 2) 48 (fun _ => 0), k_X4 q_3 (u_scripts 0) (u_scripts 1) (0 : Int32), k_I E (u_scripts 0) 192 (fun _ => 0), k_I E (u_scripts 1) 4 (fun _ => 0), k_X5 q_4 (u_now 0) (u_now 1) (0 : Int32) (0 : Int32) (u_now 2) (u_now 3), k_I E (u_now 0) 81 (fun _ => 0), k_I E (u_now 1) 8 (fun _ => 0), k_I E (u_now 2) 2 (fun _ => 0), k_I E (u_now 3) 2 (fun _ => 0), k_X5 q_5 (u_trial 0) (u_trial 1) (0 : Int32) (0 : Int32) (u_trial 2) (u_trial 3), k_I E (u_trial 0) 81 (fun _ => 0), k_I E (u_trial 1) 8 (fun _ => 0), k_I E (u_trial 2) 2 (fun _ => 0), k_I E (u_trial 3) 2 (fun _ => 0), (q_6, .inr (6, [.null, .null, .int (0 : Int32), .int (0 : Int32), .null, .null]))]) hP hD rfl
  clear hP hD
  obtain ⟨hP, hD⟩ := h9
  refine W.widen (k := 20) (n := 803) (Nat.le_of_ble_eq_true rfl) (Nat.le_of_ble_eq_true rfl) ?_
  refine lv_dup hx hb (dq_89 48 bcX7_init_1 (j := 19) rfl rfl) rfl ?_
  obtain ⟨hPc, hDc, hFc⟩ := wcut (wc := [(q_6, .inr (6, [.null, .null, .int (0 : Int32), .int (0 : Int32), .null, .null]))]) hP hD hS hA [20] (by decide) rfl
  refine va_callv (va_runIN (As := []) (rest := [.ref q_6, .ref av]) ⟨hx, hb, hml, hown, hts⟩ (k_State l E H.size (av := q_6)) ⟨va_cnB 0 hts g_k_X_k_State_34 rfl rfl rfl (hN _ (List.mem_of_getElem? (i := 10) rfl)) (hts (.initialized RX5) (List.mem_of_getElem? (i := 22) rfl)) (by decide +kernel) ⟨Nat.le_of_ble_eq_true rfl, Nat.le_of_ble_eq_true rfl⟩, rfl, (hts (.instanceMethod yX5_init) (List.mem_of_getElem? (i := 23) rfl))⟩ ⟨pW.blind, (pW.pre ⟨hK, hN⟩ hPc hDc)⟩ rfl rfl hl.1 rfl (lv_room (Nat.le_of_ble_eq_true rfl)) (dq_183 48 bcX7_init_1 (j := 20) (i := 34) rfl rfl rfl) ⟨Nat.le_of_ble_eq_true rfl, Nat.le_of_ble_eq_true rfl⟩) hS (fun q _ h => hFc q h) hFc (fun u9  tt H1 locs ht hvm hw hB hz1 hk1 hS => ?_)
  obtain ⟨hP1, hD1⟩ := hB
  rw [ht] at hP1
  obtain ⟨hP, hD⟩ := va_join (wr := [(av, .inr (8, [.ref q_1, .ref q_2, .ref q_3, .ref q_4, .ref q_5, .null, .null, .null, .null, .null, .null, .int (0 : Int32)])), k_X6 q_1 (u_tape 0) (0 : Int32), k_B E (u_tape 0) 320 (fun _ => 0), k_X3 q_2 q_1 (u_reader 0) (u_reader 1) (u_reader 2) (0 : Int32) (0 : Int32) (0 : Int32) (0 : Int32) (0 : Int32) (0 : Int32) (-1 : Int32), k_I E (u_reader 0) 3 (fun _ => 0), k_I E (u_reader 1) 16 (fun _ => 0), k_I E (u_reader 2) 48 (fun _ => 0), k_X4 q_3 (u_scripts 0) (u_scripts 1) (0 : Int32), k_I E (u_scripts 0) 192 (fun _ => 0), k_I E (u_scripts 1) 4 (fun _ => 0), k_X5 q_4 (u_now 0) (u_now 1) (0 : Int32) (0 : Int32) (u_now 2) (u_now 3), k_I E (u_now 0) 81 (fun _ => 0), k_I E (u_now 1) 8 (fun _ => 0), k_I E (u_now 2) 2 (fun _ => 0), k_I E (u_now 3) 2 (fun _ => 0), k_X5 q_5 (u_trial 0) (u_trial 1) (0 : Int32) (0 : Int32) (u_trial 2) (u_trial 3), k_I E (u_trial 0) 81 (fun _ => 0), k_I E (u_trial 1) 8 (fun _ => 0), k_I E (u_trial 2) 2 (fun _ => 0), k_I E (u_trial 3) 2 (fun _ => 0)]) (w1 := [k_X5 q_6 (u9 0) (u9 1) (0 : Int32) (0 : Int32) (u9 2) (u9 3), k_I E (u9 0) 81 (fun _ => 0), k_I E (u9 1) 8 (fun _ => 0), k_I E (u9 2) 2 (fun _ => 0), k_I E (u9 3) 2 (fun _ => 0)]) hP hD [20] [0, 1, 2, 3, 4, 5, 6, 7, 8, 9, 10, 11, 12, 13, 14, 15, 16, 17, 18, 19] rfl rfl (by decide) (by decide) hk1 hFc hP1 hD1
  generalize H1 = H at hP hS ⊢
  have h9 := fixPD (ws' := [(av, .inr (8, [.ref q_1, .ref q_2, .ref q_3, .ref q_4, .ref q_5, .null, .null, .null, .null, .null, .null, .int (0 : Int32)])), k_X6 q_1 (u_tape 0) (0 : Int32), k_B E (u_tape 0) 320 (fun _ => 0), k_X3 q_2 q_1 (u_reader 0) (u_reader 1) (u_reader 2) (0 : Int32) (0 : Int32) (0 : Int32) (0 : Int32) (0 : Int32) (0 : Int32) (-1 : Int32), k_I E (u_reader 0) 3 (fun _ => 0), k_I E (u_reader 1) 16 (fun _ => 0), k_I E (u_reader 2) 48 (fun _ => 0), k_X4 q_3 (u_scripts 0) (u_scripts 1) (0 : Int32), k_I E (u_scripts 0) 192 (fun _ => 0), k_I E (u_scripts 1) 4 (fun _ => 0), k_X5 q_4 (u_now 0) (u_now 1) (0 : Int32) (0 : Int32) (u_now 2) (u_now 3), k_I E (u_now 0) 81 (fun _ => 0), k_I E (u_now 1) 8 (fun _ => 0), k_I E (u_now 2) 2 (fun _ => 0), k_I E (u_now 3) 2 (fun _ => 0), k_X5 q_5 (u_trial 0) (u_trial 1) (0 : Int32) (0 : Int32) (u_trial 2) (u_trial 3), k_I E (u_trial 0) 81 (fun _ => 0), k_I E (u_trial 1) 8 (fun _ => 0), k_I E (u_trial 2) 2 (fun _ => 0), k_I E (u_trial 3) 2 (fun _ => 0), k_X5 q_6 (u9 0) (u9 1) (0 : Int32) (0 : Int32) (u9 2) (u9 3), k_I E (u9 0) 81 (fun _ => 0), k_I E (u9 1) 8 (fun _ => 0), k_I E (u9 2) 2 (fun _ => 0), k_I E (u9 3) 2 (fun _ => 0)]) hP hD rfl
  clear hP hD
  obtain ⟨hP, hD⟩ := h9
  refine W.widen (k := 24) (n := 896) (Nat.le_of_ble_eq_true rfl) (Nat.le_of_ble_eq_true rfl) ?_
  generalize u9 = u_kept at hP hD
  have h9 := fixPD (ws' := [(av, .inr (8, [.ref q_1, .ref q_2, .ref q_3, .ref q_4, .ref q_5, .null, .null, .null, .null, .null, .null, .int (0 : Int32)])), k_X6 q_1 (u_tape 0) (0 : Int32), k_B E (u_tape 0) 320 (fun _ => 0), k_X3 q_2 q_1 (u_reader 0) (u_reader 1) (u_reader 2) (0 : Int32) (0 : Int32) (0 : Int32) (0 : Int32) (0 : Int32) (0 : Int32) (-1 : Int32), k_I E (u_reader 0) 3 (fun _ => 0), k_I E (u_reader 1) 16 (fun _ => 0), k_I E (u_reader 2) 48 (fun _ => 0), k_X4 q_3 (u_scripts 0) (u_scripts 1) (0 : Int32), k_I E (u_scripts 0) 192 (fun _ => 0), k_I E (u_scripts 1) 4 (fun _ => 0), k_X5 q_4 (u_now 0) (u_now 1) (0 : Int32) (0 : Int32) (u_now 2) (u_now 3), k_I E (u_now 0) 81 (fun _ => 0), k_I E (u_now 1) 8 (fun _ => 0), k_I E (u_now 2) 2 (fun _ => 0), k_I E (u_now 3) 2 (fun _ => 0), k_X5 q_5 (u_trial 0) (u_trial 1) (0 : Int32) (0 : Int32) (u_trial 2) (u_trial 3), k_I E (u_trial 0) 81 (fun _ => 0), k_I E (u_trial 1) 8 (fun _ => 0), k_I E (u_trial 2) 2 (fun _ => 0), k_I E (u_trial 3) 2 (fun _ => 0), k_X5 q_6 (u_kept 0) (u_kept 1) (0 : Int32) (0 : Int32) (u_kept 2) (u_kept 3), k_I E (u_kept 0) 81 (fun _ => 0), k_I E (u_kept 1) 8 (fun _ => 0), k_I E (u_kept 2) 2 (fun _ => 0), k_I E (u_kept 3) 2 (fun _ => 0)]) hP hD rfl
  clear hP hD
  obtain ⟨hP, hD⟩ := h9
  refine va_putF (D := E.1) (ci := 8) (v := .ref q_6) (ty := .object "HushWatch$State") (C := RX7) (T := TX7) (N := 12) hx hb hts i_k_X_X7 tyX7 tyX7_ok nmX7 hown hK hP hD hS 0 rfl rfl 5 (by decide) (hts (.fieldLink RX7 42 "HushWatch" "kept" "LHushWatch$State;") (List.mem_of_getElem? (i := 26) rfl)) (fun _ h9 => h9) rfl hin rfl (by decide +kernel) rfl rfl (Nat.le_of_ble_eq_true rfl) (dq_181 48 bcX7_init_1 (j := 23) (i := 42) rfl rfl rfl) (fun H locs hP hD hS => ?_)
  have h9 := fixPD (ws' := [(av, .inr (8, [.ref q_1, .ref q_2, .ref q_3, .ref q_4, .ref q_5, .ref q_6, .null, .null, .null, .null, .null, .int (0 : Int32)])), k_X6 q_1 (u_tape 0) (0 : Int32), k_B E (u_tape 0) 320 (fun _ => 0), k_X3 q_2 q_1 (u_reader 0) (u_reader 1) (u_reader 2) (0 : Int32) (0 : Int32) (0 : Int32) (0 : Int32) (0 : Int32) (0 : Int32) (-1 : Int32), k_I E (u_reader 0) 3 (fun _ => 0), k_I E (u_reader 1) 16 (fun _ => 0), k_I E (u_reader 2) 48 (fun _ => 0), k_X4 q_3 (u_scripts 0) (u_scripts 1) (0 : Int32), k_I E (u_scripts 0) 192 (fun _ => 0), k_I E (u_scripts 1) 4 (fun _ => 0), k_X5 q_4 (u_now 0) (u_now 1) (0 : Int32) (0 : Int32) (u_now 2) (u_now 3), k_I E (u_now 0) 81 (fun _ => 0), k_I E (u_now 1) 8 (fun _ => 0), k_I E (u_now 2) 2 (fun _ => 0), k_I E (u_now 3) 2 (fun _ => 0), k_X5 q_5 (u_trial 0) (u_trial 1) (0 : Int32) (0 : Int32) (u_trial 2) (u_trial 3), k_I E (u_trial 0) 81 (fun _ => 0), k_I E (u_trial 1) 8 (fun _ => 0), k_I E (u_trial 2) 2 (fun _ => 0), k_I E (u_trial 3) 2 (fun _ => 0), k_X5 q_6 (u_kept 0) (u_kept 1) (0 : Int32) (0 : Int32) (u_kept 2) (u_kept 3), k_I E (u_kept 0) 81 (fun _ => 0), k_I E (u_kept 1) 8 (fun _ => 0), k_I E (u_kept 2) 2 (fun _ => 0), k_I E (u_kept 3) 2 (fun _ => 0)]) hP hD rfl
  clear hP hD
  obtain ⟨hP, hD⟩ := h9
  refine lv_aload_n hx hb (dq_42 48 bcX7_init_1 (j := 26) rfl rfl) rfl (lv_at hl 0 rfl) ?_
  refine va_new (ci := 1) (fs := [.null]) (C := RX0) (T := TX0) (N := 1) hx hb hts i_k_X_X0 tyX0 tyX0_ok hown (hts (.classLink RX7 45 RX0) (List.mem_of_getElem? (i := 27) rfl)) (hts (.instantiable RX0 1) (List.mem_of_getElem? (i := 28) rfl)) (hts (.initialized RX0) (List.mem_of_getElem? (i := 29) rfl)) hK hP hD hS hA rfl (fun j hj => by rcases (show j = 0 by omega) with rfl <;> rfl) (Nat.le_of_ble_eq_true rfl) (Nat.le_of_ble_eq_true rfl) (dq_187 48 bcX7_init_1 (j := 27) (i := 45) rfl rfl rfl) (fun q_7 H hP hD hS => ?_)
  have h9 := fixPD (ws' := [(av, .inr (8, [.ref q_1, .ref q_2, .ref q_3, .ref q_4, .ref q_5, .ref q_6, .null, .null, .null, .null, .null, .int (0 : Int32)])), k_X6 q_1 (u_tape 0) (0 : Int32), k_B E (u_tape 0) 320 (fun _ => 0), k_X3 q_2 q_1 (u_reader 0) (u_reader 1) (u_reader 2) (0 : Int32) (0 : Int32) (0 : Int32) (0 : Int32) (0 : Int32) (0 : Int32) (-1 : Int32), k_I E (u_reader 0) 3 (fun _ => 0), k_I E (u_reader 1) 16 (fun _ => 0), k_I E (u_reader 2) 48 (fun _ => 0), k_X4 q_3 (u_scripts 0) (u_scripts 1) (0 : Int32), k_I E (u_scripts 0) 192 (fun _ => 0), k_I E (u_scripts 1) 4 (fun _ => 0), k_X5 q_4 (u_now 0) (u_now 1) (0 : Int32) (0 : Int32) (u_now 2) (u_now 3), k_I E (u_now 0) 81 (fun _ => 0), k_I E (u_now 1) 8 (fun _ => 0), k_I E (u_now 2) 2 (fun _ => 0), k_I E (u_now 3) 2 (fun _ => 0), k_X5 q_5 (u_trial 0) (u_trial 1) (0 : Int32) (0 : Int32) (u_trial 2) (u_trial 3), k_I E (u_trial 0) 81 (fun _ => 0), k_I E (u_trial 1) 8 (fun _ => 0), k_I E (u_trial 2) 2 (fun _ => 0), k_I E (u_trial 3) 2 (fun _ => 0), k_X5 q_6 (u_kept 0) (u_kept 1) (0 : Int32) (0 : Int32) (u_kept 2) (u_kept 3), k_I E (u_kept 0) 81 (fun _ => 0), k_I E (u_kept 1) 8 (fun _ => 0), k_I E (u_kept 2) 2 (fun _ => 0), k_I E (u_kept 3) 2 (fun _ => 0), (q_7, .inr (1, [.null]))]) hP hD rfl
  clear hP hD
  obtain ⟨hP, hD⟩ := h9
  refine W.widen (k := 25) (n := 897) (Nat.le_of_ble_eq_true rfl) (Nat.le_of_ble_eq_true rfl) ?_
  refine lv_dup hx hb (dq_89 48 bcX7_init_1 (j := 30) rfl rfl) rfl ?_
  obtain ⟨hPc, hDc, hFc⟩ := wcut (wc := [(q_7, .inr (1, [.null]))]) hP hD hS hA [25] (by decide) rfl
  refine va_callv (va_runIN (As := []) (rest := [.ref q_7, .ref av]) ⟨hx, hb, hml, hown, hts⟩ (k_Book l E H.size (av := q_7)) ⟨va_cnB 0 hts g_k_X_k_Book_47 rfl rfl rfl (hN _ (List.mem_of_getElem? (i := 16) rfl)) (hts (.initialized RX0) (List.mem_of_getElem? (i := 29) rfl)) (by decide +kernel) ⟨Nat.le_of_ble_eq_true rfl, Nat.le_of_ble_eq_true rfl⟩, rfl, (hts (.instanceMethod yX0_init) (List.mem_of_getElem? (i := 30) rfl))⟩ ⟨pW.blind, (pW.pre ⟨hK, hN⟩ hPc hDc)⟩ rfl rfl hl.1 rfl (lv_room (Nat.le_of_ble_eq_true rfl)) (dq_183 48 bcX7_init_1 (j := 31) (i := 47) rfl rfl rfl) ⟨Nat.le_of_ble_eq_true rfl, Nat.le_of_ble_eq_true rfl⟩) hS (fun q _ h => hFc q h) hFc (fun u9  tt H1 locs ht hvm hw hB hz1 hk1 hS => ?_)
  obtain ⟨hP1, hD1⟩ := hB
  rw [ht] at hP1
  obtain ⟨hP, hD⟩ := va_join (wr := [(av, .inr (8, [.ref q_1, .ref q_2, .ref q_3, .ref q_4, .ref q_5, .ref q_6, .null, .null, .null, .null, .null, .int (0 : Int32)])), k_X6 q_1 (u_tape 0) (0 : Int32), k_B E (u_tape 0) 320 (fun _ => 0), k_X3 q_2 q_1 (u_reader 0) (u_reader 1) (u_reader 2) (0 : Int32) (0 : Int32) (0 : Int32) (0 : Int32) (0 : Int32) (0 : Int32) (-1 : Int32), k_I E (u_reader 0) 3 (fun _ => 0), k_I E (u_reader 1) 16 (fun _ => 0), k_I E (u_reader 2) 48 (fun _ => 0), k_X4 q_3 (u_scripts 0) (u_scripts 1) (0 : Int32), k_I E (u_scripts 0) 192 (fun _ => 0), k_I E (u_scripts 1) 4 (fun _ => 0), k_X5 q_4 (u_now 0) (u_now 1) (0 : Int32) (0 : Int32) (u_now 2) (u_now 3), k_I E (u_now 0) 81 (fun _ => 0), k_I E (u_now 1) 8 (fun _ => 0), k_I E (u_now 2) 2 (fun _ => 0), k_I E (u_now 3) 2 (fun _ => 0), k_X5 q_5 (u_trial 0) (u_trial 1) (0 : Int32) (0 : Int32) (u_trial 2) (u_trial 3), k_I E (u_trial 0) 81 (fun _ => 0), k_I E (u_trial 1) 8 (fun _ => 0), k_I E (u_trial 2) 2 (fun _ => 0), k_I E (u_trial 3) 2 (fun _ => 0), k_X5 q_6 (u_kept 0) (u_kept 1) (0 : Int32) (0 : Int32) (u_kept 2) (u_kept 3), k_I E (u_kept 0) 81 (fun _ => 0), k_I E (u_kept 1) 8 (fun _ => 0), k_I E (u_kept 2) 2 (fun _ => 0), k_I E (u_kept 3) 2 (fun _ => 0)]) (w1 := [k_X0 q_7 (u9 0), k_I E (u9 0) 300 (fun _ => 0)]) hP hD [25] [0, 1, 2, 3, 4, 5, 6, 7, 8, 9, 10, 11, 12, 13, 14, 15, 16, 17, 18, 19, 20, 21, 22, 23, 24] rfl rfl (by decide) (by decide) hk1 hFc hP1 hD1
  generalize H1 = H at hP hS ⊢
  have h9 := fixPD (ws' := [(av, .inr (8, [.ref q_1, .ref q_2, .ref q_3, .ref q_4, .ref q_5, .ref q_6, .null, .null, .null, .null, .null, .int (0 : Int32)])), k_X6 q_1 (u_tape 0) (0 : Int32), k_B E (u_tape 0) 320 (fun _ => 0), k_X3 q_2 q_1 (u_reader 0) (u_reader 1) (u_reader 2) (0 : Int32) (0 : Int32) (0 : Int32) (0 : Int32) (0 : Int32) (0 : Int32) (-1 : Int32), k_I E (u_reader 0) 3 (fun _ => 0), k_I E (u_reader 1) 16 (fun _ => 0), k_I E (u_reader 2) 48 (fun _ => 0), k_X4 q_3 (u_scripts 0) (u_scripts 1) (0 : Int32), k_I E (u_scripts 0) 192 (fun _ => 0), k_I E (u_scripts 1) 4 (fun _ => 0), k_X5 q_4 (u_now 0) (u_now 1) (0 : Int32) (0 : Int32) (u_now 2) (u_now 3), k_I E (u_now 0) 81 (fun _ => 0), k_I E (u_now 1) 8 (fun _ => 0), k_I E (u_now 2) 2 (fun _ => 0), k_I E (u_now 3) 2 (fun _ => 0), k_X5 q_5 (u_trial 0) (u_trial 1) (0 : Int32) (0 : Int32) (u_trial 2) (u_trial 3), k_I E (u_trial 0) 81 (fun _ => 0), k_I E (u_trial 1) 8 (fun _ => 0), k_I E (u_trial 2) 2 (fun _ => 0), k_I E (u_trial 3) 2 (fun _ => 0), k_X5 q_6 (u_kept 0) (u_kept 1) (0 : Int32) (0 : Int32) (u_kept 2) (u_kept 3), k_I E (u_kept 0) 81 (fun _ => 0), k_I E (u_kept 1) 8 (fun _ => 0), k_I E (u_kept 2) 2 (fun _ => 0), k_I E (u_kept 3) 2 (fun _ => 0), k_X0 q_7 (u9 0), k_I E (u9 0) 300 (fun _ => 0)]) hP hD rfl
  clear hP hD
  obtain ⟨hP, hD⟩ := h9
  refine W.widen (k := 26) (n := 1197) (Nat.le_of_ble_eq_true rfl) (Nat.le_of_ble_eq_true rfl) ?_
  generalize u9 = u_book at hP hD
  have h9 := fixPD (ws' := [(av, .inr (8, [.ref q_1, .ref q_2, .ref q_3, .ref q_4, .ref q_5, .ref q_6, .null, .null, .null, .null, .null, .int (0 : Int32)])), k_X6 q_1 (u_tape 0) (0 : Int32), k_B E (u_tape 0) 320 (fun _ => 0), k_X3 q_2 q_1 (u_reader 0) (u_reader 1) (u_reader 2) (0 : Int32) (0 : Int32) (0 : Int32) (0 : Int32) (0 : Int32) (0 : Int32) (-1 : Int32), k_I E (u_reader 0) 3 (fun _ => 0), k_I E (u_reader 1) 16 (fun _ => 0), k_I E (u_reader 2) 48 (fun _ => 0), k_X4 q_3 (u_scripts 0) (u_scripts 1) (0 : Int32), k_I E (u_scripts 0) 192 (fun _ => 0), k_I E (u_scripts 1) 4 (fun _ => 0), k_X5 q_4 (u_now 0) (u_now 1) (0 : Int32) (0 : Int32) (u_now 2) (u_now 3), k_I E (u_now 0) 81 (fun _ => 0), k_I E (u_now 1) 8 (fun _ => 0), k_I E (u_now 2) 2 (fun _ => 0), k_I E (u_now 3) 2 (fun _ => 0), k_X5 q_5 (u_trial 0) (u_trial 1) (0 : Int32) (0 : Int32) (u_trial 2) (u_trial 3), k_I E (u_trial 0) 81 (fun _ => 0), k_I E (u_trial 1) 8 (fun _ => 0), k_I E (u_trial 2) 2 (fun _ => 0), k_I E (u_trial 3) 2 (fun _ => 0), k_X5 q_6 (u_kept 0) (u_kept 1) (0 : Int32) (0 : Int32) (u_kept 2) (u_kept 3), k_I E (u_kept 0) 81 (fun _ => 0), k_I E (u_kept 1) 8 (fun _ => 0), k_I E (u_kept 2) 2 (fun _ => 0), k_I E (u_kept 3) 2 (fun _ => 0), k_X0 q_7 (u_book 0), k_I E (u_book 0) 300 (fun _ => 0)]) hP hD rfl
  clear hP hD
  obtain ⟨hP, hD⟩ := h9
  refine va_putF (D := E.1) (ci := 8) (v := .ref q_7) (ty := .object "HushWatch$Book") (C := RX7) (T := TX7) (N := 12) hx hb hts i_k_X_X7 tyX7 tyX7_ok nmX7 hown hK hP hD hS 0 rfl rfl 6 (by decide) (hts (.fieldLink RX7 48 "HushWatch" "book" "LHushWatch$Book;") (List.mem_of_getElem? (i := 31) rfl)) (fun _ h9 => h9) rfl hin rfl (by decide +kernel) rfl rfl (Nat.le_of_ble_eq_true rfl) (dq_181 48 bcX7_init_1 (j := 34) (i := 48) rfl rfl rfl) (fun H locs hP hD hS => ?_)
  have h9 := fixPD (ws' := [(av, .inr (8, [.ref q_1, .ref q_2, .ref q_3, .ref q_4, .ref q_5, .ref q_6, .ref q_7, .null, .null, .null, .null, .int (0 : Int32)])), k_X6 q_1 (u_tape 0) (0 : Int32), k_B E (u_tape 0) 320 (fun _ => 0), k_X3 q_2 q_1 (u_reader 0) (u_reader 1) (u_reader 2) (0 : Int32) (0 : Int32) (0 : Int32) (0 : Int32) (0 : Int32) (0 : Int32) (-1 : Int32), k_I E (u_reader 0) 3 (fun _ => 0), k_I E (u_reader 1) 16 (fun _ => 0), k_I E (u_reader 2) 48 (fun _ => 0), k_X4 q_3 (u_scripts 0) (u_scripts 1) (0 : Int32), k_I E (u_scripts 0) 192 (fun _ => 0), k_I E (u_scripts 1) 4 (fun _ => 0), k_X5 q_4 (u_now 0) (u_now 1) (0 : Int32) (0 : Int32) (u_now 2) (u_now 3), k_I E (u_now 0) 81 (fun _ => 0), k_I E (u_now 1) 8 (fun _ => 0), k_I E (u_now 2) 2 (fun _ => 0), k_I E (u_now 3) 2 (fun _ => 0), k_X5 q_5 (u_trial 0) (u_trial 1) (0 : Int32) (0 : Int32) (u_trial 2) (u_trial 3), k_I E (u_trial 0) 81 (fun _ => 0), k_I E (u_trial 1) 8 (fun _ => 0), k_I E (u_trial 2) 2 (fun _ => 0), k_I E (u_trial 3) 2 (fun _ => 0), k_X5 q_6 (u_kept 0) (u_kept 1) (0 : Int32) (0 : Int32) (u_kept 2) (u_kept 3), k_I E (u_kept 0) 81 (fun _ => 0), k_I E (u_kept 1) 8 (fun _ => 0), k_I E (u_kept 2) 2 (fun _ => 0), k_I E (u_kept 3) 2 (fun _ => 0), k_X0 q_7 (u_book 0), k_I E (u_book 0) 300 (fun _ => 0)]) hP hD rfl
  clear hP hD
  obtain ⟨hP, hD⟩ := h9
  refine lv_aload_n hx hb (dq_42 48 bcX7_init_1 (j := 37) rfl rfl) rfl (lv_at hl 0 rfl) ?_
  refine va_new (ci := 1) (fs := [.null]) (C := RX0) (T := TX0) (N := 1) hx hb hts i_k_X_X0 tyX0 tyX0_ok hown (hts (.classLink RX7 45 RX0) (List.mem_of_getElem? (i := 27) rfl)) (hts (.instantiable RX0 1) (List.mem_of_getElem? (i := 28) rfl)) (hts (.initialized RX0) (List.mem_of_getElem? (i := 29) rfl)) hK hP hD hS hA rfl (fun j hj => by rcases (show j = 0 by omega) with rfl <;> rfl) (Nat.le_of_ble_eq_true rfl) (Nat.le_of_ble_eq_true rfl) (dq_187 48 bcX7_init_1 (j := 38) (i := 45) rfl rfl rfl) (fun q_8 H hP hD hS => ?_)
  have h9 := fixPD (ws' := [(av, .inr (8, [.ref q_1, .ref q_2, .ref q_3, .ref q_4, .ref q_5, .ref q_6, .ref q_7, .null, .null, .null, .null, .int (0 : Int32)])), k_X6 q_1 (u_tape 0) (0 : Int32), k_B E (u_tape 0) 320 (fun _ => 0), k_X3 q_2 q_1 (u_reader 0) (u_reader 1) (u_reader 2) (0 : Int32) (0 : Int32) (0 : Int32) (0 : Int32) (0 : Int32) (0 : Int32) (-1 : Int32), k_I E (u_reader 0) 3 (fun _ => 0), k_I E (u_reader 1) 16 (fun _ => 0), k_I E (u_reader 2) 48 (fun _ => 0), k_X4 q_3 (u_scripts 0) (u_scripts 1) (0 : Int32), k_I E (u_scripts 0) 192 (fun _ => 0), k_I E (u_scripts 1) 4 (fun _ => 0), k_X5 q_4 (u_now 0) (u_now 1) (0 : Int32) (0 : Int32) (u_now 2) (u_now 3), k_I E (u_now 0) 81 (fun _ => 0), k_I E (u_now 1) 8 (fun _ => 0), k_I E (u_now 2) 2 (fun _ => 0), k_I E (u_now 3) 2 (fun _ => 0), k_X5 q_5 (u_trial 0) (u_trial 1) (0 : Int32) (0 : Int32) (u_trial 2) (u_trial 3), k_I E (u_trial 0) 81 (fun _ => 0), k_I E (u_trial 1) 8 (fun _ => 0), k_I E (u_trial 2) 2 (fun _ => 0), k_I E (u_trial 3) 2 (fun _ => 0), k_X5 q_6 (u_kept 0) (u_kept 1) (0 : Int32) (0 : Int32) (u_kept 2) (u_kept 3), k_I E (u_kept 0) 81 (fun _ => 0), k_I E (u_kept 1) 8 (fun _ => 0), k_I E (u_kept 2) 2 (fun _ => 0), k_I E (u_kept 3) 2 (fun _ => 0), k_X0 q_7 (u_book 0), k_I E (u_book 0) 300 (fun _ => 0), (q_8, .inr (1, [.null]))]) hP hD rfl
  clear hP hD
  obtain ⟨hP, hD⟩ := h9
  refine W.widen (k := 27) (n := 1198) (Nat.le_of_ble_eq_true rfl) (Nat.le_of_ble_eq_true rfl) ?_
  refine lv_dup hx hb (dq_89 48 bcX7_init_1 (j := 41) rfl rfl) rfl ?_
  obtain ⟨hPc, hDc, hFc⟩ := wcut (wc := [(q_8, .inr (1, [.null]))]) hP hD hS hA [27] (by decide) rfl
  refine va_callv (va_runIN (As := []) (rest := [.ref q_8, .ref av]) ⟨hx, hb, hml, hown, hts⟩ (k_Book l E H.size (av := q_8)) ⟨va_cnB 0 hts g_k_X_k_Book_47 rfl rfl rfl (hN _ (List.mem_of_getElem? (i := 16) rfl)) (hts (.initialized RX0) (List.mem_of_getElem? (i := 29) rfl)) (by decide +kernel) ⟨Nat.le_of_ble_eq_true rfl, Nat.le_of_ble_eq_true rfl⟩, rfl, (hts (.instanceMethod yX0_init) (List.mem_of_getElem? (i := 30) rfl))⟩ ⟨pW.blind, (pW.pre ⟨hK, hN⟩ hPc hDc)⟩ rfl rfl hl.1 rfl (lv_room (Nat.le_of_ble_eq_true rfl)) (dq_183 48 bcX7_init_1 (j := 42) (i := 47) rfl rfl rfl) ⟨Nat.le_of_ble_eq_true rfl, Nat.le_of_ble_eq_true rfl⟩) hS (fun q _ h => hFc q h) hFc (fun u9  tt H1 locs ht hvm hw hB hz1 hk1 hS => ?_)
  obtain ⟨hP1, hD1⟩ := hB
  rw [ht] at hP1
  obtain ⟨hP, hD⟩ := va_join (wr := [(av, .inr (8, [.ref q_1, .ref q_2, .ref q_3, .ref q_4, .ref q_5, .ref q_6, .ref q_7, .null, .null, .null, .null, .int (0 : Int32)])), k_X6 q_1 (u_tape 0) (0 : Int32), k_B E (u_tape 0) 320 (fun _ => 0), k_X3 q_2 q_1 (u_reader 0) (u_reader 1) (u_reader 2) (0 : Int32) (0 : Int32) (0 : Int32) (0 : Int32) (0 : Int32) (0 : Int32) (-1 : Int32), k_I E (u_reader 0) 3 (fun _ => 0), k_I E (u_reader 1) 16 (fun _ => 0), k_I E (u_reader 2) 48 (fun _ => 0), k_X4 q_3 (u_scripts 0) (u_scripts 1) (0 : Int32), k_I E (u_scripts 0) 192 (fun _ => 0), k_I E (u_scripts 1) 4 (fun _ => 0), k_X5 q_4 (u_now 0) (u_now 1) (0 : Int32) (0 : Int32) (u_now 2) (u_now 3), k_I E (u_now 0) 81 (fun _ => 0), k_I E (u_now 1) 8 (fun _ => 0), k_I E (u_now 2) 2 (fun _ => 0), k_I E (u_now 3) 2 (fun _ => 0), k_X5 q_5 (u_trial 0) (u_trial 1) (0 : Int32) (0 : Int32) (u_trial 2) (u_trial 3), k_I E (u_trial 0) 81 (fun _ => 0), k_I E (u_trial 1) 8 (fun _ => 0), k_I E (u_trial 2) 2 (fun _ => 0), k_I E (u_trial 3) 2 (fun _ => 0), k_X5 q_6 (u_kept 0) (u_kept 1) (0 : Int32) (0 : Int32) (u_kept 2) (u_kept 3), k_I E (u_kept 0) 81 (fun _ => 0), k_I E (u_kept 1) 8 (fun _ => 0), k_I E (u_kept 2) 2 (fun _ => 0), k_I E (u_kept 3) 2 (fun _ => 0), k_X0 q_7 (u_book 0), k_I E (u_book 0) 300 (fun _ => 0)]) (w1 := [k_X0 q_8 (u9 0), k_I E (u9 0) 300 (fun _ => 0)]) hP hD [27] [0, 1, 2, 3, 4, 5, 6, 7, 8, 9, 10, 11, 12, 13, 14, 15, 16, 17, 18, 19, 20, 21, 22, 23, 24, 25, 26] rfl rfl (by decide) (by decide) hk1 hFc hP1 hD1
  generalize H1 = H at hP hS ⊢
  have h9 := fixPD (ws' := [(av, .inr (8, [.ref q_1, .ref q_2, .ref q_3, .ref q_4, .ref q_5, .ref q_6, .ref q_7, .null, .null, .null, .null, .int (0 : Int32)])), k_X6 q_1 (u_tape 0) (0 : Int32), k_B E (u_tape 0) 320 (fun _ => 0), k_X3 q_2 q_1 (u_reader 0) (u_reader 1) (u_reader 2) (0 : Int32) (0 : Int32) (0 : Int32) (0 : Int32) (0 : Int32) (0 : Int32) (-1 : Int32), k_I E (u_reader 0) 3 (fun _ => 0), k_I E (u_reader 1) 16 (fun _ => 0), k_I E (u_reader 2) 48 (fun _ => 0), k_X4 q_3 (u_scripts 0) (u_scripts 1) (0 : Int32), k_I E (u_scripts 0) 192 (fun _ => 0), k_I E (u_scripts 1) 4 (fun _ => 0), k_X5 q_4 (u_now 0) (u_now 1) (0 : Int32) (0 : Int32) (u_now 2) (u_now 3), k_I E (u_now 0) 81 (fun _ => 0), k_I E (u_now 1) 8 (fun _ => 0), k_I E (u_now 2) 2 (fun _ => 0), k_I E (u_now 3) 2 (fun _ => 0), k_X5 q_5 (u_trial 0) (u_trial 1) (0 : Int32) (0 : Int32) (u_trial 2) (u_trial 3), k_I E (u_trial 0) 81 (fun _ => 0), k_I E (u_trial 1) 8 (fun _ => 0), k_I E (u_trial 2) 2 (fun _ => 0), k_I E (u_trial 3) 2 (fun _ => 0), k_X5 q_6 (u_kept 0) (u_kept 1) (0 : Int32) (0 : Int32) (u_kept 2) (u_kept 3), k_I E (u_kept 0) 81 (fun _ => 0), k_I E (u_kept 1) 8 (fun _ => 0), k_I E (u_kept 2) 2 (fun _ => 0), k_I E (u_kept 3) 2 (fun _ => 0), k_X0 q_7 (u_book 0), k_I E (u_book 0) 300 (fun _ => 0), k_X0 q_8 (u9 0), k_I E (u9 0) 300 (fun _ => 0)]) hP hD rfl
  clear hP hD
  obtain ⟨hP, hD⟩ := h9
  refine W.widen (k := 28) (n := 1498) (Nat.le_of_ble_eq_true rfl) (Nat.le_of_ble_eq_true rfl) ?_
  generalize u9 = u_keptBook at hP hD
  have h9 := fixPD (ws' := [(av, .inr (8, [.ref q_1, .ref q_2, .ref q_3, .ref q_4, .ref q_5, .ref q_6, .ref q_7, .null, .null, .null, .null, .int (0 : Int32)])), k_X6 q_1 (u_tape 0) (0 : Int32), k_B E (u_tape 0) 320 (fun _ => 0), k_X3 q_2 q_1 (u_reader 0) (u_reader 1) (u_reader 2) (0 : Int32) (0 : Int32) (0 : Int32) (0 : Int32) (0 : Int32) (0 : Int32) (-1 : Int32), k_I E (u_reader 0) 3 (fun _ => 0), k_I E (u_reader 1) 16 (fun _ => 0), k_I E (u_reader 2) 48 (fun _ => 0), k_X4 q_3 (u_scripts 0) (u_scripts 1) (0 : Int32), k_I E (u_scripts 0) 192 (fun _ => 0), k_I E (u_scripts 1) 4 (fun _ => 0), k_X5 q_4 (u_now 0) (u_now 1) (0 : Int32) (0 : Int32) (u_now 2) (u_now 3), k_I E (u_now 0) 81 (fun _ => 0), k_I E (u_now 1) 8 (fun _ => 0), k_I E (u_now 2) 2 (fun _ => 0), k_I E (u_now 3) 2 (fun _ => 0), k_X5 q_5 (u_trial 0) (u_trial 1) (0 : Int32) (0 : Int32) (u_trial 2) (u_trial 3), k_I E (u_trial 0) 81 (fun _ => 0), k_I E (u_trial 1) 8 (fun _ => 0), k_I E (u_trial 2) 2 (fun _ => 0), k_I E (u_trial 3) 2 (fun _ => 0), k_X5 q_6 (u_kept 0) (u_kept 1) (0 : Int32) (0 : Int32) (u_kept 2) (u_kept 3), k_I E (u_kept 0) 81 (fun _ => 0), k_I E (u_kept 1) 8 (fun _ => 0), k_I E (u_kept 2) 2 (fun _ => 0), k_I E (u_kept 3) 2 (fun _ => 0), k_X0 q_7 (u_book 0), k_I E (u_book 0) 300 (fun _ => 0), k_X0 q_8 (u_keptBook 0), k_I E (u_keptBook 0) 300 (fun _ => 0)]) hP hD rfl
  clear hP hD
  obtain ⟨hP, hD⟩ := h9
  refine va_putF (D := E.1) (ci := 8) (v := .ref q_8) (ty := .object "HushWatch$Book") (C := RX7) (T := TX7) (N := 12) hx hb hts i_k_X_X7 tyX7 tyX7_ok nmX7 hown hK hP hD hS 0 rfl rfl 7 (by decide) (hts (.fieldLink RX7 52 "HushWatch" "keptBook" "LHushWatch$Book;") (List.mem_of_getElem? (i := 32) rfl)) (fun _ h9 => h9) rfl hin rfl (by decide +kernel) rfl rfl (Nat.le_of_ble_eq_true rfl) (dq_181 48 bcX7_init_1 (j := 45) (i := 52) rfl rfl rfl) (fun H locs hP hD hS => ?_)
  have h9 := fixPD (ws' := [(av, .inr (8, [.ref q_1, .ref q_2, .ref q_3, .ref q_4, .ref q_5, .ref q_6, .ref q_7, .ref q_8, .null, .null, .null, .int (0 : Int32)])), k_X6 q_1 (u_tape 0) (0 : Int32), k_B E (u_tape 0) 320 (fun _ => 0), k_X3 q_2 q_1 (u_reader 0) (u_reader 1) (u_reader 2) (0 : Int32) (0 : Int32) (0 : Int32) (0 : Int32) (0 : Int32) (0 : Int32) (-1 : Int32), k_I E (u_reader 0) 3 (fun _ => 0), k_I E (u_reader 1) 16 (fun _ => 0), k_I E (u_reader 2) 48 (fun _ => 0), k_X4 q_3 (u_scripts 0) (u_scripts 1) (0 : Int32), k_I E (u_scripts 0) 192 (fun _ => 0), k_I E (u_scripts 1) 4 (fun _ => 0), k_X5 q_4 (u_now 0) (u_now 1) (0 : Int32) (0 : Int32) (u_now 2) (u_now 3), k_I E (u_now 0) 81 (fun _ => 0), k_I E (u_now 1) 8 (fun _ => 0), k_I E (u_now 2) 2 (fun _ => 0), k_I E (u_now 3) 2 (fun _ => 0), k_X5 q_5 (u_trial 0) (u_trial 1) (0 : Int32) (0 : Int32) (u_trial 2) (u_trial 3), k_I E (u_trial 0) 81 (fun _ => 0), k_I E (u_trial 1) 8 (fun _ => 0), k_I E (u_trial 2) 2 (fun _ => 0), k_I E (u_trial 3) 2 (fun _ => 0), k_X5 q_6 (u_kept 0) (u_kept 1) (0 : Int32) (0 : Int32) (u_kept 2) (u_kept 3), k_I E (u_kept 0) 81 (fun _ => 0), k_I E (u_kept 1) 8 (fun _ => 0), k_I E (u_kept 2) 2 (fun _ => 0), k_I E (u_kept 3) 2 (fun _ => 0), k_X0 q_7 (u_book 0), k_I E (u_book 0) 300 (fun _ => 0), k_X0 q_8 (u_keptBook 0), k_I E (u_keptBook 0) 300 (fun _ => 0)]) hP hD rfl
  clear hP hD
  obtain ⟨hP, hD⟩ := h9
  refine lv_aload_n hx hb (dq_42 96 bcX7_init_2 (j := 0) rfl rfl) rfl (lv_at hl 0 rfl) ?_
  refine va_new (ci := 3) (fs := [.null, .int (0 : Int32), .int (0 : Int32)]) (C := RX2) (T := TX2) (N := 3) hx hb hts i_k_X_X2 tyX2 tyX2_ok hown (hts (.classLink RX7 55 RX2) (List.mem_of_getElem? (i := 33) rfl)) (hts (.instantiable RX2 3) (List.mem_of_getElem? (i := 34) rfl)) (hts (.initialized RX2) (List.mem_of_getElem? (i := 35) rfl)) hK hP hD hS hA rfl (fun j hj => by rcases (show j = 0 ∨ j = 1 ∨ j = 2 by omega) with rfl | rfl | rfl <;> rfl) (Nat.le_of_ble_eq_true rfl) (Nat.le_of_ble_eq_true rfl) (dq_187 96 bcX7_init_2 (j := 1) (i := 55) rfl rfl rfl) (fun q_9 H hP hD hS => ?_)
  have h9 := fixPD (ws' := [(av, .inr (8, [.ref q_1, .ref q_2, .ref q_3, .ref q_4, .ref q_5, .ref q_6, .ref q_7, .ref q_8, .null, .null, .null, .int (0 : Int32)])), k_X6 q_1 (u_tape 0) (0 : Int32), k_B E (u_tape 0) 320 (fun _ => 0), k_X3 q_2 q_1 (u_reader 0) (u_reader 1) (u_reader 2) (0 : Int32) (0 : Int32) (0 : Int32) (0 : Int32) (0 : Int32) (0 : Int32) (-1 : Int32), k_I E (u_reader 0) 3 (fun _ => 0), k_I E (u_reader 1) 16 (fun _ => 0), k_I E (u_reader 2) 48 (fun _ => 0), k_X4 q_3 (u_scripts 0) (u_scripts 1) (0 : Int32), k_I E (u_scripts 0) 192 (fun _ => 0), k_I E (u_scripts 1) 4 (fun _ => 0), k_X5 q_4 (u_now 0) (u_now 1) (0 : Int32) (0 : Int32) (u_now 2) (u_now 3), k_I E (u_now 0) 81 (fun _ => 0), k_I E (u_now 1) 8 (fun _ => 0), k_I E (u_now 2) 2 (fun _ => 0), k_I E (u_now 3) 2 (fun _ => 0), k_X5 q_5 (u_trial 0) (u_trial 1) (0 : Int32) (0 : Int32) (u_trial 2) (u_trial 3), k_I E (u_trial 0) 81 (fun _ => 0), k_I E (u_trial 1) 8 (fun _ => 0), k_I E (u_trial 2) 2 (fun _ => 0), k_I E (u_trial 3) 2 (fun _ => 0), k_X5 q_6 (u_kept 0) (u_kept 1) (0 : Int32) (0 : Int32) (u_kept 2) (u_kept 3), k_I E (u_kept 0) 81 (fun _ => 0), k_I E (u_kept 1) 8 (fun _ => 0), k_I E (u_kept 2) 2 (fun _ => 0), k_I E (u_kept 3) 2 (fun _ => 0), k_X0 q_7 (u_book 0), k_I E (u_book 0) 300 (fun _ => 0), k_X0 q_8 (u_keptBook 0), k_I E (u_keptBook 0) 300 (fun _ => 0), (q_9, .inr (3, [.null, .int (0 : Int32), .int (0 : Int32)]))]) hP hD rfl
  clear hP hD
  obtain ⟨hP, hD⟩ := h9
  refine W.widen (k := 29) (n := 1501) (Nat.le_of_ble_eq_true rfl) (Nat.le_of_ble_eq_true rfl) ?_
  refine lv_dup hx hb (dq_89 96 bcX7_init_2 (j := 4) rfl rfl) rfl ?_
  obtain ⟨hPc, hDc, hFc⟩ := wcut (wc := [(q_9, .inr (3, [.null, .int (0 : Int32), .int (0 : Int32)]))]) hP hD hS hA [29] (by decide) rfl
  refine va_callv (va_runIN (As := []) (rest := [.ref q_9, .ref av]) ⟨hx, hb, hml, hown, hts⟩ (k_History l E H.size (av := q_9)) ⟨va_cnB 0 hts g_k_X_k_History_57 rfl rfl rfl (hN _ (List.mem_of_getElem? (i := 17) rfl)) (hts (.initialized RX2) (List.mem_of_getElem? (i := 35) rfl)) (by decide +kernel) ⟨Nat.le_of_ble_eq_true rfl, Nat.le_of_ble_eq_true rfl⟩, rfl, (hts (.instanceMethod yX2_init) (List.mem_of_getElem? (i := 36) rfl))⟩ ⟨pW.blind, (pW.pre ⟨hK, hN⟩ hPc hDc)⟩ rfl rfl hl.1 rfl (lv_room (Nat.le_of_ble_eq_true rfl)) (dq_183 96 bcX7_init_2 (j := 5) (i := 57) rfl rfl rfl) ⟨Nat.le_of_ble_eq_true rfl, Nat.le_of_ble_eq_true rfl⟩) hS (fun q _ h => hFc q h) hFc (fun u9  tt H1 locs ht hvm hw hB hz1 hk1 hS => ?_)
  obtain ⟨hP1, hD1⟩ := hB
  rw [ht] at hP1
  obtain ⟨hP, hD⟩ := va_join (wr := [(av, .inr (8, [.ref q_1, .ref q_2, .ref q_3, .ref q_4, .ref q_5, .ref q_6, .ref q_7, .ref q_8, .null, .null, .null, .int (0 : Int32)])), k_X6 q_1 (u_tape 0) (0 : Int32), k_B E (u_tape 0) 320 (fun _ => 0), k_X3 q_2 q_1 (u_reader 0) (u_reader 1) (u_reader 2) (0 : Int32) (0 : Int32) (0 : Int32) (0 : Int32) (0 : Int32) (0 : Int32) (-1 : Int32), k_I E (u_reader 0) 3 (fun _ => 0), k_I E (u_reader 1) 16 (fun _ => 0), k_I E (u_reader 2) 48 (fun _ => 0), k_X4 q_3 (u_scripts 0) (u_scripts 1) (0 : Int32), k_I E (u_scripts 0) 192 (fun _ => 0), k_I E (u_scripts 1) 4 (fun _ => 0), k_X5 q_4 (u_now 0) (u_now 1) (0 : Int32) (0 : Int32) (u_now 2) (u_now 3), k_I E (u_now 0) 81 (fun _ => 0), k_I E (u_now 1) 8 (fun _ => 0), k_I E (u_now 2) 2 (fun _ => 0), k_I E (u_now 3) 2 (fun _ => 0), k_X5 q_5 (u_trial 0) (u_trial 1) (0 : Int32) (0 : Int32) (u_trial 2) (u_trial 3), k_I E (u_trial 0) 81 (fun _ => 0), k_I E (u_trial 1) 8 (fun _ => 0), k_I E (u_trial 2) 2 (fun _ => 0), k_I E (u_trial 3) 2 (fun _ => 0), k_X5 q_6 (u_kept 0) (u_kept 1) (0 : Int32) (0 : Int32) (u_kept 2) (u_kept 3), k_I E (u_kept 0) 81 (fun _ => 0), k_I E (u_kept 1) 8 (fun _ => 0), k_I E (u_kept 2) 2 (fun _ => 0), k_I E (u_kept 3) 2 (fun _ => 0), k_X0 q_7 (u_book 0), k_I E (u_book 0) 300 (fun _ => 0), k_X0 q_8 (u_keptBook 0), k_I E (u_keptBook 0) 300 (fun _ => 0)]) (w1 := [k_X2 q_9 (u9 0) (0 : Int32) (0 : Int32), k_I E (u9 0) 3240 (fun _ => 0)]) hP hD [29] [0, 1, 2, 3, 4, 5, 6, 7, 8, 9, 10, 11, 12, 13, 14, 15, 16, 17, 18, 19, 20, 21, 22, 23, 24, 25, 26, 27, 28] rfl rfl (by decide) (by decide) hk1 hFc hP1 hD1
  generalize H1 = H at hP hS ⊢
  have h9 := fixPD (ws' := [(av, .inr (8, [.ref q_1, .ref q_2, .ref q_3, .ref q_4, .ref q_5, .ref q_6, .ref q_7, .ref q_8, .null, .null, .null, .int (0 : Int32)])), k_X6 q_1 (u_tape 0) (0 : Int32), k_B E (u_tape 0) 320 (fun _ => 0), k_X3 q_2 q_1 (u_reader 0) (u_reader 1) (u_reader 2) (0 : Int32) (0 : Int32) (0 : Int32) (0 : Int32) (0 : Int32) (0 : Int32) (-1 : Int32), k_I E (u_reader 0) 3 (fun _ => 0), k_I E (u_reader 1) 16 (fun _ => 0), k_I E (u_reader 2) 48 (fun _ => 0), k_X4 q_3 (u_scripts 0) (u_scripts 1) (0 : Int32), k_I E (u_scripts 0) 192 (fun _ => 0), k_I E (u_scripts 1) 4 (fun _ => 0), k_X5 q_4 (u_now 0) (u_now 1) (0 : Int32) (0 : Int32) (u_now 2) (u_now 3), k_I E (u_now 0) 81 (fun _ => 0), k_I E (u_now 1) 8 (fun _ => 0), k_I E (u_now 2) 2 (fun _ => 0), k_I E (u_now 3) 2 (fun _ => 0), k_X5 q_5 (u_trial 0) (u_trial 1) (0 : Int32) (0 : Int32) (u_trial 2) (u_trial 3), k_I E (u_trial 0) 81 (fun _ => 0), k_I E (u_trial 1) 8 (fun _ => 0), k_I E (u_trial 2) 2 (fun _ => 0), k_I E (u_trial 3) 2 (fun _ => 0), k_X5 q_6 (u_kept 0) (u_kept 1) (0 : Int32) (0 : Int32) (u_kept 2) (u_kept 3), k_I E (u_kept 0) 81 (fun _ => 0), k_I E (u_kept 1) 8 (fun _ => 0), k_I E (u_kept 2) 2 (fun _ => 0), k_I E (u_kept 3) 2 (fun _ => 0), k_X0 q_7 (u_book 0), k_I E (u_book 0) 300 (fun _ => 0), k_X0 q_8 (u_keptBook 0), k_I E (u_keptBook 0) 300 (fun _ => 0), k_X2 q_9 (u9 0) (0 : Int32) (0 : Int32), k_I E (u9 0) 3240 (fun _ => 0)]) hP hD rfl
  clear hP hD
  obtain ⟨hP, hD⟩ := h9
  refine W.widen (k := 30) (n := 4741) (Nat.le_of_ble_eq_true rfl) (Nat.le_of_ble_eq_true rfl) ?_
  generalize u9 = u_history at hP hD
  have h9 := fixPD (ws' := [(av, .inr (8, [.ref q_1, .ref q_2, .ref q_3, .ref q_4, .ref q_5, .ref q_6, .ref q_7, .ref q_8, .null, .null, .null, .int (0 : Int32)])), k_X6 q_1 (u_tape 0) (0 : Int32), k_B E (u_tape 0) 320 (fun _ => 0), k_X3 q_2 q_1 (u_reader 0) (u_reader 1) (u_reader 2) (0 : Int32) (0 : Int32) (0 : Int32) (0 : Int32) (0 : Int32) (0 : Int32) (-1 : Int32), k_I E (u_reader 0) 3 (fun _ => 0), k_I E (u_reader 1) 16 (fun _ => 0), k_I E (u_reader 2) 48 (fun _ => 0), k_X4 q_3 (u_scripts 0) (u_scripts 1) (0 : Int32), k_I E (u_scripts 0) 192 (fun _ => 0), k_I E (u_scripts 1) 4 (fun _ => 0), k_X5 q_4 (u_now 0) (u_now 1) (0 : Int32) (0 : Int32) (u_now 2) (u_now 3), k_I E (u_now 0) 81 (fun _ => 0), k_I E (u_now 1) 8 (fun _ => 0), k_I E (u_now 2) 2 (fun _ => 0), k_I E (u_now 3) 2 (fun _ => 0), k_X5 q_5 (u_trial 0) (u_trial 1) (0 : Int32) (0 : Int32) (u_trial 2) (u_trial 3), k_I E (u_trial 0) 81 (fun _ => 0), k_I E (u_trial 1) 8 (fun _ => 0), k_I E (u_trial 2) 2 (fun _ => 0), k_I E (u_trial 3) 2 (fun _ => 0), k_X5 q_6 (u_kept 0) (u_kept 1) (0 : Int32) (0 : Int32) (u_kept 2) (u_kept 3), k_I E (u_kept 0) 81 (fun _ => 0), k_I E (u_kept 1) 8 (fun _ => 0), k_I E (u_kept 2) 2 (fun _ => 0), k_I E (u_kept 3) 2 (fun _ => 0), k_X0 q_7 (u_book 0), k_I E (u_book 0) 300 (fun _ => 0), k_X0 q_8 (u_keptBook 0), k_I E (u_keptBook 0) 300 (fun _ => 0), k_X2 q_9 (u_history 0) (0 : Int32) (0 : Int32), k_I E (u_history 0) 3240 (fun _ => 0)]) hP hD rfl
  clear hP hD
  obtain ⟨hP, hD⟩ := h9
  refine va_putF (D := E.1) (ci := 8) (v := .ref q_9) (ty := .object "HushWatch$History") (C := RX7) (T := TX7) (N := 12) hx hb hts i_k_X_X7 tyX7 tyX7_ok nmX7 hown hK hP hD hS 0 rfl rfl 8 (by decide) (hts (.fieldLink RX7 58 "HushWatch" "history" "LHushWatch$History;") (List.mem_of_getElem? (i := 37) rfl)) (fun _ h9 => h9) rfl hin rfl (by decide +kernel) rfl rfl (Nat.le_of_ble_eq_true rfl) (dq_181 96 bcX7_init_2 (j := 8) (i := 58) rfl rfl rfl) (fun H locs hP hD hS => ?_)
  have h9 := fixPD (ws' := [(av, .inr (8, [.ref q_1, .ref q_2, .ref q_3, .ref q_4, .ref q_5, .ref q_6, .ref q_7, .ref q_8, .ref q_9, .null, .null, .int (0 : Int32)])), k_X6 q_1 (u_tape 0) (0 : Int32), k_B E (u_tape 0) 320 (fun _ => 0), k_X3 q_2 q_1 (u_reader 0) (u_reader 1) (u_reader 2) (0 : Int32) (0 : Int32) (0 : Int32) (0 : Int32) (0 : Int32) (0 : Int32) (-1 : Int32), k_I E (u_reader 0) 3 (fun _ => 0), k_I E (u_reader 1) 16 (fun _ => 0), k_I E (u_reader 2) 48 (fun _ => 0), k_X4 q_3 (u_scripts 0) (u_scripts 1) (0 : Int32), k_I E (u_scripts 0) 192 (fun _ => 0), k_I E (u_scripts 1) 4 (fun _ => 0), k_X5 q_4 (u_now 0) (u_now 1) (0 : Int32) (0 : Int32) (u_now 2) (u_now 3), k_I E (u_now 0) 81 (fun _ => 0), k_I E (u_now 1) 8 (fun _ => 0), k_I E (u_now 2) 2 (fun _ => 0), k_I E (u_now 3) 2 (fun _ => 0), k_X5 q_5 (u_trial 0) (u_trial 1) (0 : Int32) (0 : Int32) (u_trial 2) (u_trial 3), k_I E (u_trial 0) 81 (fun _ => 0), k_I E (u_trial 1) 8 (fun _ => 0), k_I E (u_trial 2) 2 (fun _ => 0), k_I E (u_trial 3) 2 (fun _ => 0), k_X5 q_6 (u_kept 0) (u_kept 1) (0 : Int32) (0 : Int32) (u_kept 2) (u_kept 3), k_I E (u_kept 0) 81 (fun _ => 0), k_I E (u_kept 1) 8 (fun _ => 0), k_I E (u_kept 2) 2 (fun _ => 0), k_I E (u_kept 3) 2 (fun _ => 0), k_X0 q_7 (u_book 0), k_I E (u_book 0) 300 (fun _ => 0), k_X0 q_8 (u_keptBook 0), k_I E (u_keptBook 0) 300 (fun _ => 0), k_X2 q_9 (u_history 0) (0 : Int32) (0 : Int32), k_I E (u_history 0) 3240 (fun _ => 0)]) hP hD rfl
  clear hP hD
  obtain ⟨hP, hD⟩ := h9
  refine lv_aload_n hx hb (dq_42 96 bcX7_init_2 (j := 11) rfl rfl) rfl (lv_at hl 0 rfl) ?_
  refine va_new (ci := 2) (fs := [.long (0 : Int64), .int (0 : Int32), .int (0 : Int32), .int (0 : Int32), .int (0 : Int32)]) (C := RX1) (T := TX1) (N := 5) hx hb hts i_k_X_X1 tyX1 tyX1_ok hown (hts (.classLink RX7 62 RX1) (List.mem_of_getElem? (i := 38) rfl)) (hts (.instantiable RX1 5) (List.mem_of_getElem? (i := 39) rfl)) (hts (.initialized RX1) (List.mem_of_getElem? (i := 40) rfl)) hK hP hD hS hA rfl (fun j hj => by rcases (show j = 0 ∨ j = 1 ∨ j = 2 ∨ j = 3 ∨ j = 4 by omega) with rfl | rfl | rfl | rfl | rfl <;> rfl) (Nat.le_of_ble_eq_true rfl) (Nat.le_of_ble_eq_true rfl) (dq_187 96 bcX7_init_2 (j := 12) (i := 62) rfl rfl rfl) (fun q_10 H hP hD hS => ?_)
  have h9 := fixPD (ws' := [(av, .inr (8, [.ref q_1, .ref q_2, .ref q_3, .ref q_4, .ref q_5, .ref q_6, .ref q_7, .ref q_8, .ref q_9, .null, .null, .int (0 : Int32)])), k_X6 q_1 (u_tape 0) (0 : Int32), k_B E (u_tape 0) 320 (fun _ => 0), k_X3 q_2 q_1 (u_reader 0) (u_reader 1) (u_reader 2) (0 : Int32) (0 : Int32) (0 : Int32) (0 : Int32) (0 : Int32) (0 : Int32) (-1 : Int32), k_I E (u_reader 0) 3 (fun _ => 0), k_I E (u_reader 1) 16 (fun _ => 0), k_I E (u_reader 2) 48 (fun _ => 0), k_X4 q_3 (u_scripts 0) (u_scripts 1) (0 : Int32), k_I E (u_scripts 0) 192 (fun _ => 0), k_I E (u_scripts 1) 4 (fun _ => 0), k_X5 q_4 (u_now 0) (u_now 1) (0 : Int32) (0 : Int32) (u_now 2) (u_now 3), k_I E (u_now 0) 81 (fun _ => 0), k_I E (u_now 1) 8 (fun _ => 0), k_I E (u_now 2) 2 (fun _ => 0), k_I E (u_now 3) 2 (fun _ => 0), k_X5 q_5 (u_trial 0) (u_trial 1) (0 : Int32) (0 : Int32) (u_trial 2) (u_trial 3), k_I E (u_trial 0) 81 (fun _ => 0), k_I E (u_trial 1) 8 (fun _ => 0), k_I E (u_trial 2) 2 (fun _ => 0), k_I E (u_trial 3) 2 (fun _ => 0), k_X5 q_6 (u_kept 0) (u_kept 1) (0 : Int32) (0 : Int32) (u_kept 2) (u_kept 3), k_I E (u_kept 0) 81 (fun _ => 0), k_I E (u_kept 1) 8 (fun _ => 0), k_I E (u_kept 2) 2 (fun _ => 0), k_I E (u_kept 3) 2 (fun _ => 0), k_X0 q_7 (u_book 0), k_I E (u_book 0) 300 (fun _ => 0), k_X0 q_8 (u_keptBook 0), k_I E (u_keptBook 0) 300 (fun _ => 0), k_X2 q_9 (u_history 0) (0 : Int32) (0 : Int32), k_I E (u_history 0) 3240 (fun _ => 0), k_X1 q_10 (0 : Int64) (0 : Int32) (0 : Int32) (0 : Int32) (0 : Int32)]) hP hD rfl
  clear hP hD
  obtain ⟨hP, hD⟩ := h9
  refine W.widen (k := 31) (n := 4746) (Nat.le_of_ble_eq_true rfl) (Nat.le_of_ble_eq_true rfl) ?_
  refine lv_dup hx hb (dq_89 96 bcX7_init_2 (j := 15) rfl rfl) rfl ?_
  obtain ⟨hPc, hDc, hFc⟩ := wcut (wc := [k_X1 q_10 (0 : Int64) (0 : Int32) (0 : Int32) (0 : Int32) (0 : Int32)]) hP hD hS hA [31] (by decide) rfl
  refine va_callv (va_runIN (As := []) (rest := [.ref q_10, .ref av]) ⟨hx, hb, hml, hown, hts⟩ (k_Draws l E H.size (av := q_10)) ⟨va_cnB 0 hts g_k_X_k_Draws_64 rfl rfl rfl (hN _ (List.mem_of_getElem? (i := 19) rfl)) (hts (.initialized RX1) (List.mem_of_getElem? (i := 40) rfl)) (by decide +kernel) ⟨Nat.le_of_ble_eq_true rfl, Nat.le_of_ble_eq_true rfl⟩, rfl, (hts (.instanceMethod yX1_init) (List.mem_of_getElem? (i := 41) rfl))⟩ ⟨pW.blind, (pW.pre ⟨hK, hN⟩ hPc hDc)⟩ rfl rfl hl.1 rfl (lv_room (Nat.le_of_ble_eq_true rfl)) (dq_183 96 bcX7_init_2 (j := 16) (i := 64) rfl rfl rfl) ⟨Nat.le_of_ble_eq_true rfl, Nat.le_of_ble_eq_true rfl⟩) hS (fun q _ h => hFc q h) hFc (fun u9  tt H1 locs ht hvm hw hB hz1 hk1 hS => ?_)
  obtain ⟨hP1, hD1⟩ := hB
  rw [ht] at hP1
  obtain ⟨hP, hD⟩ := va_join (wr := [(av, .inr (8, [.ref q_1, .ref q_2, .ref q_3, .ref q_4, .ref q_5, .ref q_6, .ref q_7, .ref q_8, .ref q_9, .null, .null, .int (0 : Int32)])), k_X6 q_1 (u_tape 0) (0 : Int32), k_B E (u_tape 0) 320 (fun _ => 0), k_X3 q_2 q_1 (u_reader 0) (u_reader 1) (u_reader 2) (0 : Int32) (0 : Int32) (0 : Int32) (0 : Int32) (0 : Int32) (0 : Int32) (-1 : Int32), k_I E (u_reader 0) 3 (fun _ => 0), k_I E (u_reader 1) 16 (fun _ => 0), k_I E (u_reader 2) 48 (fun _ => 0), k_X4 q_3 (u_scripts 0) (u_scripts 1) (0 : Int32), k_I E (u_scripts 0) 192 (fun _ => 0), k_I E (u_scripts 1) 4 (fun _ => 0), k_X5 q_4 (u_now 0) (u_now 1) (0 : Int32) (0 : Int32) (u_now 2) (u_now 3), k_I E (u_now 0) 81 (fun _ => 0), k_I E (u_now 1) 8 (fun _ => 0), k_I E (u_now 2) 2 (fun _ => 0), k_I E (u_now 3) 2 (fun _ => 0), k_X5 q_5 (u_trial 0) (u_trial 1) (0 : Int32) (0 : Int32) (u_trial 2) (u_trial 3), k_I E (u_trial 0) 81 (fun _ => 0), k_I E (u_trial 1) 8 (fun _ => 0), k_I E (u_trial 2) 2 (fun _ => 0), k_I E (u_trial 3) 2 (fun _ => 0), k_X5 q_6 (u_kept 0) (u_kept 1) (0 : Int32) (0 : Int32) (u_kept 2) (u_kept 3), k_I E (u_kept 0) 81 (fun _ => 0), k_I E (u_kept 1) 8 (fun _ => 0), k_I E (u_kept 2) 2 (fun _ => 0), k_I E (u_kept 3) 2 (fun _ => 0), k_X0 q_7 (u_book 0), k_I E (u_book 0) 300 (fun _ => 0), k_X0 q_8 (u_keptBook 0), k_I E (u_keptBook 0) 300 (fun _ => 0), k_X2 q_9 (u_history 0) (0 : Int32) (0 : Int32), k_I E (u_history 0) 3240 (fun _ => 0)]) (w1 := [k_X1 q_10 (0 : Int64) (1 : Int32) (-1 : Int32) (0 : Int32) (0 : Int32)]) hP hD [31] [0, 1, 2, 3, 4, 5, 6, 7, 8, 9, 10, 11, 12, 13, 14, 15, 16, 17, 18, 19, 20, 21, 22, 23, 24, 25, 26, 27, 28, 29, 30] rfl rfl (by decide) (by decide) hk1 hFc hP1 hD1
  generalize H1 = H at hP hS ⊢
  have h9 := fixPD (ws' := [(av, .inr (8, [.ref q_1, .ref q_2, .ref q_3, .ref q_4, .ref q_5, .ref q_6, .ref q_7, .ref q_8, .ref q_9, .null, .null, .int (0 : Int32)])), k_X6 q_1 (u_tape 0) (0 : Int32), k_B E (u_tape 0) 320 (fun _ => 0), k_X3 q_2 q_1 (u_reader 0) (u_reader 1) (u_reader 2) (0 : Int32) (0 : Int32) (0 : Int32) (0 : Int32) (0 : Int32) (0 : Int32) (-1 : Int32), k_I E (u_reader 0) 3 (fun _ => 0), k_I E (u_reader 1) 16 (fun _ => 0), k_I E (u_reader 2) 48 (fun _ => 0), k_X4 q_3 (u_scripts 0) (u_scripts 1) (0 : Int32), k_I E (u_scripts 0) 192 (fun _ => 0), k_I E (u_scripts 1) 4 (fun _ => 0), k_X5 q_4 (u_now 0) (u_now 1) (0 : Int32) (0 : Int32) (u_now 2) (u_now 3), k_I E (u_now 0) 81 (fun _ => 0), k_I E (u_now 1) 8 (fun _ => 0), k_I E (u_now 2) 2 (fun _ => 0), k_I E (u_now 3) 2 (fun _ => 0), k_X5 q_5 (u_trial 0) (u_trial 1) (0 : Int32) (0 : Int32) (u_trial 2) (u_trial 3), k_I E (u_trial 0) 81 (fun _ => 0), k_I E (u_trial 1) 8 (fun _ => 0), k_I E (u_trial 2) 2 (fun _ => 0), k_I E (u_trial 3) 2 (fun _ => 0), k_X5 q_6 (u_kept 0) (u_kept 1) (0 : Int32) (0 : Int32) (u_kept 2) (u_kept 3), k_I E (u_kept 0) 81 (fun _ => 0), k_I E (u_kept 1) 8 (fun _ => 0), k_I E (u_kept 2) 2 (fun _ => 0), k_I E (u_kept 3) 2 (fun _ => 0), k_X0 q_7 (u_book 0), k_I E (u_book 0) 300 (fun _ => 0), k_X0 q_8 (u_keptBook 0), k_I E (u_keptBook 0) 300 (fun _ => 0), k_X2 q_9 (u_history 0) (0 : Int32) (0 : Int32), k_I E (u_history 0) 3240 (fun _ => 0), k_X1 q_10 (0 : Int64) (1 : Int32) (-1 : Int32) (0 : Int32) (0 : Int32)]) hP hD rfl
  clear hP hD
  obtain ⟨hP, hD⟩ := h9
  generalize u9 = u_draws at hP hD
  have h9 := fixPD (ws' := [(av, .inr (8, [.ref q_1, .ref q_2, .ref q_3, .ref q_4, .ref q_5, .ref q_6, .ref q_7, .ref q_8, .ref q_9, .null, .null, .int (0 : Int32)])), k_X6 q_1 (u_tape 0) (0 : Int32), k_B E (u_tape 0) 320 (fun _ => 0), k_X3 q_2 q_1 (u_reader 0) (u_reader 1) (u_reader 2) (0 : Int32) (0 : Int32) (0 : Int32) (0 : Int32) (0 : Int32) (0 : Int32) (-1 : Int32), k_I E (u_reader 0) 3 (fun _ => 0), k_I E (u_reader 1) 16 (fun _ => 0), k_I E (u_reader 2) 48 (fun _ => 0), k_X4 q_3 (u_scripts 0) (u_scripts 1) (0 : Int32), k_I E (u_scripts 0) 192 (fun _ => 0), k_I E (u_scripts 1) 4 (fun _ => 0), k_X5 q_4 (u_now 0) (u_now 1) (0 : Int32) (0 : Int32) (u_now 2) (u_now 3), k_I E (u_now 0) 81 (fun _ => 0), k_I E (u_now 1) 8 (fun _ => 0), k_I E (u_now 2) 2 (fun _ => 0), k_I E (u_now 3) 2 (fun _ => 0), k_X5 q_5 (u_trial 0) (u_trial 1) (0 : Int32) (0 : Int32) (u_trial 2) (u_trial 3), k_I E (u_trial 0) 81 (fun _ => 0), k_I E (u_trial 1) 8 (fun _ => 0), k_I E (u_trial 2) 2 (fun _ => 0), k_I E (u_trial 3) 2 (fun _ => 0), k_X5 q_6 (u_kept 0) (u_kept 1) (0 : Int32) (0 : Int32) (u_kept 2) (u_kept 3), k_I E (u_kept 0) 81 (fun _ => 0), k_I E (u_kept 1) 8 (fun _ => 0), k_I E (u_kept 2) 2 (fun _ => 0), k_I E (u_kept 3) 2 (fun _ => 0), k_X0 q_7 (u_book 0), k_I E (u_book 0) 300 (fun _ => 0), k_X0 q_8 (u_keptBook 0), k_I E (u_keptBook 0) 300 (fun _ => 0), k_X2 q_9 (u_history 0) (0 : Int32) (0 : Int32), k_I E (u_history 0) 3240 (fun _ => 0), k_X1 q_10 (0 : Int64) (1 : Int32) (-1 : Int32) (0 : Int32) (0 : Int32)]) hP hD rfl
  clear hP hD
  obtain ⟨hP, hD⟩ := h9
  refine va_putF (D := E.1) (ci := 8) (v := .ref q_10) (ty := .object "HushWatch$Draws") (C := RX7) (T := TX7) (N := 12) hx hb hts i_k_X_X7 tyX7 tyX7_ok nmX7 hown hK hP hD hS 0 rfl rfl 9 (by decide) (hts (.fieldLink RX7 65 "HushWatch" "draws" "LHushWatch$Draws;") (List.mem_of_getElem? (i := 42) rfl)) (fun _ h9 => h9) rfl hin rfl (by decide +kernel) rfl rfl (Nat.le_of_ble_eq_true rfl) (dq_181 96 bcX7_init_2 (j := 19) (i := 65) rfl rfl rfl) (fun H locs hP hD hS => ?_)
  have h9 := fixPD (ws' := [(av, .inr (8, [.ref q_1, .ref q_2, .ref q_3, .ref q_4, .ref q_5, .ref q_6, .ref q_7, .ref q_8, .ref q_9, .ref q_10, .null, .int (0 : Int32)])), k_X6 q_1 (u_tape 0) (0 : Int32), k_B E (u_tape 0) 320 (fun _ => 0), k_X3 q_2 q_1 (u_reader 0) (u_reader 1) (u_reader 2) (0 : Int32) (0 : Int32) (0 : Int32) (0 : Int32) (0 : Int32) (0 : Int32) (-1 : Int32), k_I E (u_reader 0) 3 (fun _ => 0), k_I E (u_reader 1) 16 (fun _ => 0), k_I E (u_reader 2) 48 (fun _ => 0), k_X4 q_3 (u_scripts 0) (u_scripts 1) (0 : Int32), k_I E (u_scripts 0) 192 (fun _ => 0), k_I E (u_scripts 1) 4 (fun _ => 0), k_X5 q_4 (u_now 0) (u_now 1) (0 : Int32) (0 : Int32) (u_now 2) (u_now 3), k_I E (u_now 0) 81 (fun _ => 0), k_I E (u_now 1) 8 (fun _ => 0), k_I E (u_now 2) 2 (fun _ => 0), k_I E (u_now 3) 2 (fun _ => 0), k_X5 q_5 (u_trial 0) (u_trial 1) (0 : Int32) (0 : Int32) (u_trial 2) (u_trial 3), k_I E (u_trial 0) 81 (fun _ => 0), k_I E (u_trial 1) 8 (fun _ => 0), k_I E (u_trial 2) 2 (fun _ => 0), k_I E (u_trial 3) 2 (fun _ => 0), k_X5 q_6 (u_kept 0) (u_kept 1) (0 : Int32) (0 : Int32) (u_kept 2) (u_kept 3), k_I E (u_kept 0) 81 (fun _ => 0), k_I E (u_kept 1) 8 (fun _ => 0), k_I E (u_kept 2) 2 (fun _ => 0), k_I E (u_kept 3) 2 (fun _ => 0), k_X0 q_7 (u_book 0), k_I E (u_book 0) 300 (fun _ => 0), k_X0 q_8 (u_keptBook 0), k_I E (u_keptBook 0) 300 (fun _ => 0), k_X2 q_9 (u_history 0) (0 : Int32) (0 : Int32), k_I E (u_history 0) 3240 (fun _ => 0), k_X1 q_10 (0 : Int64) (1 : Int32) (-1 : Int32) (0 : Int32) (0 : Int32)]) hP hD rfl
  clear hP hD
  obtain ⟨hP, hD⟩ := h9
  refine lv_aload_n hx hb (dq_42 96 bcX7_init_2 (j := 22) rfl rfl) rfl (lv_at hl 0 rfl) ?_
  refine lv_iconst (v := 3) hx hb (dq_6 96 bcX7_init_2 (j := 23) rfl rfl) (by decide) ?_
  refine nw_arr (atype := .int) (ty := .int) (a0 := (3, .inl (fun _ => 0))) hx hb (hts (.arrayClass .int) (List.mem_of_getElem? (i := 43) rfl)) rfl hK hP hD hS hA 0 rfl (fun _ _ a b => Option.some.inj (a.symm.trans b)) (fun _ => rfl) (by decide) rfl (Nat.le_of_ble_eq_true rfl) (Nat.le_of_ble_eq_true rfl) (Nat.le_of_ble_eq_true rfl) dX7_init_120 (fun q_11 H hP hD hS => ?_)
  have h9 := fixPD (ws' := [(av, .inr (8, [.ref q_1, .ref q_2, .ref q_3, .ref q_4, .ref q_5, .ref q_6, .ref q_7, .ref q_8, .ref q_9, .ref q_10, .null, .int (0 : Int32)])), k_X6 q_1 (u_tape 0) (0 : Int32), k_B E (u_tape 0) 320 (fun _ => 0), k_X3 q_2 q_1 (u_reader 0) (u_reader 1) (u_reader 2) (0 : Int32) (0 : Int32) (0 : Int32) (0 : Int32) (0 : Int32) (0 : Int32) (-1 : Int32), k_I E (u_reader 0) 3 (fun _ => 0), k_I E (u_reader 1) 16 (fun _ => 0), k_I E (u_reader 2) 48 (fun _ => 0), k_X4 q_3 (u_scripts 0) (u_scripts 1) (0 : Int32), k_I E (u_scripts 0) 192 (fun _ => 0), k_I E (u_scripts 1) 4 (fun _ => 0), k_X5 q_4 (u_now 0) (u_now 1) (0 : Int32) (0 : Int32) (u_now 2) (u_now 3), k_I E (u_now 0) 81 (fun _ => 0), k_I E (u_now 1) 8 (fun _ => 0), k_I E (u_now 2) 2 (fun _ => 0), k_I E (u_now 3) 2 (fun _ => 0), k_X5 q_5 (u_trial 0) (u_trial 1) (0 : Int32) (0 : Int32) (u_trial 2) (u_trial 3), k_I E (u_trial 0) 81 (fun _ => 0), k_I E (u_trial 1) 8 (fun _ => 0), k_I E (u_trial 2) 2 (fun _ => 0), k_I E (u_trial 3) 2 (fun _ => 0), k_X5 q_6 (u_kept 0) (u_kept 1) (0 : Int32) (0 : Int32) (u_kept 2) (u_kept 3), k_I E (u_kept 0) 81 (fun _ => 0), k_I E (u_kept 1) 8 (fun _ => 0), k_I E (u_kept 2) 2 (fun _ => 0), k_I E (u_kept 3) 2 (fun _ => 0), k_X0 q_7 (u_book 0), k_I E (u_book 0) 300 (fun _ => 0), k_X0 q_8 (u_keptBook 0), k_I E (u_keptBook 0) 300 (fun _ => 0), k_X2 q_9 (u_history 0) (0 : Int32) (0 : Int32), k_I E (u_history 0) 3240 (fun _ => 0), k_X1 q_10 (0 : Int64) (1 : Int32) (-1 : Int32) (0 : Int32) (0 : Int32), k_I E q_11 3 (fun _ => 0)]) hP hD rfl
  clear hP hD
  obtain ⟨hP, hD⟩ := h9
  refine W.widen (k := 32) (n := 4749) (Nat.le_of_ble_eq_true rfl) (Nat.le_of_ble_eq_true rfl) ?_
  refine va_putF (D := E.1) (ci := 8) (v := .ref q_11) (ty := .array .int) (C := RX7) (T := TX7) (N := 12) hx hb hts i_k_X_X7 tyX7 tyX7_ok nmX7 hown hK hP hD hS 0 rfl rfl 10 (by decide) (hts (.fieldLink RX7 69 "HushWatch" "refused" "[I") (List.mem_of_getElem? (i := 44) rfl)) (fun _ h9 => h9) rfl hin rfl (by decide +kernel) rfl rfl (Nat.le_of_ble_eq_true rfl) (dq_181 96 bcX7_init_2 (j := 26) (i := 69) rfl rfl rfl) (fun H locs hP hD hS => ?_)
  have h9 := fixPD (ws' := [k_X7 av q_1 q_2 q_3 q_4 q_5 q_6 q_7 q_8 q_9 q_10 q_11 (0 : Int32), k_X6 q_1 (u_tape 0) (0 : Int32), k_B E (u_tape 0) 320 (fun _ => 0), k_X3 q_2 q_1 (u_reader 0) (u_reader 1) (u_reader 2) (0 : Int32) (0 : Int32) (0 : Int32) (0 : Int32) (0 : Int32) (0 : Int32) (-1 : Int32), k_I E (u_reader 0) 3 (fun _ => 0), k_I E (u_reader 1) 16 (fun _ => 0), k_I E (u_reader 2) 48 (fun _ => 0), k_X4 q_3 (u_scripts 0) (u_scripts 1) (0 : Int32), k_I E (u_scripts 0) 192 (fun _ => 0), k_I E (u_scripts 1) 4 (fun _ => 0), k_X5 q_4 (u_now 0) (u_now 1) (0 : Int32) (0 : Int32) (u_now 2) (u_now 3), k_I E (u_now 0) 81 (fun _ => 0), k_I E (u_now 1) 8 (fun _ => 0), k_I E (u_now 2) 2 (fun _ => 0), k_I E (u_now 3) 2 (fun _ => 0), k_X5 q_5 (u_trial 0) (u_trial 1) (0 : Int32) (0 : Int32) (u_trial 2) (u_trial 3), k_I E (u_trial 0) 81 (fun _ => 0), k_I E (u_trial 1) 8 (fun _ => 0), k_I E (u_trial 2) 2 (fun _ => 0), k_I E (u_trial 3) 2 (fun _ => 0), k_X5 q_6 (u_kept 0) (u_kept 1) (0 : Int32) (0 : Int32) (u_kept 2) (u_kept 3), k_I E (u_kept 0) 81 (fun _ => 0), k_I E (u_kept 1) 8 (fun _ => 0), k_I E (u_kept 2) 2 (fun _ => 0), k_I E (u_kept 3) 2 (fun _ => 0), k_X0 q_7 (u_book 0), k_I E (u_book 0) 300 (fun _ => 0), k_X0 q_8 (u_keptBook 0), k_I E (u_keptBook 0) 300 (fun _ => 0), k_X2 q_9 (u_history 0) (0 : Int32) (0 : Int32), k_I E (u_history 0) 3240 (fun _ => 0), k_X1 q_10 (0 : Int64) (1 : Int32) (-1 : Int32) (0 : Int32) (0 : Int32), k_I E q_11 3 (fun _ => 0)]) hP hD rfl
  clear hP hD
  obtain ⟨hP, hD⟩ := h9
  refine lv_aload_n hx hb (dq_42 96 bcX7_init_2 (j := 29) rfl rfl) rfl (lv_at hl 0 rfl) ?_
  refine lv_iconst (v := 0) hx hb (dq_3 96 bcX7_init_2 (j := 30) rfl rfl) (by decide) ?_
  refine va_put (D := E.1) (ci := 8) (v := .int (0 : Int32)) (ty := .boolean) (C := RX7) (T := TX7) (N := 12) hx hb hts i_k_X_X7 tyX7 tyX7_ok nmX7 hown hK hP hD hS 0 rfl rfl 11 (by decide) (hts (.fieldLink RX7 73 "HushWatch" "hasImage" "Z") (List.mem_of_getElem? (i := 45) rfl)) (fun _ h9 => h9) rfl (by decide +kernel) rfl rfl (Nat.le_of_ble_eq_true rfl) (dq_181 96 bcX7_init_2 (j := 31) (i := 73) rfl rfl rfl) (fun H locs hP hD hS => ?_)
  have h9 := fixPD (ws' := [k_X7 av q_1 q_2 q_3 q_4 q_5 q_6 q_7 q_8 q_9 q_10 q_11 (0 : Int32), k_X6 q_1 (u_tape 0) (0 : Int32), k_B E (u_tape 0) 320 (fun _ => 0), k_X3 q_2 q_1 (u_reader 0) (u_reader 1) (u_reader 2) (0 : Int32) (0 : Int32) (0 : Int32) (0 : Int32) (0 : Int32) (0 : Int32) (-1 : Int32), k_I E (u_reader 0) 3 (fun _ => 0), k_I E (u_reader 1) 16 (fun _ => 0), k_I E (u_reader 2) 48 (fun _ => 0), k_X4 q_3 (u_scripts 0) (u_scripts 1) (0 : Int32), k_I E (u_scripts 0) 192 (fun _ => 0), k_I E (u_scripts 1) 4 (fun _ => 0), k_X5 q_4 (u_now 0) (u_now 1) (0 : Int32) (0 : Int32) (u_now 2) (u_now 3), k_I E (u_now 0) 81 (fun _ => 0), k_I E (u_now 1) 8 (fun _ => 0), k_I E (u_now 2) 2 (fun _ => 0), k_I E (u_now 3) 2 (fun _ => 0), k_X5 q_5 (u_trial 0) (u_trial 1) (0 : Int32) (0 : Int32) (u_trial 2) (u_trial 3), k_I E (u_trial 0) 81 (fun _ => 0), k_I E (u_trial 1) 8 (fun _ => 0), k_I E (u_trial 2) 2 (fun _ => 0), k_I E (u_trial 3) 2 (fun _ => 0), k_X5 q_6 (u_kept 0) (u_kept 1) (0 : Int32) (0 : Int32) (u_kept 2) (u_kept 3), k_I E (u_kept 0) 81 (fun _ => 0), k_I E (u_kept 1) 8 (fun _ => 0), k_I E (u_kept 2) 2 (fun _ => 0), k_I E (u_kept 3) 2 (fun _ => 0), k_X0 q_7 (u_book 0), k_I E (u_book 0) 300 (fun _ => 0), k_X0 q_8 (u_keptBook 0), k_I E (u_keptBook 0) 300 (fun _ => 0), k_X2 q_9 (u_history 0) (0 : Int32) (0 : Int32), k_I E (u_history 0) 3240 (fun _ => 0), k_X1 q_10 (0 : Int64) (1 : Int32) (-1 : Int32) (0 : Int32) (0 : Int32), k_I E q_11 3 (fun _ => 0)]) hP hD rfl
  clear hP hD
  obtain ⟨hP, hD⟩ := h9
  have hP9 := hP.sub (ws' := [k_X7 av q_1 q_2 q_3 q_4 q_5 q_6 q_7 q_8 q_9 q_10 q_11 (0 : Int32), k_X6 q_1 (u_tape 0) (0 : Int32), k_B E (u_tape 0) 320 (fun _ => 0), k_X3 q_2 q_1 (u_reader 0) (u_reader 1) (u_reader 2) (0 : Int32) (0 : Int32) (0 : Int32) (0 : Int32) (0 : Int32) (0 : Int32) (-1 : Int32), k_I E (u_reader 0) 3 (fun _ => 0), k_I E (u_reader 1) 16 (fun _ => 0), k_I E (u_reader 2) 48 (fun _ => 0), k_X4 q_3 (u_scripts 0) (u_scripts 1) (0 : Int32), k_I E (u_scripts 0) 192 (fun _ => 0), k_I E (u_scripts 1) 4 (fun _ => 0), k_X5 q_4 (u_now 0) (u_now 1) (0 : Int32) (0 : Int32) (u_now 2) (u_now 3), k_I E (u_now 0) 81 (fun _ => 0), k_I E (u_now 1) 8 (fun _ => 0), k_I E (u_now 2) 2 (fun _ => 0), k_I E (u_now 3) 2 (fun _ => 0), k_X5 q_5 (u_trial 0) (u_trial 1) (0 : Int32) (0 : Int32) (u_trial 2) (u_trial 3), k_I E (u_trial 0) 81 (fun _ => 0), k_I E (u_trial 1) 8 (fun _ => 0), k_I E (u_trial 2) 2 (fun _ => 0), k_I E (u_trial 3) 2 (fun _ => 0), k_X5 q_6 (u_kept 0) (u_kept 1) (0 : Int32) (0 : Int32) (u_kept 2) (u_kept 3), k_I E (u_kept 0) 81 (fun _ => 0), k_I E (u_kept 1) 8 (fun _ => 0), k_I E (u_kept 2) 2 (fun _ => 0), k_I E (u_kept 3) 2 (fun _ => 0), k_X0 q_7 (u_book 0), k_I E (u_book 0) 300 (fun _ => 0), k_X0 q_8 (u_keptBook 0), k_I E (u_keptBook 0) 300 (fun _ => 0), k_X2 q_9 (u_history 0) (0 : Int32) (0 : Int32), k_I E (u_history 0) 3240 (fun _ => 0), k_X1 q_10 (0 : Int64) (1 : Int32) (-1 : Int32) (0 : Int32) (0 : Int32), k_I E q_11 3 (fun _ => 0)]) [0, 1, 2, 3, 4, 5, 6, 7, 8, 9, 10, 11, 12, 13, 14, 15, 16, 17, 18, 19, 20, 21, 22, 23, 24, 25, 26, 27, 28, 29, 30, 31, 32] rfl
  have hD9 := hD.sub (ws' := [k_X7 av q_1 q_2 q_3 q_4 q_5 q_6 q_7 q_8 q_9 q_10 q_11 (0 : Int32), k_X6 q_1 (u_tape 0) (0 : Int32), k_B E (u_tape 0) 320 (fun _ => 0), k_X3 q_2 q_1 (u_reader 0) (u_reader 1) (u_reader 2) (0 : Int32) (0 : Int32) (0 : Int32) (0 : Int32) (0 : Int32) (0 : Int32) (-1 : Int32), k_I E (u_reader 0) 3 (fun _ => 0), k_I E (u_reader 1) 16 (fun _ => 0), k_I E (u_reader 2) 48 (fun _ => 0), k_X4 q_3 (u_scripts 0) (u_scripts 1) (0 : Int32), k_I E (u_scripts 0) 192 (fun _ => 0), k_I E (u_scripts 1) 4 (fun _ => 0), k_X5 q_4 (u_now 0) (u_now 1) (0 : Int32) (0 : Int32) (u_now 2) (u_now 3), k_I E (u_now 0) 81 (fun _ => 0), k_I E (u_now 1) 8 (fun _ => 0), k_I E (u_now 2) 2 (fun _ => 0), k_I E (u_now 3) 2 (fun _ => 0), k_X5 q_5 (u_trial 0) (u_trial 1) (0 : Int32) (0 : Int32) (u_trial 2) (u_trial 3), k_I E (u_trial 0) 81 (fun _ => 0), k_I E (u_trial 1) 8 (fun _ => 0), k_I E (u_trial 2) 2 (fun _ => 0), k_I E (u_trial 3) 2 (fun _ => 0), k_X5 q_6 (u_kept 0) (u_kept 1) (0 : Int32) (0 : Int32) (u_kept 2) (u_kept 3), k_I E (u_kept 0) 81 (fun _ => 0), k_I E (u_kept 1) 8 (fun _ => 0), k_I E (u_kept 2) 2 (fun _ => 0), k_I E (u_kept 3) 2 (fun _ => 0), k_X0 q_7 (u_book 0), k_I E (u_book 0) 300 (fun _ => 0), k_X0 q_8 (u_keptBook 0), k_I E (u_keptBook 0) 300 (fun _ => 0), k_X2 q_9 (u_history 0) (0 : Int32) (0 : Int32), k_I E (u_history 0) 3240 (fun _ => 0), k_X1 q_10 (0 : Int64) (1 : Int32) (-1 : Int32) (0 : Int32) (0 : Int32), k_I E q_11 3 (fun _ => 0)]) [0, 1, 2, 3, 4, 5, 6, 7, 8, 9, 10, 11, 12, 13, 14, 15, 16, 17, 18, 19, 20, 21, 22, 23, 24, 25, 26, 27, 28, 29, 30, 31, 32] (by decide) rfl
  rw [hQ]
  exact W.vret hx hb hr (fun tt ht hW => ⟨⟨fun i => ([q_1, (u_tape 0), q_2, (u_reader 0), (u_reader 1), (u_reader 2), q_3, (u_scripts 0), (u_scripts 1), q_4, (u_now 0), (u_now 1), (u_now 2), (u_now 3), q_5, (u_trial 0), (u_trial 1), (u_trial 2), (u_trial 3), q_6, (u_kept 0), (u_kept 1), (u_kept 2), (u_kept 3), q_7, (u_book 0), q_8, (u_keptBook 0), q_9, (u_history 0), q_10, q_11] : List Nat).getD i 0, rfl, trivial, by rw [ht]; exact hP9, hD9⟩, hS.F ht⟩) hS.2.2 (dq_177 96 bcX7_init_2 (j := 34) rfl rfl)
end
-- 87a.tbl
section

/-! THE CLAIM OUT OF ONE WALK OF THE LAW'S BODY. Your part is whole_start (and what it stands on); all else here is the same for every law, but numbers. -/
def R_law : String := "HushWatchLaw"
def lw_P (b : Addr) (xs : List Int32) (args : Array Value) (s : State) : Prop := args = #[.ref b] ∧ s.IntsAt b xs ∧ xs.length ≤ 3072 ∧ (Jvm.Cond.and given_1 narrow_1).before args s = true
def lw_Q (_ : Array Value) (s : State) (o : Outcome) (t : State) : Prop := o = .returned (some (.int 1)) ∧ Framed s o t [] 601024 7293034
def lw_Z (below : List Frame) (a : Array Value) (s : State) : State → Prop := fun t => ∃ o, t.status = .running ∧ Ended t below o ∧ lw_Q a s o t
/-- the law's own end, with 1 on the stack, nothing written that was there before, its room as the claim has it -/
theorem lw_ret {p : Program} {l : Launch} {e : Env} {s : State} {m : MethodId} {below : List Frame} {meth : Method} {c : Code} {b : Nat} (hx : p.tables.exec = Jvm.exec) (hb : c.code = code) (hr : meth.sig.returnType = ret) (hlocks : meth.locks = false) {pc : Nat} {H : Heap} {ls : Array Slot} (hdg : decode code pc = .ok (.ireturn, 1)) : W p l e room_1 s m #[Value.ref b] below meth c H [] 601024 7293034 (lw_Z below #[Value.ref b] s) (F0 m pc ls [.int 1]) := by
  intro T hT X
  obtain ⟨fs, hret, hrun, hended, hW, hframe⟩ := X.leave (v := some (.int 1)) (hlocks := hlocks) (fun h => by rw [hr] at h; cases h)
  have hmeth' : T.vm.method? m = some meth := X.method'
  refine ⟨T.setFrames fs, ?_, .returned (some (.int 1)), hrun, hended, rfl, ⟨_, rfl⟩, hW, hframe⟩
  jvm_step X.here [X.here.top, hx, hb, hdg, hmeth', hr, ret, narrow_b1]
  (try refine ⟨rfl, ?_⟩); (try refine ⟨rfl, ?_⟩)
  first | (intro acts; rw [hret _ acts rfl rfl rfl]) | rw [hret _ _ rfl rfl rfl]
  exact Steps.refl _
/-- what holds at the law's entry: the machine, the code, the tables' words (any of lw_tbl by 'hts w (by decide +kernel)'), the script of L ints xs at the cell b, what the Statement gives of the start (any of its parts by flat_of_before) -/
def lw_At (p : Program) (s : State) (m : MethodId) (meth : Method) (c : Code) (b L : Nat) (xs : Nat → Int32) : Prop :=
  p.tables.exec = Jvm.exec ∧ c.code = code ∧ meth.sig.returnType = ret ∧ c.maxLocals = 7 ∧ s.vm.findClass R_law = some m.cls ∧ (∀ w ∈ lw_tbl, w.before #[Value.ref b] s = true) ∧ va_X b L xs s s.heap ∧ b < s.heap.size ∧ meth.locks = false ∧ (Jvm.Cond.and given_1 narrow_1).before #[Value.ref b] s = true
theorem sel_priv {C : String} {y z : MethodName} {s : State} {args : Array Value} (hcls : z.cls = y.cls) (hy : y.cls ≠ "java/lang/invoke/MethodHandle" ∧ y.cls ≠ "java/lang/invoke/VarHandle") (hz : (Cond.selects C z z).before args s = true) (hpriv : (Cond.privateMethod y).before args s = true) (hinst : (Cond.instanceMethod y).before args s = true) : (Cond.selects C y y).before args s = true := by
  cases hc : s.vm.findClass C with
  | none => simp [Cond.before, Cond.holds, Cond.value, hc] at hz
  | some c =>
    cases hf : s.methodFound? z.cls z.name z.desc with
    | none => simp [Cond.before, Cond.holds, Cond.value, hc, hf] at hz
    | some r =>
      cases hn : s.methodNamed? z with
      | none => simp [Cond.before, Cond.holds, Cond.value, hc, hf, hn] at hz
      | some m =>
        have hany : (s.vm.classes[m.cls]?).any (fun k => !k.isInterface) = true := by
          simp only [Cond.before, Cond.holds, Cond.value, hc, hf, hn] at hz
          cases hs : selectMethod {} s.vm c r <;> rw [hs] at hz <;> simp at hz
          simpa using hz.2
        obtain ⟨mk, methM, hnamed, hmethM, -, -⟩ := Cond.instanceMethod_spec hinst
        have hfound : s.methodFound? y.cls y.name y.desc = some mk := State.methodFound?_of_named hnamed hy
        have hmc : mk.cls = m.cls := by
          have h1 := findClass_of_methodNamed hnamed
          have h2 := findClass_of_methodNamed hn
          rw [hcls] at h2
          exact Option.some.inj (h1.symm.trans h2)
        have hsel : selectMethod {} s.vm c mk = .method mk := selectMethod_private hmethM (Cond.privateMethod_at hpriv mk methM hnamed hmethM)
        rw [← hmc] at hany
        simp only [Cond.before, Cond.holds, Cond.value, hc, hfound, hnamed, hsel]
        simpa using hany
def lw_x4 : List Cond := [.selects RJ4 yJ5_ensureCapacityInternal_d00df yJ5_ensureCapacityInternal_d00df, .selects RJ4 yJ5_newCapacity_0f7a4 yJ5_newCapacity_0f7a4, .selects RJ4 yJ5_putStringAt_47b60 yJ5_putStringAt_47b60, .selects RJ4 yJ5_inflateIfNeededFor_a7421 yJ5_inflateIfNeededFor_a7421]
def lw_tbl2 : List Cond := lw_x4 ++ lw_tbl
set_option maxRecDepth 100000 in
theorem hts2_of {args : Array Value} {s : State} (hts : ∀ w ∈ lw_tbl, w.before args s = true) : ∀ w ∈ lw_tbl2, w.before args s = true := by
  intro w hw
  rcases List.mem_append.mp hw with h | h
  · have hz := (hts (.selects RJ4 yJ5_isLatin1_aae02 yJ5_isLatin1_aae02) (List.mem_of_getElem? (i := 992) (by decide +kernel)))
    simp only [lw_x4, List.mem_cons, List.not_mem_nil, or_false] at h
    rcases h with rfl | rfl | rfl | rfl
    · exact sel_priv (z := yJ5_isLatin1_aae02) rfl ⟨by decide, by decide⟩ hz (hts (.privateMethod yJ5_ensureCapacityInternal_d00df) (List.mem_of_getElem? (i := 961) (by decide +kernel))) (hts (.instanceMethod yJ5_ensureCapacityInternal_d00df) (List.mem_of_getElem? (i := 962) (by decide +kernel)))
    · exact sel_priv (z := yJ5_isLatin1_aae02) rfl ⟨by decide, by decide⟩ hz (hts (.privateMethod yJ5_newCapacity_0f7a4) (List.mem_of_getElem? (i := 965) (by decide +kernel))) (hts (.instanceMethod yJ5_newCapacity_0f7a4) (List.mem_of_getElem? (i := 966) (by decide +kernel)))
    · exact sel_priv (z := yJ5_isLatin1_aae02) rfl ⟨by decide, by decide⟩ hz (hts (.privateMethod yJ5_putStringAt_47b60) (List.mem_of_getElem? (i := 1011) (by decide +kernel))) (hts (.instanceMethod yJ5_putStringAt_47b60) (List.mem_of_getElem? (i := 1012) (by decide +kernel)))
    · exact sel_priv (z := yJ5_isLatin1_aae02) rfl ⟨by decide, by decide⟩ hz (hts (.privateMethod yJ5_inflateIfNeededFor_a7421) (List.mem_of_getElem? (i := 1015) (by decide +kernel))) (hts (.instanceMethod yJ5_inflateIfNeededFor_a7421) (List.mem_of_getElem? (i := 1016) (by decide +kernel)))
  · exact hts w h
theorem sub_r {big : List Cond} (ws : List Cond) (ps : List Nat) (hp : ws = ps.filterMap (fun i => big[i]?)) : ∀ w ∈ ws, w ∈ big := by
  intro w hw
  rw [hp] at hw
  obtain ⟨i, -, hi⟩ := List.mem_filterMap.mp hw
  exact List.mem_of_getElem? hi
set_option maxRecDepth 100000 in
theorem inJ4 : ∀ w ∈ wsJ40, w ∈ lw_tbl := sub_r _ [939, 941, 943, 945] (by decide +kernel)
set_option maxRecDepth 100000 in
theorem inX0 : ∀ w ∈ wsX00, w ∈ lw_tbl := sub_r _ [260] (by decide +kernel)
set_option maxRecDepth 100000 in
theorem inX1 : ∀ w ∈ wsX10, w ∈ lw_tbl := sub_r _ [296, 298, 300, 302, 304] (by decide +kernel)
set_option maxRecDepth 100000 in
theorem inX2 : ∀ w ∈ wsX20, w ∈ lw_tbl := sub_r _ [273, 275, 277] (by decide +kernel)
set_option maxRecDepth 100000 in
theorem inX3 : ∀ w ∈ wsX30, w ∈ lw_tbl := sub_r _ [182, 184, 186, 188, 190, 192, 194, 196, 198, 200, 202] (by decide +kernel)
set_option maxRecDepth 100000 in
theorem inX4 : ∀ w ∈ wsX40, w ∈ lw_tbl := sub_r _ [216, 218, 220] (by decide +kernel)
set_option maxRecDepth 100000 in
theorem inX5 : ∀ w ∈ wsX50, w ∈ lw_tbl := sub_r _ [240, 242, 244, 246, 248, 250] (by decide +kernel)
set_option maxRecDepth 100000 in
theorem inX6 : ∀ w ∈ wsX60, w ∈ lw_tbl := sub_r _ [154, 156] (by decide +kernel)
set_option maxRecDepth 100000 in
theorem inX7 : ∀ w ∈ wsX70, w ∈ lw_tbl := sub_r _ [319, 321, 323, 325, 327, 329, 331, 333, 335, 337, 339, 341] (by decide +kernel)
set_option maxRecDepth 100000 in
theorem inX8 : ∀ w ∈ wsX80, w ∈ lw_tbl := sub_r _ [1290, 1292, 1294, 1296, 1298, 1300, 1302, 1304, 1306, 1308, 1310, 1312, 1314, 1316, 1318, 1320, 1322, 1324, 1326, 1328, 1330, 1332, 1334, 1336, 1338, 1340, 1342, 1344, 1346, 1348, 1350, 1352, 1354, 1356, 1358, 1360] (by decide +kernel)
set_option maxRecDepth 100000 in
theorem nest_in : ∀ w ∈ nestL, w ∈ lw_tbl := sub_r _ [146, 152, 153, 168, 170, 172, 174, 176, 208, 215, 225, 230, 231, 233, 235, 237, 255, 265, 272, 282, 287, 289, 291, 293, 295, 507, 633, 1133] (by decide +kernel)
theorem nx_of {w : Cond} (h2 : nestOk w = true) {A : Array Value} {U : State} (h : w.before A U = true) : va_Nw w U := by
  cases w with
  | fieldLinkNest a i b n d h9 => exact va_Nw.of rfl h
  | methodLinkNest a i x h9 => exact va_Nw.of rfl h
  | _ => simp [nestOk] at h2
end
