theorem dL_law_23 : decode cL_law 23 = .ok (.iload 4, 2) := by decide +kernel
theorem dL_law_25 : decode cL_law 25 = .ok (.aload_n 0, 1) := by decide +kernel
theorem dL_law_26 : decode cL_law 26 = .ok (.arraylength, 1) := by decide +kernel
theorem dL_law_27 : decode cL_law 27 = .ok (.bipush 6, 2) := by decide +kernel
theorem dL_law_29 : decode cL_law 29 = .ok (.isub, 1) := by decide +kernel
theorem dL_law_30 : decode cL_law 30 = .ok (.if_icmp .gt 1610, 3) := by decide +kernel
theorem dL_law_1640 : decode cL_law 1640 = .ok (.iconst 1, 1) := by decide +kernel
theorem dL_law_1641 : decode cL_law 1641 = .ok (.ireturn, 1) := by decide +kernel
theorem dL_law_33 : decode cL_law 33 = .ok (.aload_n 0, 1) := by decide +kernel
theorem dL_law_34 : decode cL_law 34 = .ok (.iload 4, 2) := by decide +kernel
theorem dL_law_36 : decode cL_law 36 = .ok (.iaload, 1) := by decide +kernel
theorem dL_law_37 : decode cL_law 37 = .ok (.bipush 63, 2) := by decide +kernel
theorem dL_law_39 : decode cL_law 39 = .ok (.iand, 1) := by decide +kernel
theorem dL_law_40 : decode cL_law 40 = .ok (.tableswitch 1594 0 38 #[172, 245, 270, 295, 320, 345, 385, 422, 459, 484, 533, 558, 571, 596, 621, 658, 683, 708, 777, 802, 815, 852, 901, 962, 1023, 1096, 1145, 1194, 1243, 1308, 1345, 1370, 1407, 1456, 1493, 1518, 1543, 1556, 1569], 172) := by decide +kernel
set_option maxHeartbeats 4000000 in
set_option maxRecDepth 100000 in
theorem law_round {p : Program} {l : Launch} {e : Env} {s : State} {m : MethodId} {below : List Frame} {meth : Method} {c : Code} (hflags : l.flags = flags0) {b L : Nat} {xs : Nat → Int32} (hL : L ≤ 3072) (C0 : lw_At p s m meth c b L xs) {E : EE} (hK : va_K E.1 vwCl (TY E) s) (hN : NX s) {A : Nat → Prop} (hAe : (fun q : Nat => s.heap.size ≤ q) = A) {z9 : Nat → Nat} (hZ : ZZ z9 A s s.heap) {K : Nat} (hK9 : 590295810358705651712 ≤ K) {xa_ xa_tape xa_tape_bytes xa_reader xa_reader_rules xa_reader_places xa_reader_steps xa_scripts xa_scripts_steps xa_scripts_counts xa_now xa_now_row xa_now_partners xa_now_share xa_now_leftOver xa_trial xa_trial_row xa_trial_partners xa_trial_share xa_trial_leftOver xa_kept xa_kept_row xa_kept_partners xa_kept_share xa_kept_leftOver xa_book xa_book_lines xa_keptBook xa_keptBook_lines xa_history xa_history_rows xa_draws xa_refused ma_ ma_tape ma_readPlace ma_script ma_scriptLong ma_now ma_refused ma_shareX ma_shareY ma_askedRow ma_kept ma_aside ma_spelled ma_image ao j : Nat} (hj2 : j ≤ 513) (hn : 6 * j + 6 ≤ L → LwHd p l e s m below meth c b E A xa_ xa_tape xa_tape_bytes xa_reader xa_reader_rules xa_reader_places xa_reader_steps xa_scripts xa_scripts_steps xa_scripts_counts xa_now xa_now_row xa_now_partners xa_now_share xa_now_leftOver xa_trial xa_trial_row xa_trial_partners xa_trial_share xa_trial_leftOver xa_kept xa_kept_row xa_kept_partners xa_kept_share xa_kept_leftOver xa_book xa_book_lines xa_keptBook xa_keptBook_lines xa_history xa_history_rows xa_draws xa_refused ma_ ma_tape ma_readPlace ma_script ma_scriptLong ma_now ma_refused ma_shareX ma_shareY ma_askedRow ma_kept ma_aside ma_spelled ma_image ao (j + 1)) : LwHd p l e s m below meth c b E A xa_ xa_tape xa_tape_bytes xa_reader xa_reader_rules xa_reader_places xa_reader_steps xa_scripts xa_scripts_steps xa_scripts_counts xa_now xa_now_row xa_now_partners xa_now_share xa_now_leftOver xa_trial xa_trial_row xa_trial_partners xa_trial_share xa_trial_leftOver xa_kept xa_kept_row xa_kept_partners xa_kept_share xa_kept_leftOver xa_book xa_book_lines xa_keptBook xa_keptBook_lines xa_history xa_history_rows xa_draws xa_refused ma_ ma_tape ma_readPlace ma_script ma_scriptLong ma_now ma_refused ma_shareX ma_shareY ma_askedRow ma_kept ma_aside ma_spelled ma_image ao j := by
  intro xc_hasImage xc_tape_length xc_tape_bytes xc_reader_siteCount xc_reader_stepCount xc_reader_seenRules xc_reader_at xc_reader_wordStart xc_reader_number xc_reader_failed xc_reader_rules xc_reader_places xc_reader_steps xc_scripts_held xc_scripts_steps xc_scripts_counts xc_now_askedCount xc_now_outcome xc_now_row xc_now_partners xc_now_share xc_now_leftOver xc_trial_askedCount xc_trial_outcome xc_trial_row xc_trial_partners xc_trial_share xc_trial_leftOver xc_kept_askedCount xc_kept_outcome xc_kept_row xc_kept_partners xc_kept_share xc_kept_leftOver xc_book_lines xc_keptBook_lines xc_history_next xc_history_held xc_history_rows xc_draws_x xc_draws_sort xc_draws_a xc_draws_b xc_draws_c xc_refused mc_thrown mc_taped mc_at mc_part mc_partFrom mc_partNumber mc_wrong mc_partWord mc_readLaw mc_readBound mc_readGoal mc_readSites mc_scripts mc_sites mc_asked mc_outcome mc_took mc_acts mc_drawn mc_racer mc_raced mc_spelledMany mc_hasImage mc_tape mc_readPlace mc_script mc_scriptLong mc_now mc_refused mc_shareX mc_shareY mc_askedRow mc_kept mc_aside mc_spelled mc_image fo H locs ls hI hP hD hS hl
  obtain ⟨hx, hb, hr, hml, hown, hts, hX, hbl, hlocks, hgv⟩ := id C0
  have hown : s.vm.findClass RL = some m.cls := hown
  have hts2 := hts2_of hts
  have hA : ∀ q : Nat, s.heap.size ≤ q → A q := fun q h => by rw [← hAe]; exact h
  have hbA : ¬ A b := by rw [← hAe]; exact Nat.not_le.mpr hbl
  refine lv_iload hx hb dL_law_23 (lv_at hl 4 rfl) ?_
  refine lv_aload_n hx hb dL_law_25 rfl (lv_at hl 0 rfl) ?_
  refine va_slen hx hb hX hbl hbA hS dL_law_26 ?_
  refine lv_bipush (v := 6) hx hb dL_law_27 (by decide) ?_
  refine lv_isub hx hb dL_law_29 ?_
  refine lv_icmp_gt (tgt := 1640) hx hb dL_law_30 (by decide) (fun _ => ?_) (fun q => ?_)
  · refine lv_iconst (v := 1) hx hb dL_law_1640 (by decide) ?_
    refine va_forget (fun q hq => by have h9 := hS.2.2 q hq; rw [← hAe] at h9; exact h9) ?_
    refine W.widen (k := 601024) (n := 7293034) (by omega) (by omega) ?_
    exact lw_ret hx hb hr hlocks dL_law_1641
  have hj : 6 * j + 6 ≤ L := by
    have q1 : ¬ (Int32.ofNat L - (6 : Int32)) < nI (6 * j) := q
    have q2 := mt Int32.lt_iff_toInt_lt.mpr q1
    have q3 : (Int32.ofNat L - (6 : Int32)).toInt = (L : Int) - (6 : Nat) := pk_sub_toInt (a := L) (b := 6) (by omega) (by omega)
    rw [q3, nI_toInt (by omega)] at q2
    omega
  have hn := hn hj
  refine lv_aload_n hx hb dL_law_33 rfl (lv_at hl 0 rfl) ?_
  refine lv_iload hx hb dL_law_34 (lv_at hl 4 rfl) ?_
  refine va_sld hx hb hX hbl hbA hS (nI_in (show 6 * j < L by omega) (show L < 2 ^ 31 by omega)) dL_law_36 ?_
  refine lv_bipush (v := 63) hx hb dL_law_37 (by decide) ?_
  refine lv_iand hx hb dL_law_39 ?_
  refine lv_topi (fun z ez => ?_)
  rcases Classical.em (z = 0) with c_0 | c_0
  · obtain ⟨vx, nxc_tape_bytes, nxc_tape_length, vm, nmc_tape, nmc_taped, h1, h2, hI2⟩ := iv_0 (a1 := xs (6 * j + 1)) (a2 := xs (6 * j + 2)) (a3 := xs (6 * j + 3)) (a4 := xs (6 * j + 4)) (a5 := xs (6 * j + 5)) hK9 hI
    exact lv_tableIn (off := 172) (tgt := 212) hx hb dL_law_40 (by rw [c_0]; decide) (by rw [c_0]; decide) (by rw [c_0]; decide) (by decide) (lc_0 hflags hL C0 hK hN hAe hZ hK9 hj (by omega) (by omega) rfl rfl rfl rfl rfl h1 h2 (fun H locs hP hD hS ls hl => law_next hflags hL C0 hAe hn hI2 hP hD hS hl) hP hD hS hl)
  rcases Classical.em (z = 1) with c_1 | c_1
  · obtain ⟨vx, nxc_tape_length, vm, nmc_taped, h1, h2, hI2⟩ := iv_1 (a1 := xs (6 * j + 1)) hK9 hI
    exact lv_tableIn (off := 245) (tgt := 285) hx hb dL_law_40 (by rw [c_1]; decide) (by rw [c_1]; decide) (by rw [c_1]; decide) (by decide) (lc_1 hflags hL C0 hK hN hAe hZ hK9 hj (by omega) (by omega) rfl rfl rfl rfl rfl h1 h2 (fun H locs hP hD hS ls hl => law_next hflags hL C0 hAe hn hI2 hP hD hS hl) hP hD hS hl)
  rcases Classical.em (z = 2) with c_2 | c_2
  · obtain ⟨vx, nxc_reader_rules, nxc_reader_places, nxc_reader_steps, nxc_reader_siteCount, nxc_reader_stepCount, nxc_reader_seenRules, nxc_reader_at, nxc_reader_wordStart, nxc_reader_number, nxc_reader_failed, vm, nmc_at, nmc_part, nmc_partFrom, nmc_partNumber, nmc_wrong, nmc_partWord, nmc_readLaw, nmc_readBound, nmc_readGoal, nmc_readSites, nmc_readPlace, nmc_script, nmc_scriptLong, h1, h2, hI2⟩ := iv_2 (a1 := xs (6 * j + 1)) hK9 hI
    exact lv_tableIn (off := 270) (tgt := 310) hx hb dL_law_40 (by rw [c_2]; decide) (by rw [c_2]; decide) (by rw [c_2]; decide) (by decide) (lc_2 hflags hL C0 hK hN hAe hZ hK9 hj (by omega) (by omega) rfl rfl rfl rfl rfl h1 h2 (fun H locs hP hD hS ls hl => law_next hflags hL C0 hAe hn hI2 hP hD hS hl) hP hD hS hl)
  rcases Classical.em (z = 3) with c_3 | c_3
  · obtain ⟨vx, nxc_tape_length, nxc_reader_rules, nxc_reader_places, nxc_reader_steps, nxc_reader_siteCount, nxc_reader_stepCount, nxc_reader_seenRules, nxc_reader_at, nxc_reader_wordStart, nxc_reader_number, nxc_reader_failed, nxc_scripts_steps, nxc_scripts_counts, nxc_scripts_held, nxc_now_row, nxc_history_held, nxc_hasImage, vm, nmc_taped, nmc_at, nmc_part, nmc_partFrom, nmc_partNumber, nmc_wrong, nmc_partWord, nmc_readLaw, nmc_readBound, nmc_readGoal, nmc_readSites, nmc_readPlace, nmc_script, nmc_scriptLong, nmc_scripts, nmc_now, nmc_sites, nmc_acts, nmc_hasImage, h1, h2, hI2⟩ := iv_3 (a1 := xs (6 * j + 1)) hK9 hI
    exact lv_tableIn (off := 295) (tgt := 335) hx hb dL_law_40 (by rw [c_3]; decide) (by rw [c_3]; decide) (by rw [c_3]; decide) (by decide) (lc_3 hflags hL C0 hK hN hAe hZ hK9 hj (by omega) (by omega) rfl rfl rfl rfl rfl h1 h2 (fun H locs hP hD hS ls hl => law_next hflags hL C0 hAe hn hI2 hP hD hS hl) hP hD hS hl)
  rcases Classical.em (z = 4) with c_4 | c_4
  · obtain ⟨vx, vm, h1, h2, hI2⟩ := iv_4 (a1 := xs (6 * j + 1)) hK9 hI
    exact lv_tableIn (off := 320) (tgt := 360) hx hb dL_law_40 (by rw [c_4]; decide) (by rw [c_4]; decide) (by rw [c_4]; decide) (by decide) (lc_4 hflags hL C0 hK hN hAe hZ hK9 hj (by omega) (by omega) rfl rfl rfl rfl rfl h1 h2 (fun H locs hP hD hS ls hl => law_next hflags hL C0 hAe hn hI2 hP hD hS hl) hP hD hS hl)
  rcases Classical.em (z = 5) with c_5 | c_5
  · obtain ⟨vm, nmc_thrown, h2, hI2⟩ := iv_5 (a1 := xs (6 * j + 1)) (a2 := xs (6 * j + 2)) hK9 hI
    exact lv_tableIn (off := 345) (tgt := 385) hx hb dL_law_40 (by rw [c_5]; decide) (by rw [c_5]; decide) (by rw [c_5]; decide) (by decide) (lc_5 hflags hL C0 hK hN hAe hZ hK9 hj (by omega) (by omega) rfl rfl rfl rfl rfl h2 (fun fo H locs hP hD hS ls hl => law_next hflags hL C0 hAe hn hI2 hP hD hS hl) hP hD hS hl)
  rcases Classical.em (z = 6) with c_6 | c_6
  · obtain ⟨vx, vm, h1, h2, hI2⟩ := iv_6 (a1 := xs (6 * j + 1)) (a2 := xs (6 * j + 2)) hK9 hI
    exact lv_tableIn (off := 385) (tgt := 425) hx hb dL_law_40 (by rw [c_6]; decide) (by rw [c_6]; decide) (by rw [c_6]; decide) (by decide) (lc_6 hflags hL C0 hK hN hAe hZ hK9 hj (by omega) (by omega) rfl rfl rfl rfl rfl h1 h2 (fun H locs hP hD hS ls hl => law_next hflags hL C0 hAe hn hI2 hP hD hS hl) hP hD hS hl)
  rcases Classical.em (z = 7) with c_7 | c_7
  · obtain ⟨vx, vm, h1, h2, hI2⟩ := iv_7 (a1 := xs (6 * j + 1)) (a2 := xs (6 * j + 2)) hK9 hI
    exact lv_tableIn (off := 422) (tgt := 462) hx hb dL_law_40 (by rw [c_7]; decide) (by rw [c_7]; decide) (by rw [c_7]; decide) (by decide) (lc_7 hflags hL C0 hK hN hAe hZ hK9 hj (by omega) (by omega) rfl rfl rfl rfl rfl h1 h2 (fun H locs hP hD hS ls hl => law_next hflags hL C0 hAe hn hI2 hP hD hS hl) hP hD hS hl)
  rcases Classical.em (z = 8) with c_8 | c_8
  · obtain ⟨vx, vm, h1, h2, hI2⟩ := iv_8 (a1 := xs (6 * j + 1)) hK9 hI
    exact lv_tableIn (off := 459) (tgt := 499) hx hb dL_law_40 (by rw [c_8]; decide) (by rw [c_8]; decide) (by rw [c_8]; decide) (by decide) (lc_8 hflags hL C0 hK hN hAe hZ hK9 hj (by omega) (by omega) rfl rfl rfl rfl rfl h1 h2 (fun H locs hP hD hS ls hl => law_next hflags hL C0 hAe hn hI2 hP hD hS hl) hP hD hS hl)
  rcases Classical.em (z = 9) with c_9 | c_9
  · obtain ⟨vx, nxc_now_row, nxc_now_partners, nxc_now_askedCount, nxc_now_outcome, nxc_now_share, nxc_now_leftOver, nxc_book_lines, nxc_history_rows, nxc_history_next, nxc_history_held, nxc_refused, vm, nmc_now, nmc_refused, nmc_shareX, nmc_shareY, nmc_asked, nmc_outcome, nmc_askedRow, nmc_took, nmc_kept, nmc_acts, h1, h2, hI2⟩ := iv_9 (a1 := xs (6 * j + 1)) (a2 := xs (6 * j + 2)) (a3 := xs (6 * j + 3)) hK9 hI
    exact lv_tableIn (off := 484) (tgt := 524) hx hb dL_law_40 (by rw [c_9]; decide) (by rw [c_9]; decide) (by rw [c_9]; decide) (by decide) (lc_9 hflags hL C0 hK hN hAe hZ hK9 hj (by omega) (by omega) rfl rfl rfl rfl rfl h1 h2 (fun H locs hP hD hS ls hl => law_next hflags hL C0 hAe hn hI2 hP hD hS hl) hP hD hS hl)
  rcases Classical.em (z = 10) with c_10 | c_10
  · obtain ⟨vx, nxc_now_row, nxc_now_partners, nxc_now_askedCount, nxc_now_outcome, nxc_now_share, nxc_now_leftOver, nxc_book_lines, nxc_history_rows, nxc_history_next, nxc_history_held, nxc_refused, vm, nmc_now, nmc_refused, nmc_shareX, nmc_shareY, nmc_asked, nmc_outcome, nmc_askedRow, nmc_took, nmc_kept, nmc_acts, h1, h2, hI2⟩ := iv_10 (a1 := xs (6 * j + 1)) hK9 hI
    exact lv_tableIn (off := 533) (tgt := 573) hx hb dL_law_40 (by rw [c_10]; decide) (by rw [c_10]; decide) (by rw [c_10]; decide) (by decide) (lc_10 hflags hL C0 hK hN hAe hZ hK9 hj (by omega) (by omega) rfl rfl rfl rfl rfl h1 h2 (fun H locs hP hD hS ls hl => law_next hflags hL C0 hAe hn hI2 hP hD hS hl) hP hD hS hl)
  rcases Classical.em (z = 11) with c_11 | c_11
  · obtain ⟨vx, nxc_now_row, nxc_now_partners, nxc_now_askedCount, nxc_now_outcome, nxc_now_share, nxc_now_leftOver, nxc_book_lines, nxc_history_rows, nxc_history_next, nxc_history_held, nxc_refused, vm, nmc_now, nmc_refused, nmc_shareX, nmc_shareY, nmc_asked, nmc_outcome, nmc_askedRow, nmc_took, nmc_kept, nmc_acts, h1, h2, hI2⟩ := iv_11  hK9 hI
    exact lv_tableIn (off := 558) (tgt := 598) hx hb dL_law_40 (by rw [c_11]; decide) (by rw [c_11]; decide) (by rw [c_11]; decide) (by decide) (lc_11 hflags hL C0 hK hN hAe hZ hK9 hj (by omega) (by omega) rfl rfl rfl rfl rfl h1 h2 (fun H locs hP hD hS ls hl => law_next hflags hL C0 hAe hn hI2 hP hD hS hl) hP hD hS hl)
  rcases Classical.em (z = 12) with c_12 | c_12
  · obtain ⟨vx, nxc_now_row, nxc_now_partners, nxc_now_askedCount, nxc_now_outcome, nxc_now_share, nxc_now_leftOver, nxc_book_lines, nxc_history_rows, nxc_history_next, nxc_history_held, nxc_refused, vm, nmc_now, nmc_refused, nmc_shareX, nmc_shareY, nmc_asked, nmc_outcome, nmc_askedRow, nmc_took, nmc_kept, nmc_acts, h1, h2, hI2⟩ := iv_12 (a1 := xs (6 * j + 1)) hK9 hI
    exact lv_tableIn (off := 571) (tgt := 611) hx hb dL_law_40 (by rw [c_12]; decide) (by rw [c_12]; decide) (by rw [c_12]; decide) (by decide) (lc_12 hflags hL C0 hK hN hAe hZ hK9 hj (by omega) (by omega) rfl rfl rfl rfl rfl h1 h2 (fun H locs hP hD hS ls hl => law_next hflags hL C0 hAe hn hI2 hP hD hS hl) hP hD hS hl)
  rcases Classical.em (z = 13) with c_13 | c_13
  · obtain ⟨vx, nxc_now_row, nxc_now_partners, nxc_now_askedCount, nxc_now_outcome, nxc_now_share, nxc_now_leftOver, nxc_book_lines, nxc_history_rows, nxc_history_next, nxc_history_held, nxc_refused, vm, nmc_now, nmc_refused, nmc_shareX, nmc_shareY, nmc_asked, nmc_outcome, nmc_askedRow, nmc_took, nmc_kept, nmc_acts, h1, h2, hI2⟩ := iv_13 (a1 := xs (6 * j + 1)) hK9 hI
    exact lv_tableIn (off := 596) (tgt := 636) hx hb dL_law_40 (by rw [c_13]; decide) (by rw [c_13]; decide) (by rw [c_13]; decide) (by decide) (lc_13 hflags hL C0 hK hN hAe hZ hK9 hj (by omega) (by omega) rfl rfl rfl rfl rfl h1 h2 (fun H locs hP hD hS ls hl => law_next hflags hL C0 hAe hn hI2 hP hD hS hl) hP hD hS hl)
  rcases Classical.em (z = 14) with c_14 | c_14
  · obtain ⟨vx, nxc_now_row, nxc_now_partners, nxc_now_askedCount, nxc_now_outcome, nxc_now_share, nxc_now_leftOver, nxc_book_lines, nxc_history_rows, nxc_history_next, nxc_history_held, nxc_refused, vm, nmc_now, nmc_refused, nmc_shareX, nmc_shareY, nmc_asked, nmc_outcome, nmc_askedRow, nmc_took, nmc_kept, nmc_acts, h1, h2, hI2⟩ := iv_14 (a1 := xs (6 * j + 1)) (a2 := xs (6 * j + 2)) hK9 hI
    exact lv_tableIn (off := 621) (tgt := 661) hx hb dL_law_40 (by rw [c_14]; decide) (by rw [c_14]; decide) (by rw [c_14]; decide) (by decide) (lc_14 hflags hL C0 hK hN hAe hZ hK9 hj (by omega) (by omega) rfl rfl rfl rfl rfl h1 h2 (fun H locs hP hD hS ls hl => law_next hflags hL C0 hAe hn hI2 hP hD hS hl) hP hD hS hl)
  rcases Classical.em (z = 15) with c_15 | c_15
  · obtain ⟨vx, nxc_now_row, nxc_now_partners, nxc_now_askedCount, nxc_now_outcome, nxc_now_share, nxc_now_leftOver, nxc_book_lines, nxc_history_rows, nxc_history_next, nxc_history_held, nxc_refused, vm, nmc_now, nmc_refused, nmc_shareX, nmc_shareY, nmc_asked, nmc_outcome, nmc_askedRow, nmc_took, nmc_kept, nmc_acts, h1, h2, hI2⟩ := iv_15 (a1 := xs (6 * j + 1)) hK9 hI
    exact lv_tableIn (off := 658) (tgt := 698) hx hb dL_law_40 (by rw [c_15]; decide) (by rw [c_15]; decide) (by rw [c_15]; decide) (by decide) (lc_15 hflags hL C0 hK hN hAe hZ hK9 hj (by omega) (by omega) rfl rfl rfl rfl rfl h1 h2 (fun H locs hP hD hS ls hl => law_next hflags hL C0 hAe hn hI2 hP hD hS hl) hP hD hS hl)
  rcases Classical.em (z = 16) with c_16 | c_16
  · obtain ⟨vx, vm, h1, h2, hI2⟩ := iv_16 (a1 := xs (6 * j + 1)) hK9 hI
    exact lv_tableIn (off := 683) (tgt := 723) hx hb dL_law_40 (by rw [c_16]; decide) (by rw [c_16]; decide) (by rw [c_16]; decide) (by decide) (lc_16 hflags hL C0 hK hN hAe hZ hK9 hj (by omega) (by omega) rfl rfl rfl rfl rfl h1 h2 (fun H locs hP hD hS ls hl => law_next hflags hL C0 hAe hn hI2 hP hD hS hl) hP hD hS hl)
  rcases Classical.em (z = 17) with c_17 | c_17
  · obtain ⟨vx, nxc_now_row, nxc_now_partners, nxc_now_askedCount, nxc_now_outcome, nxc_now_share, nxc_now_leftOver, nxc_book_lines, nxc_history_rows, nxc_history_next, nxc_history_held, nxc_draws_x, nxc_draws_sort, nxc_draws_a, nxc_draws_b, nxc_draws_c, nxc_refused, vm, nmc_now, nmc_shareX, nmc_shareY, nmc_asked, nmc_outcome, nmc_askedRow, nmc_took, nmc_kept, nmc_acts, nmc_drawn, h1, h2, hI2⟩ := iv_17 (a1 := xs (6 * j + 1)) (a2 := xs (6 * j + 2)) (a3 := xs (6 * j + 3)) hK9 hI
    exact lv_tableIn (off := 708) (tgt := 748) hx hb dL_law_40 (by rw [c_17]; decide) (by rw [c_17]; decide) (by rw [c_17]; decide) (by decide) (lc_17 hflags hL C0 hK hN hAe hZ hK9 hj (by omega) (by omega) rfl rfl rfl rfl rfl h1 h2 (fun H locs hP hD hS ls hl => law_next hflags hL C0 hAe hn hI2 hP hD hS hl) hP hD hS hl)
  rcases Classical.em (z = 18) with c_18 | c_18
  · obtain ⟨vx, vm, h1, h2, hI2⟩ := iv_18 (a1 := xs (6 * j + 1)) hK9 hI
    exact lv_tableIn (off := 777) (tgt := 817) hx hb dL_law_40 (by rw [c_18]; decide) (by rw [c_18]; decide) (by rw [c_18]; decide) (by decide) (lc_18 hflags hL C0 hK hN hAe hZ hK9 hj (by omega) (by omega) rfl rfl rfl rfl rfl h1 h2 (fun H locs hP hD hS ls hl => law_next hflags hL C0 hAe hn hI2 hP hD hS hl) hP hD hS hl)
  rcases Classical.em (z = 19) with c_19 | c_19
  · obtain ⟨vx, nxc_now_row, nxc_history_next, nxc_history_held, vm, nmc_now, nmc_acts, h1, h2, hI2⟩ := iv_19  hK9 hI
    exact lv_tableIn (off := 802) (tgt := 842) hx hb dL_law_40 (by rw [c_19]; decide) (by rw [c_19]; decide) (by rw [c_19]; decide) (by decide) (lc_19 hflags hL C0 hK hN hAe hZ hK9 hj (by omega) (by omega) rfl rfl rfl rfl rfl h1 h2 (fun H locs hP hD hS ls hl => law_next hflags hL C0 hAe hn hI2 hP hD hS hl) hP hD hS hl)
  rcases Classical.em (z = 20) with c_20 | c_20
  · obtain ⟨vx, vm, h1, h2, hI2⟩ := iv_20 (a1 := xs (6 * j + 1)) (a2 := xs (6 * j + 2)) hK9 hI
    exact lv_tableIn (off := 815) (tgt := 855) hx hb dL_law_40 (by rw [c_20]; decide) (by rw [c_20]; decide) (by rw [c_20]; decide) (by decide) (lc_20 hflags hL C0 hK hN hAe hZ hK9 hj (by omega) (by omega) rfl rfl rfl rfl rfl h1 h2 (fun H locs hP hD hS ls hl => law_next hflags hL C0 hAe hn hI2 hP hD hS hl) hP hD hS hl)
  rcases Classical.em (z = 21) with c_21 | c_21
  · obtain ⟨vx, vm, nmc_now, nmc_aside, h1, h2, hI2⟩ := iv_21 (a1 := xs (6 * j + 1)) (a2 := xs (6 * j + 2)) (a3 := xs (6 * j + 3)) hK9 hI
    exact lv_tableIn (off := 852) (tgt := 892) hx hb dL_law_40 (by rw [c_21]; decide) (by rw [c_21]; decide) (by rw [c_21]; decide) (by decide) (lc_21 hflags hL C0 hK hN hAe hZ hK9 hj (by omega) (by omega) rfl rfl rfl rfl rfl h1 h2 (fun H locs hP hD hS ls hl => law_next hflags hL C0 hAe hn hI2 hP hD hS hl) hP hD hS hl)
  rcases Classical.em (z = 22) with c_22 | c_22
  · obtain ⟨vx, nxc_trial_row, nxc_trial_partners, nxc_trial_askedCount, nxc_trial_outcome, nxc_trial_share, nxc_trial_leftOver, vm, nmc_now, nmc_shareX, nmc_shareY, nmc_asked, nmc_outcome, nmc_askedRow, nmc_aside, h1, h2, hI2⟩ := iv_22 (a1 := xs (6 * j + 1)) (a2 := xs (6 * j + 2)) (a3 := xs (6 * j + 3)) (a4 := xs (6 * j + 4)) hK9 hI
    exact lv_tableIn (off := 901) (tgt := 941) hx hb dL_law_40 (by rw [c_22]; decide) (by rw [c_22]; decide) (by rw [c_22]; decide) (by decide) (lc_22 hflags hL C0 hK hN hAe hZ hK9 hj (by omega) (by omega) rfl rfl rfl rfl rfl h1 h2 (fun H locs hP hD hS ls hl => law_next hflags hL C0 hAe hn hI2 hP hD hS hl) hP hD hS hl)
  rcases Classical.em (z = 23) with c_23 | c_23
  · obtain ⟨vx, nxc_trial_row, nxc_trial_partners, nxc_trial_askedCount, nxc_trial_outcome, nxc_trial_share, nxc_trial_leftOver, vm, nmc_now, nmc_shareX, nmc_shareY, nmc_asked, nmc_outcome, nmc_askedRow, nmc_aside, h1, h2, hI2⟩ := iv_23 (a1 := xs (6 * j + 1)) (a2 := xs (6 * j + 2)) (a3 := xs (6 * j + 3)) (a4 := xs (6 * j + 4)) hK9 hI
    exact lv_tableIn (off := 962) (tgt := 1002) hx hb dL_law_40 (by rw [c_23]; decide) (by rw [c_23]; decide) (by rw [c_23]; decide) (by decide) (lc_23 hflags hL C0 hK hN hAe hZ hK9 hj (by omega) (by omega) rfl rfl rfl rfl rfl h1 h2 (fun H locs hP hD hS ls hl => law_next hflags hL C0 hAe hn hI2 hP hD hS hl) hP hD hS hl)
  rcases Classical.em (z = 24) with c_24 | c_24
  · obtain ⟨vx, nxc_trial_row, nxc_trial_partners, nxc_trial_askedCount, nxc_trial_outcome, nxc_trial_share, nxc_trial_leftOver, vm, nmc_now, nmc_shareX, nmc_shareY, nmc_asked, nmc_outcome, nmc_askedRow, nmc_aside, h1, h2, hI2⟩ := iv_24 (a1 := xs (6 * j + 1)) (a2 := xs (6 * j + 2)) (a3 := xs (6 * j + 3)) (a4 := xs (6 * j + 4)) (a5 := xs (6 * j + 5)) hK9 hI
    exact lv_tableIn (off := 1023) (tgt := 1063) hx hb dL_law_40 (by rw [c_24]; decide) (by rw [c_24]; decide) (by rw [c_24]; decide) (by decide) (lc_24 hflags hL C0 hK hN hAe hZ hK9 hj (by omega) (by omega) rfl rfl rfl rfl rfl h1 h2 (fun H locs hP hD hS ls hl => law_next hflags hL C0 hAe hn hI2 hP hD hS hl) hP hD hS hl)
  rcases Classical.em (z = 25) with c_25 | c_25
  · obtain ⟨vx, nxc_trial_row, nxc_trial_share, nxc_trial_leftOver, vm, nmc_now, nmc_shareX, nmc_shareY, nmc_aside, h1, h2, hI2⟩ := iv_25 (a1 := xs (6 * j + 1)) (a2 := xs (6 * j + 2)) (a3 := xs (6 * j + 3)) hK9 hI
    exact lv_tableIn (off := 1096) (tgt := 1136) hx hb dL_law_40 (by rw [c_25]; decide) (by rw [c_25]; decide) (by rw [c_25]; decide) (by decide) (lc_25 hflags hL C0 hK hN hAe hZ hK9 hj (by omega) (by omega) rfl rfl rfl rfl rfl h1 h2 (fun H locs hP hD hS ls hl => law_next hflags hL C0 hAe hn hI2 hP hD hS hl) hP hD hS hl)
  rcases Classical.em (z = 26) with c_26 | c_26
  · obtain ⟨vx, vm, nmc_now, nmc_aside, nmc_racer, nmc_raced, h1, h2, hI2⟩ := iv_26 (a1 := xs (6 * j + 1)) (a2 := xs (6 * j + 2)) (a3 := xs (6 * j + 3)) hK9 hI
    exact lv_tableIn (off := 1145) (tgt := 1185) hx hb dL_law_40 (by rw [c_26]; decide) (by rw [c_26]; decide) (by rw [c_26]; decide) (by decide) (lc_26 hflags hL C0 hK hN hAe hZ hK9 hj (by omega) (by omega) rfl rfl rfl rfl rfl h1 h2 (fun H locs hP hD hS ls hl => law_next hflags hL C0 hAe hn hI2 hP hD hS hl) hP hD hS hl)
  rcases Classical.em (z = 27) with c_27 | c_27
  · obtain ⟨vx, vm, h1, h2, hI2⟩ := iv_27 (a1 := xs (6 * j + 1)) (a2 := xs (6 * j + 2)) (a3 := xs (6 * j + 3)) hK9 hI
    exact lv_tableIn (off := 1194) (tgt := 1234) hx hb dL_law_40 (by rw [c_27]; decide) (by rw [c_27]; decide) (by rw [c_27]; decide) (by decide) (lc_27 hflags hL C0 hK hN hAe hZ hK9 hj (by omega) (by omega) rfl rfl rfl rfl rfl h1 h2 (fun H locs hP hD hS ls hl => law_next hflags hL C0 hAe hn hI2 hP hD hS hl) hP hD hS hl)
  rcases Classical.em (z = 28) with c_28 | c_28
  · obtain ⟨vx, vm, h1, h2, hI2⟩ := iv_28 (a1 := xs (6 * j + 1)) (a2 := xs (6 * j + 2)) (b3 := if xs (6 * j + 3) = 0 then 0 else 1) hK9 hI
    exact lv_tableIn (off := 1243) (tgt := 1283) hx hb dL_law_40 (by rw [c_28]; decide) (by rw [c_28]; decide) (by rw [c_28]; decide) (by decide) (lc_28 hflags hL C0 hK hN hAe hZ hK9 hj (by omega) (by omega) rfl rfl rfl rfl rfl rfl h1 h2 (fun H locs hP hD hS ls hl => law_next hflags hL C0 hAe hn hI2 hP hD hS hl) hP hD hS hl)
  rcases Classical.em (z = 29) with c_29 | c_29
  · obtain ⟨vx, vm, nmc_now, nmc_aside, h1, h2, hI2⟩ := iv_29 (a1 := xs (6 * j + 1)) (a2 := xs (6 * j + 2)) hK9 hI
    exact lv_tableIn (off := 1308) (tgt := 1348) hx hb dL_law_40 (by rw [c_29]; decide) (by rw [c_29]; decide) (by rw [c_29]; decide) (by decide) (lc_29 hflags hL C0 hK hN hAe hZ hK9 hj (by omega) (by omega) rfl rfl rfl rfl rfl h1 h2 (fun H locs hP hD hS ls hl => law_next hflags hL C0 hAe hn hI2 hP hD hS hl) hP hD hS hl)
  rcases Classical.em (z = 30) with c_30 | c_30
  · obtain ⟨vx, vm, h1, h2, hI2⟩ := iv_30 (a1 := xs (6 * j + 1)) hK9 hI
    exact lv_tableIn (off := 1345) (tgt := 1385) hx hb dL_law_40 (by rw [c_30]; decide) (by rw [c_30]; decide) (by rw [c_30]; decide) (by decide) (lc_30 hflags hL C0 hK hN hAe hZ hK9 hj (by omega) (by omega) rfl rfl rfl rfl rfl h1 h2 (fun H locs hP hD hS ls hl => law_next hflags hL C0 hAe hn hI2 hP hD hS hl) hP hD hS hl)
  rcases Classical.em (z = 31) with c_31 | c_31
  · obtain ⟨vm, nmc_spelled, nmc_spelledMany, h2, hI2⟩ := iv_31 (a1 := xs (6 * j + 1)) (a2 := xs (6 * j + 2)) hK9 hI
    exact lv_tableIn (off := 1370) (tgt := 1410) hx hb dL_law_40 (by rw [c_31]; decide) (by rw [c_31]; decide) (by rw [c_31]; decide) (by decide) (lc_31 hflags hL C0 hK hN hAe hZ hK9 hj (by omega) (by omega) rfl rfl rfl rfl rfl h2 (fun H locs hP hD hS ls hl => law_next hflags hL C0 hAe hn hI2 hP hD hS hl) hP hD hS hl)
  rcases Classical.em (z = 32) with c_32 | c_32
  · obtain ⟨vv, h1, h2, hI2⟩ := iv_32 (a1 := xs (6 * j + 1)) (a2 := xs (6 * j + 2)) (a3 := xs (6 * j + 3)) hK9 hI
    exact lv_tableIn (off := 1407) (tgt := 1447) hx hb dL_law_40 (by rw [c_32]; decide) (by rw [c_32]; decide) (by rw [c_32]; decide) (by decide) (lc_32 hflags hL C0 hK hN hAe hZ hK9 hj (by omega) (by omega) rfl rfl rfl rfl rfl h1 h2 (fun H locs hP hD hS ls hl => law_next hflags hL C0 hAe hn hI2 hP hD hS hl) hP hD hS hl)
  rcases Classical.em (z = 33) with c_33 | c_33
  · obtain ⟨vx, nxc_trial_row, nxc_trial_partners, nxc_trial_askedCount, nxc_trial_outcome, nxc_trial_share, nxc_trial_leftOver, vm, nmc_now, nmc_shareX, nmc_shareY, nmc_asked, nmc_outcome, nmc_askedRow, nmc_took, nmc_kept, nmc_acts, nmc_aside, h1, h2, hI2⟩ := iv_33 (a1 := xs (6 * j + 1)) (a2 := xs (6 * j + 2)) hK9 hI
    exact lv_tableIn (off := 1456) (tgt := 1496) hx hb dL_law_40 (by rw [c_33]; decide) (by rw [c_33]; decide) (by rw [c_33]; decide) (by decide) (lc_33 hflags hL C0 hK hN hAe hZ hK9 hj (by omega) (by omega) rfl rfl rfl rfl rfl h1 h2 (fun H locs hP hD hS ls hl => law_next hflags hL C0 hAe hn hI2 hP hD hS hl) hP hD hS hl)
  rcases Classical.em (z = 34) with c_34 | c_34
  · obtain ⟨vx, nxc_now_row, nxc_now_partners, nxc_now_askedCount, nxc_now_outcome, nxc_now_share, nxc_now_leftOver, nxc_book_lines, nxc_history_rows, nxc_history_next, nxc_history_held, nxc_refused, vm, nmc_now, nmc_shareX, nmc_shareY, nmc_asked, nmc_outcome, nmc_askedRow, nmc_took, nmc_kept, nmc_acts, h1, h2, hI2⟩ := iv_34 (a1 := xs (6 * j + 1)) hK9 hI
    exact lv_tableIn (off := 1493) (tgt := 1533) hx hb dL_law_40 (by rw [c_34]; decide) (by rw [c_34]; decide) (by rw [c_34]; decide) (by decide) (lc_34 hflags hL C0 hK hN hAe hZ hK9 hj (by omega) (by omega) rfl rfl rfl rfl rfl h1 h2 (fun H locs hP hD hS ls hl => law_next hflags hL C0 hAe hn hI2 hP hD hS hl) hP hD hS hl)
  rcases Classical.em (z = 35) with c_35 | c_35
  · obtain ⟨vx, vm, h1, h2, hI2⟩ := iv_35 (a1 := xs (6 * j + 1)) hK9 hI
    exact lv_tableIn (off := 1518) (tgt := 1558) hx hb dL_law_40 (by rw [c_35]; decide) (by rw [c_35]; decide) (by rw [c_35]; decide) (by decide) (lc_35 hflags hL C0 hK hN hAe hZ hK9 hj (by omega) (by omega) rfl rfl rfl rfl rfl h1 h2 (fun H locs hP hD hS ls hl => law_next hflags hL C0 hAe hn hI2 hP hD hS hl) hP hD hS hl)
  rcases Classical.em (z = 36) with c_36 | c_36
  · obtain ⟨vx, nxc_kept_row, nxc_keptBook_lines, nxc_hasImage, vm, nmc_image, nmc_hasImage, h1, h2, hI2⟩ := iv_36  hK9 hI
    exact lv_tableIn (off := 1543) (tgt := 1583) hx hb dL_law_40 (by rw [c_36]; decide) (by rw [c_36]; decide) (by rw [c_36]; decide) (by decide) (lc_36 hflags hL C0 hK hN hAe hZ hK9 hj (by omega) (by omega) rfl rfl rfl rfl rfl h1 h2 (fun H locs hP hD hS ls hl => law_next hflags hL C0 hAe hn hI2 hP hD hS hl) hP hD hS hl)
  rcases Classical.em (z = 37) with c_37 | c_37
  · obtain ⟨vx, nxc_now_row, nxc_book_lines, nxc_history_held, vm, nmc_now, nmc_acts, h1, h2, hI2⟩ := iv_37  hK9 hI
    exact lv_tableIn (off := 1556) (tgt := 1596) hx hb dL_law_40 (by rw [c_37]; decide) (by rw [c_37]; decide) (by rw [c_37]; decide) (by decide) (lc_37 hflags hL C0 hK hN hAe hZ hK9 hj (by omega) (by omega) rfl rfl rfl rfl rfl h1 h2 (fun H locs hP hD hS ls hl => law_next hflags hL C0 hAe hn hI2 hP hD hS hl) hP hD hS hl)
  rcases Classical.em (z = 38) with c_38 | c_38
  · obtain ⟨vx, vm, h1, h2, hI2⟩ := iv_38 (a1 := xs (6 * j + 1)) hK9 hI
    exact lv_tableIn (off := 1569) (tgt := 1609) hx hb dL_law_40 (by rw [c_38]; decide) (by rw [c_38]; decide) (by rw [c_38]; decide) (by decide) (lc_38 hflags hL C0 hK hN hAe hZ hK9 hj (by omega) (by omega) rfl rfl rfl rfl rfl h1 h2 (fun H locs hP hD hS ls hl => law_next hflags hL C0 hAe hn hI2 hP hD hS hl) hP hD hS hl)
  refine lv_tableOut (tgt := 1634) hx hb dL_law_40 (by have t0 : (0 : Int32).toInt = 0 := (by decide); have t1 : (1 : Int32).toInt = 1 := (by decide); have t2 : (2 : Int32).toInt = 2 := (by decide); have t3 : (3 : Int32).toInt = 3 := (by decide); have t4 : (4 : Int32).toInt = 4 := (by decide); have t5 : (5 : Int32).toInt = 5 := (by decide); have t6 : (6 : Int32).toInt = 6 := (by decide); have t7 : (7 : Int32).toInt = 7 := (by decide); have t8 : (8 : Int32).toInt = 8 := (by decide); have t9 : (9 : Int32).toInt = 9 := (by decide); have t10 : (10 : Int32).toInt = 10 := (by decide); have t11 : (11 : Int32).toInt = 11 := (by decide); have t12 : (12 : Int32).toInt = 12 := (by decide); have t13 : (13 : Int32).toInt = 13 := (by decide); have t14 : (14 : Int32).toInt = 14 := (by decide); have t15 : (15 : Int32).toInt = 15 := (by decide); have t16 : (16 : Int32).toInt = 16 := (by decide); have t17 : (17 : Int32).toInt = 17 := (by decide); have t18 : (18 : Int32).toInt = 18 := (by decide); have t19 : (19 : Int32).toInt = 19 := (by decide); have t20 : (20 : Int32).toInt = 20 := (by decide); have t21 : (21 : Int32).toInt = 21 := (by decide); have t22 : (22 : Int32).toInt = 22 := (by decide); have t23 : (23 : Int32).toInt = 23 := (by decide); have t24 : (24 : Int32).toInt = 24 := (by decide); have t25 : (25 : Int32).toInt = 25 := (by decide); have t26 : (26 : Int32).toInt = 26 := (by decide); have t27 : (27 : Int32).toInt = 27 := (by decide); have t28 : (28 : Int32).toInt = 28 := (by decide); have t29 : (29 : Int32).toInt = 29 := (by decide); have t30 : (30 : Int32).toInt = 30 := (by decide); have t31 : (31 : Int32).toInt = 31 := (by decide); have t32 : (32 : Int32).toInt = 32 := (by decide); have t33 : (33 : Int32).toInt = 33 := (by decide); have t34 : (34 : Int32).toInt = 34 := (by decide); have t35 : (35 : Int32).toInt = 35 := (by decide); have t36 : (36 : Int32).toInt = 36 := (by decide); have t37 : (37 : Int32).toInt = 37 := (by decide); have t38 : (38 : Int32).toInt = 38 := (by decide); simp only [← Int32.toInt_inj, t0, t1, t2, t3, t4, t5, t6, t7, t8, t9, t10, t11, t12, t13, t14, t15, t16, t17, t18, t19, t20, t21, t22, t23, t24, t25, t26, t27, t28, t29, t30, t31, t32, t33, t34, t35, t36, t37, t38] at c_0 c_1 c_2 c_3 c_4 c_5 c_6 c_7 c_8 c_9 c_10 c_11 c_12 c_13 c_14 c_15 c_16 c_17 c_18 c_19 c_20 c_21 c_22 c_23 c_24 c_25 c_26 c_27 c_28 c_29 c_30 c_31 c_32 c_33 c_34 c_35 c_36 c_37 c_38; omega) (by decide) ?_
  refine W.widen (k := 1000 + 10 * j + 10) (n := 100000 + 300 * j + 300) (by omega) (by omega) ?_
  exact law_next hflags hL C0 hAe hn hI hP hD hS hl
set_option maxHeartbeats 4000000 in
set_option maxRecDepth 100000 in
theorem law_all {p : Program} {l : Launch} {e : Env} {s : State} {m : MethodId} {below : List Frame} {meth : Method} {c : Code} (hflags : l.flags = flags0) {b L : Nat} {xs : Nat → Int32} (hL : L ≤ 3072) (C0 : lw_At p s m meth c b L xs) {E : EE} (hK : va_K E.1 vwCl (TY E) s) (hN : NX s) {A : Nat → Prop} (hAe : (fun q : Nat => s.heap.size ≤ q) = A) {z9 : Nat → Nat} (hZ : ZZ z9 A s s.heap) {K : Nat} (hK9 : 590295810358705651712 ≤ K) {xa_ xa_tape xa_tape_bytes xa_reader xa_reader_rules xa_reader_places xa_reader_steps xa_scripts xa_scripts_steps xa_scripts_counts xa_now xa_now_row xa_now_partners xa_now_share xa_now_leftOver xa_trial xa_trial_row xa_trial_partners xa_trial_share xa_trial_leftOver xa_kept xa_kept_row xa_kept_partners xa_kept_share xa_kept_leftOver xa_book xa_book_lines xa_keptBook xa_keptBook_lines xa_history xa_history_rows xa_draws xa_refused ma_ ma_tape ma_readPlace ma_script ma_scriptLong ma_now ma_refused ma_shareX ma_shareY ma_askedRow ma_kept ma_aside ma_spelled ma_image ao : Nat} : ∀ (r j : Nat), j + r = 513 → LwHd p l e s m below meth c b E A xa_ xa_tape xa_tape_bytes xa_reader xa_reader_rules xa_reader_places xa_reader_steps xa_scripts xa_scripts_steps xa_scripts_counts xa_now xa_now_row xa_now_partners xa_now_share xa_now_leftOver xa_trial xa_trial_row xa_trial_partners xa_trial_share xa_trial_leftOver xa_kept xa_kept_row xa_kept_partners xa_kept_share xa_kept_leftOver xa_book xa_book_lines xa_keptBook xa_keptBook_lines xa_history xa_history_rows xa_draws xa_refused ma_ ma_tape ma_readPlace ma_script ma_scriptLong ma_now ma_refused ma_shareX ma_shareY ma_askedRow ma_kept ma_aside ma_spelled ma_image ao j := by
  intro r
  induction r with
  | zero => exact fun j h => law_round hflags hL C0 hK hN hAe hZ hK9 (by omega) (fun q => by omega)
  | succ r ih => exact fun j h => law_round hflags hL C0 hK hN hAe hZ hK9 (by omega) (fun _ => ih (j + 1) (by omega))
